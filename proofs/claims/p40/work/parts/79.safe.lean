theorem sy_X6_readSum : ∀ (d : Nat) (o_me : Ob) (o_me_code : Ob) (p0 : Int32), IvX6 o_me → IvX0 12 400 o_me_code → 0 ≤ p0.toInt ∧ p0.toInt ≤ 8 → (gI o_me 8).toInt ≤ (gI o_me 2).toInt + 0 → 9 ≤ p0.toInt + (d : Int) → wp (fx_X6_readSum 12 400 d o_me o_me_code p0) (fun (y : Int32 × Ob × Ob) => (0 ≤ y.1.toInt ∧ y.1.toInt ≤ 1) ∧ IvX6 y.2.1 ∧ Kp [2, 4] [0] [] o_me y.2.1 ∧ IvX0 12 400 y.2.2 ∧ Kp [7] [1] [] o_me_code y.2.2 ∧ ((gI y.2.1 8).toInt ≤ (gI y.2.1 2).toInt + 0)) := by
  intro d
  induction d with
  | zero =>
    intro o_me o_me_code p0 h1 h2 h3 h4 h5
    exfalso; omega
  | succ d ih =>
    intro o_me o_me_code p0 h1 h2 h3 h4 h5
    exact s_X6_readSum (fx_X6_readSum 12 400 d) o_me o_me_code p0 (fun o c p g1 g2 g3 g4 g5 => (ih o c p g1 g2 g4 g5 (by omega))) h1 h2 h3 h4
theorem sx_X6_readSum (o_me : Ob) (o_me_code : Ob) (p0 : Int32) (hI_me : IvX6 o_me) (hI_me_code : IvX0 12 400 o_me_code) (q0 : 0 ≤ p0.toInt ∧ p0.toInt ≤ 8) (r0 : (gI o_me 8).toInt ≤ (gI o_me 2).toInt + 0) : wp (fx_X6_readSum 12 400 10 o_me o_me_code p0) (fun (y : Int32 × Ob × Ob) => (0 ≤ y.1.toInt ∧ y.1.toInt ≤ 1) ∧ IvX6 y.2.1 ∧ Kp [2, 4] [0] [] o_me y.2.1 ∧ IvX0 12 400 y.2.2 ∧ Kp [7] [1] [] o_me_code y.2.2 ∧ ((gI y.2.1 8).toInt ≤ (gI y.2.1 2).toInt + 0)) := sy_X6_readSum 10 o_me o_me_code p0 hI_me hI_me_code q0 r0 (by omega)


set_option maxHeartbeats 4000000 in
set_option maxRecDepth 100000 in
theorem s_X6_readPlain (rT : Ob → Ob → Int32 → Option (Int32 × Ob × Ob)) (o_me : Ob) (o_me_code : Ob) (p0 : Int32) (hrT : ∀ (o9 c9 : Ob) (p9 : Int32), IvX6 o9 → IvX0 12 400 c9 → p0.toInt < p9.toInt → 0 ≤ p9.toInt ∧ p9.toInt ≤ 8 → (gI o9 8).toInt ≤ (gI o9 2).toInt + 0 → wp (rT o9 c9 p9) (fun (y : Int32 × Ob × Ob) => (0 ≤ y.1.toInt ∧ y.1.toInt ≤ 1) ∧ IvX6 y.2.1 ∧ Kp [2, 4] [0] [] o9 y.2.1 ∧ IvX0 12 400 y.2.2 ∧ Kp [7] [1] [] c9 y.2.2 ∧ ((gI y.2.1 8).toInt ≤ (gI y.2.1 2).toInt + 0))) (hI_me : IvX6 o_me) (hI_me_code : IvX0 12 400 o_me_code) (q0 : 0 ≤ p0.toInt ∧ p0.toInt ≤ 8) (r0 : (gI o_me 8).toInt ≤ (gI o_me 2).toInt + 0) : wp (f_X6_readPlain rT 12 400 o_me o_me_code p0) (fun (y : Int32 × Ob × Ob) => (0 ≤ y.1.toInt ∧ y.1.toInt ≤ 1) ∧ IvX6 y.2.1 ∧ Kp [2, 4] [0] [] o_me y.2.1 ∧ IvX0 12 400 y.2.2 ∧ Kp [7] [1] [] o_me_code y.2.2 ∧ ((gI y.2.1 8).toInt ≤ (gI y.2.1 2).toInt + 0)) := by
  have li0 : (-1 : Int32).toInt = (-1) := by decide
  have li1 : (0 : Int32).toInt = 0 := by decide
  have li2 : (1 : Int32).toInt = 1 := by decide
  have li3 : (10 : Int32).toInt = 10 := by decide
  have li4 : (11 : Int32).toInt = 11 := by decide
  have li5 : (12 : Int32).toInt = 12 := by decide
  have li6 : (2 : Int32).toInt = 2 := by decide
  have li7 : (40 : Int32).toInt = 40 := by decide
  have li8 : (400 : Int32).toInt = 400 := by decide
  have li9 : (41 : Int32).toInt = 41 := by decide
  have li10 : (60 : Int32).toInt = 60 := by decide
  have li11 : (61 : Int32).toInt = 61 := by decide
  have li12 : (62 : Int32).toInt = 62 := by decide
  have li13 : (8 : Int32).toInt = 8 := by decide
  unfold f_X6_readPlain
  have lp1 : ∀ (N1 : Nat) (v1_1 : Int32) (v2_1 : Int32) (v3_1 : Int32) (o_me_1 : Ob) (o_me_code_1 : Ob), IvX6 o_me_1 → Kp [2, 4] [0] [] o_me o_me_1 → IvX0 12 400 o_me_code_1 → Kp [7] [1] [] o_me_code o_me_code_1 → (0 ≤ v1_1.toInt ∧ v1_1.toInt ≤ 8) → (0 ≤ v2_1.toInt ∧ v2_1.toInt ≤ 1) → (0 ≤ v3_1.toInt ∧ v3_1.toInt ≤ 400) → (0 ≤ (gI o_me_1 2).toInt ∧ (gI o_me_1 2).toInt ≤ 400) → (0 ≤ (gI o_me_1 8).toInt ∧ (gI o_me_1 8).toInt ≤ 400) → (v2_1.toInt ≤ v3_1.toInt + 0) → ((gI o_me_1 8).toInt ≤ (gI o_me_1 2).toInt + 0) → (v1_1.toInt ≤ p0.toInt + 0) → (p0.toInt ≤ v1_1.toInt + 0) → (400 - v3_1.toInt).toNat < N1 → wp (lp_X6_readPlain_4 rT 12 400  N1 (v1_1, v2_1, v3_1, o_me_1, o_me_code_1)) (fun (y : Int32 × Ob × Ob) => (0 ≤ y.1.toInt ∧ y.1.toInt ≤ 1) ∧ IvX6 y.2.1 ∧ Kp [2, 4] [0] [] o_me y.2.1 ∧ IvX0 12 400 y.2.2 ∧ Kp [7] [1] [] o_me_code y.2.2 ∧ ((gI y.2.1 8).toInt ≤ (gI y.2.1 2).toInt + 0)) := by
    intro N1
    induction N1 with
    | zero =>
      intro v1_1 v2_1 v3_1 o_me_1 o_me_code_1 hI_me_1 hkp_me_1 hI_me_code_1 hkp_me_code_1 hh5 hh6 hh7 hh8 hh9 hh10 hh11 hh12 hh13 hN1
      exact absurd hN1 (Nat.not_lt_zero _)
    | succ N1 ihx =>
      have ih1 := ihx
      intro v1_1 v2_1 v3_1 o_me_1 o_me_code_1 hI_me_1 hkp_me_1 hI_me_code_1 hkp_me_code_1 hh5 hh6 hh7 hh8 hh9 hh10 hh11 hh12 hh13 hN1
      show wp (lb_X6_readPlain_4 rT 12 400  (lp_X6_readPlain_4 rT 12 400  N1) v1_1 v2_1 v3_1 o_me_1 o_me_code_1) (fun (y : Int32 × Ob × Ob) => (0 ≤ y.1.toInt ∧ y.1.toInt ≤ 1) ∧ IvX6 y.2.1 ∧ Kp [2, 4] [0] [] o_me y.2.1 ∧ IvX0 12 400 y.2.2 ∧ Kp [7] [1] [] o_me_code y.2.2 ∧ ((gI y.2.1 8).toInt ≤ (gI y.2.1 2).toInt + 0))
      unfold lb_X6_readPlain_4
      refine wp_if (fun c14 => ?_) (fun c14 => ?_)
      · have c14 := cv_ge (a := v3_1.toInt) (b := 400) rfl (by decide) c14
        unfold bk_X6_readPlain_40
        refine wp_bd (s_X6_isSign   o_me_1 (40 : Int32)  hI_me_1  ) (fun z15 hz15 => ?_)
        have hz15_0 := hz15
        refine wp_if (fun c16 => ?_) (fun c16 => ?_)
        · have c16 := cv_eq (a := z15.toInt) (b := 0) rfl (by decide) c16
          refine wp_bd (sx_X6_readSum   o_me_1 o_me_code_1 v1_1  hI_me_1 hI_me_code_1  ⟨hh5.1, hh5.2⟩ hh11) (fun z17 hz17 => ?_)
          obtain ⟨hz17_0, hz17_1, hz17_2, hz17_3, hz17_4, hz17_5⟩ := hz17
          have hkpz17_me : Kp [2, 4] [0] [] o_me z17.2.1 := hkp_me_1.trans (hz17_2.mono (by decide) (by decide) (by decide))
          have kz17_k18 : (gI z17.2.1 2).toInt = (gI o_me_1 2).toInt := congrArg Int32.toInt (hz17_2.1 2 (by decide))
          have hkpz17_me_code : Kp [7] [1] [] o_me_code z17.2.2 := hkp_me_code_1.trans (hz17_4.mono (by decide) (by decide) (by decide))
          refine wp_if (fun c19 => ?_) (fun c19 => ?_)
          · have c19 := cv_eq (a := z17.1.toInt) (b := 0) rfl (by decide) c19
            refine wp_some ?_
            have t20 := igX6_8 hz17_1
            exact (show (0 ≤ (0 : Int32).toInt ∧ (0 : Int32).toInt ≤ 1) ∧ IvX6 z17.2.1 ∧ Kp [2, 4] [0] [] o_me z17.2.1 ∧ IvX0 12 400 z17.2.2 ∧ Kp [7] [1] [] o_me_code z17.2.2 ∧ ((gI z17.2.1 8).toInt ≤ (gI z17.2.1 2).toInt + 0) from ⟨⟨by decide, by decide⟩, hz17_1, hkpz17_me, hz17_3, hkpz17_me_code, hz17_5⟩)
          · have c19z := c19
            have c19 := cv_ne (a := z17.1.toInt) (b := 0) rfl (by decide) c19
            refine wp_bd (s_X6_isSign   z17.2.1 (60 : Int32)  hz17_1  ) (fun z21 hz21 => ?_)
            have hz21_0 := hz21
            refine wp_if (fun c22 => ?_) (fun c22 => ?_)
            · have c22 := cv_eq (a := z21.toInt) (b := 0) rfl (by decide) c22
              refine wp_bd (s_X6_isSign   z17.2.1 (62 : Int32)  hz17_1  ) (fun z23 hz23 => ?_)
              have hz23_0 := hz23
              refine wp_if (fun c24 => ?_) (fun c24 => ?_)
              · have c24 := cv_eq (a := z23.toInt) (b := 0) rfl (by decide) c24
                refine wp_bd (s_X6_isSign   z17.2.1 (61 : Int32)  hz17_1  ) (fun z25 hz25 => ?_)
                have hz25_0 := hz25
                refine wp_if (fun c26 => ?_) (fun c26 => ?_)
                · have c26 := cv_eq (a := z25.toInt) (b := 0) rfl (by decide) c26
                  obtain ⟨w27, ew27⟩ : ∃ z : Int32, z = (-1 : Int32) := ⟨_, rfl⟩
                  have tw27 : w27.toInt = (-1) := by rw [ew27]; decide
                  rw [show bk_X6_readPlain_150 rT 12 400  v1_1 v2_1 (-1 : Int32) z17.2.1 z17.2.2 = bk_X6_readPlain_150 rT 12 400  v1_1 v2_1 w27 z17.2.1 z17.2.2 from by rw [ew27]]
                  unfold bk_X6_readPlain_150
                  refine wp_if (fun c28 => ?_) (fun c28 => ?_)
                  · have c28 := cv_eq (a := w27.toInt) (b := (-1)) rfl (by decide) c28
                    refine wp_bd (s_X6_stop   z17.2.1  hz17_1  ) (fun z29 hz29 => ?_)
                    obtain ⟨hz29_0, hz29_1, hz29_2⟩ := hz29
                    have hkpz29_me : Kp [2, 4] [0] [] o_me z29.2 := hkpz17_me.trans (hz29_2.mono (by decide) (by decide) (by decide))
                    have kz29_k30 : (gI z29.2 2).toInt = (gI z17.2.1 2).toInt := congrArg Int32.toInt (hz29_2.1 2 (by decide))
                    have kz29_k31 : (gI z29.2 8).toInt = (gI z17.2.1 8).toInt := congrArg Int32.toInt (hz29_2.1 8 (by decide))
                    refine wp_gd (zbo_of hz29_0.1 (Int.le_trans hz29_0.2 (by decide))) ?_
                    refine wp_some ?_
                    have t32 := igX6_8 hz29_1
                    exact (show (0 ≤ z29.1.toInt ∧ z29.1.toInt ≤ 1) ∧ IvX6 z29.2 ∧ Kp [2, 4] [0] [] o_me z29.2 ∧ IvX0 12 400 z17.2.2 ∧ Kp [7] [1] [] o_me_code z17.2.2 ∧ ((gI z29.2 8).toInt ≤ (gI z29.2 2).toInt + 0) from ⟨⟨hz29_0.1, (Int.le_trans hz29_0.2 (by decide))⟩, hz29_1, hkpz29_me, hz17_3, hkpz17_me_code, (zd_e (c := 0) (zd_e (c := 0) (zq_0 kz29_k31) hz17_5 (by decide)) (zq_0 kz29_k30.symm) (by decide))⟩)
                  · have c28 := cv_ne (a := w27.toInt) (b := (-1)) rfl (by decide) c28
                    exact absurd (Int.le_antisymm (Int.le_of_eq tw27) (Int.le_of_eq tw27.symm)) c28
                · have c26z := c26
                  have c26 := cv_ne (a := z25.toInt) (b := 0) rfl (by decide) c26
                  obtain ⟨w33, ew33⟩ : ∃ z : Int32, z = (12 : Int32) := ⟨_, rfl⟩
                  have tw33 : w33.toInt = 12 := by rw [ew33]; decide
                  rw [show bk_X6_readPlain_150 rT 12 400  v1_1 v2_1 (12 : Int32) z17.2.1 z17.2.2 = bk_X6_readPlain_150 rT 12 400  v1_1 v2_1 w33 z17.2.1 z17.2.2 from by rw [ew33]]
                  unfold bk_X6_readPlain_150
                  refine wp_if (fun c34 => ?_) (fun c34 => ?_)
                  · have c34 := cv_eq (a := w33.toInt) (b := (-1)) rfl (by decide) c34
                    exact absurd c34 (zne_r (k := (-1)) (l := 12) (by decide) (Int.le_of_eq tw33.symm) (by decide))
                  · have c34 := cv_ne (a := w33.toInt) (b := (-1)) rfl (by decide) c34
                    have t36 := igX6_8 hz17_1
                    refine wp_bd (s_X6_step   z17.2.1  hz17_1  hz17_5) (fun z35 hz35 => ?_)
                    obtain ⟨hz35_0, hz35_1, hz35_2⟩ := hz35
                    have hkpz35_me : Kp [2, 4] [0] [] o_me z35 := hkpz17_me.trans (hz35_1.mono (by decide) (by decide) (by decide))
                    have kz35_k37 : (gI z35 2).toInt = (gI z17.2.1 2).toInt := congrArg Int32.toInt (hz35_1.1 2 (by decide))
                    have t39 := igX6_8 hz35_0
                    refine wp_bd (sx_X6_readSum   z35 z17.2.2 v1_1  hz35_0 hz17_3  ⟨hh5.1, hh5.2⟩ hz35_2) (fun z38 hz38 => ?_)
                    obtain ⟨hz38_0, hz38_1, hz38_2, hz38_3, hz38_4, hz38_5⟩ := hz38
                    have hkpz38_me : Kp [2, 4] [0] [] o_me z38.2.1 := hkpz35_me.trans (hz38_2.mono (by decide) (by decide) (by decide))
                    have kz38_k40 : (gI z38.2.1 2).toInt = (gI z35 2).toInt := congrArg Int32.toInt (hz38_2.1 2 (by decide))
                    have hkpz38_me_code : Kp [7] [1] [] o_me_code z38.2.2 := hkpz17_me_code.trans (hz38_4.mono (by decide) (by decide) (by decide))
                    refine wp_if (fun c41 => ?_) (fun c41 => ?_)
                    · have c41 := cv_eq (a := z38.1.toInt) (b := 0) rfl (by decide) c41
                      refine wp_some ?_
                      have t42 := igX6_8 hz38_1
                      exact (show (0 ≤ (0 : Int32).toInt ∧ (0 : Int32).toInt ≤ 1) ∧ IvX6 z38.2.1 ∧ Kp [2, 4] [0] [] o_me z38.2.1 ∧ IvX0 12 400 z38.2.2 ∧ Kp [7] [1] [] o_me_code z38.2.2 ∧ ((gI z38.2.1 8).toInt ≤ (gI z38.2.1 2).toInt + 0) from ⟨⟨by decide, by decide⟩, hz38_1, hkpz38_me, hz38_3, hkpz38_me_code, hz38_5⟩)
                    · have c41z := c41
                      have c41 := cv_ne (a := z38.1.toInt) (b := 0) rfl (by decide) c41
                      refine wp_bd (s_X0_add  12 400 z38.2.2 w33 (0 : Int32)  hz38_3  ) (fun z43 hz43 => ?_)
                      obtain ⟨hz43_0, hz43_1, hz43_2⟩ := hz43
                      have hkpz43_me_code : Kp [7] [1] [] o_me_code z43.2 := hkpz38_me_code.trans (hz43_2.mono (by decide) (by decide) (by decide))
                      unfold bk_X6_readPlain_185
                      refine wp_if (fun c44 => ?_) (fun c44 => ?_)
                      · have c44 := cv_eq (a := v2_1.toInt) (b := 0) rfl (by decide) c44
                        refine wp_some ?_
                        have t45 := igX6_8 hz38_1
                        exact (show (0 ≤ (1 : Int32).toInt ∧ (1 : Int32).toInt ≤ 1) ∧ IvX6 z38.2.1 ∧ Kp [2, 4] [0] [] o_me z38.2.1 ∧ IvX0 12 400 z43.2 ∧ Kp [7] [1] [] o_me_code z43.2 ∧ ((gI z38.2.1 8).toInt ≤ (gI z38.2.1 2).toInt + 0) from ⟨⟨by decide, by decide⟩, hz38_1, hkpz38_me, hz43_1, hkpz43_me_code, hz38_5⟩)
                      · have c44z := c44
                        have c44 := cv_ne (a := v2_1.toInt) (b := 0) rfl (by decide) c44
                        refine wp_bd (s_X0_add  12 400 z43.2 (2 : Int32) (0 : Int32)  hz43_1  ) (fun z46 hz46 => ?_)
                        obtain ⟨hz46_0, hz46_1, hz46_2⟩ := hz46
                        have hkpz46_me_code : Kp [7] [1] [] o_me_code z46.2 := hkpz43_me_code.trans (hz46_2.mono (by decide) (by decide) (by decide))
                        refine wp_some ?_
                        have t47 := igX6_8 hz38_1
                        exact (show (0 ≤ (1 : Int32).toInt ∧ (1 : Int32).toInt ≤ 1) ∧ IvX6 z38.2.1 ∧ Kp [2, 4] [0] [] o_me z38.2.1 ∧ IvX0 12 400 z46.2 ∧ Kp [7] [1] [] o_me_code z46.2 ∧ ((gI z38.2.1 8).toInt ≤ (gI z38.2.1 2).toInt + 0) from ⟨⟨by decide, by decide⟩, hz38_1, hkpz38_me, hz46_1, hkpz46_me_code, hz38_5⟩)
              · have c24z := c24
                have c24 := cv_ne (a := z23.toInt) (b := 0) rfl (by decide) c24
                obtain ⟨w48, ew48⟩ : ∃ z : Int32, z = (11 : Int32) := ⟨_, rfl⟩
                have tw48 : w48.toInt = 11 := by rw [ew48]; decide
                rw [show bk_X6_readPlain_150 rT 12 400  v1_1 v2_1 (11 : Int32) z17.2.1 z17.2.2 = bk_X6_readPlain_150 rT 12 400  v1_1 v2_1 w48 z17.2.1 z17.2.2 from by rw [ew48]]
                unfold bk_X6_readPlain_150
                refine wp_if (fun c49 => ?_) (fun c49 => ?_)
                · have c49 := cv_eq (a := w48.toInt) (b := (-1)) rfl (by decide) c49
                  exact absurd c49 (zne_r (k := (-1)) (l := 11) (by decide) (Int.le_of_eq tw48.symm) (by decide))
                · have c49 := cv_ne (a := w48.toInt) (b := (-1)) rfl (by decide) c49
                  have t51 := igX6_8 hz17_1
                  refine wp_bd (s_X6_step   z17.2.1  hz17_1  hz17_5) (fun z50 hz50 => ?_)
                  obtain ⟨hz50_0, hz50_1, hz50_2⟩ := hz50
                  have hkpz50_me : Kp [2, 4] [0] [] o_me z50 := hkpz17_me.trans (hz50_1.mono (by decide) (by decide) (by decide))
                  have kz50_k52 : (gI z50 2).toInt = (gI z17.2.1 2).toInt := congrArg Int32.toInt (hz50_1.1 2 (by decide))
                  have t54 := igX6_8 hz50_0
                  refine wp_bd (sx_X6_readSum   z50 z17.2.2 v1_1  hz50_0 hz17_3  ⟨hh5.1, hh5.2⟩ hz50_2) (fun z53 hz53 => ?_)
                  obtain ⟨hz53_0, hz53_1, hz53_2, hz53_3, hz53_4, hz53_5⟩ := hz53
                  have hkpz53_me : Kp [2, 4] [0] [] o_me z53.2.1 := hkpz50_me.trans (hz53_2.mono (by decide) (by decide) (by decide))
                  have kz53_k55 : (gI z53.2.1 2).toInt = (gI z50 2).toInt := congrArg Int32.toInt (hz53_2.1 2 (by decide))
                  have hkpz53_me_code : Kp [7] [1] [] o_me_code z53.2.2 := hkpz17_me_code.trans (hz53_4.mono (by decide) (by decide) (by decide))
                  refine wp_if (fun c56 => ?_) (fun c56 => ?_)
                  · have c56 := cv_eq (a := z53.1.toInt) (b := 0) rfl (by decide) c56
                    refine wp_some ?_
                    have t57 := igX6_8 hz53_1
                    exact (show (0 ≤ (0 : Int32).toInt ∧ (0 : Int32).toInt ≤ 1) ∧ IvX6 z53.2.1 ∧ Kp [2, 4] [0] [] o_me z53.2.1 ∧ IvX0 12 400 z53.2.2 ∧ Kp [7] [1] [] o_me_code z53.2.2 ∧ ((gI z53.2.1 8).toInt ≤ (gI z53.2.1 2).toInt + 0) from ⟨⟨by decide, by decide⟩, hz53_1, hkpz53_me, hz53_3, hkpz53_me_code, hz53_5⟩)
                  · have c56z := c56
                    have c56 := cv_ne (a := z53.1.toInt) (b := 0) rfl (by decide) c56
                    refine wp_bd (s_X0_add  12 400 z53.2.2 w48 (0 : Int32)  hz53_3  ) (fun z58 hz58 => ?_)
                    obtain ⟨hz58_0, hz58_1, hz58_2⟩ := hz58
                    have hkpz58_me_code : Kp [7] [1] [] o_me_code z58.2 := hkpz53_me_code.trans (hz58_2.mono (by decide) (by decide) (by decide))
                    unfold bk_X6_readPlain_185
                    refine wp_if (fun c59 => ?_) (fun c59 => ?_)
                    · have c59 := cv_eq (a := v2_1.toInt) (b := 0) rfl (by decide) c59
                      refine wp_some ?_
                      have t60 := igX6_8 hz53_1
                      exact (show (0 ≤ (1 : Int32).toInt ∧ (1 : Int32).toInt ≤ 1) ∧ IvX6 z53.2.1 ∧ Kp [2, 4] [0] [] o_me z53.2.1 ∧ IvX0 12 400 z58.2 ∧ Kp [7] [1] [] o_me_code z58.2 ∧ ((gI z53.2.1 8).toInt ≤ (gI z53.2.1 2).toInt + 0) from ⟨⟨by decide, by decide⟩, hz53_1, hkpz53_me, hz58_1, hkpz58_me_code, hz53_5⟩)
                    · have c59z := c59
                      have c59 := cv_ne (a := v2_1.toInt) (b := 0) rfl (by decide) c59
                      refine wp_bd (s_X0_add  12 400 z58.2 (2 : Int32) (0 : Int32)  hz58_1  ) (fun z61 hz61 => ?_)
                      obtain ⟨hz61_0, hz61_1, hz61_2⟩ := hz61
                      have hkpz61_me_code : Kp [7] [1] [] o_me_code z61.2 := hkpz58_me_code.trans (hz61_2.mono (by decide) (by decide) (by decide))
                      refine wp_some ?_
                      have t62 := igX6_8 hz53_1
                      exact (show (0 ≤ (1 : Int32).toInt ∧ (1 : Int32).toInt ≤ 1) ∧ IvX6 z53.2.1 ∧ Kp [2, 4] [0] [] o_me z53.2.1 ∧ IvX0 12 400 z61.2 ∧ Kp [7] [1] [] o_me_code z61.2 ∧ ((gI z53.2.1 8).toInt ≤ (gI z53.2.1 2).toInt + 0) from ⟨⟨by decide, by decide⟩, hz53_1, hkpz53_me, hz61_1, hkpz61_me_code, hz53_5⟩)
            · have c22z := c22
              have c22 := cv_ne (a := z21.toInt) (b := 0) rfl (by decide) c22
              obtain ⟨w63, ew63⟩ : ∃ z : Int32, z = (10 : Int32) := ⟨_, rfl⟩
              have tw63 : w63.toInt = 10 := by rw [ew63]; decide
              rw [show bk_X6_readPlain_150 rT 12 400  v1_1 v2_1 (10 : Int32) z17.2.1 z17.2.2 = bk_X6_readPlain_150 rT 12 400  v1_1 v2_1 w63 z17.2.1 z17.2.2 from by rw [ew63]]
              unfold bk_X6_readPlain_150
              refine wp_if (fun c64 => ?_) (fun c64 => ?_)
              · have c64 := cv_eq (a := w63.toInt) (b := (-1)) rfl (by decide) c64
                exact absurd c64 (zne_r (k := (-1)) (l := 10) (by decide) (Int.le_of_eq tw63.symm) (by decide))
              · have c64 := cv_ne (a := w63.toInt) (b := (-1)) rfl (by decide) c64
                have t66 := igX6_8 hz17_1
                refine wp_bd (s_X6_step   z17.2.1  hz17_1  hz17_5) (fun z65 hz65 => ?_)
                obtain ⟨hz65_0, hz65_1, hz65_2⟩ := hz65
                have hkpz65_me : Kp [2, 4] [0] [] o_me z65 := hkpz17_me.trans (hz65_1.mono (by decide) (by decide) (by decide))
                have kz65_k67 : (gI z65 2).toInt = (gI z17.2.1 2).toInt := congrArg Int32.toInt (hz65_1.1 2 (by decide))
                have t69 := igX6_8 hz65_0
                refine wp_bd (sx_X6_readSum   z65 z17.2.2 v1_1  hz65_0 hz17_3  ⟨hh5.1, hh5.2⟩ hz65_2) (fun z68 hz68 => ?_)
                obtain ⟨hz68_0, hz68_1, hz68_2, hz68_3, hz68_4, hz68_5⟩ := hz68
                have hkpz68_me : Kp [2, 4] [0] [] o_me z68.2.1 := hkpz65_me.trans (hz68_2.mono (by decide) (by decide) (by decide))
                have kz68_k70 : (gI z68.2.1 2).toInt = (gI z65 2).toInt := congrArg Int32.toInt (hz68_2.1 2 (by decide))
                have hkpz68_me_code : Kp [7] [1] [] o_me_code z68.2.2 := hkpz17_me_code.trans (hz68_4.mono (by decide) (by decide) (by decide))
                refine wp_if (fun c71 => ?_) (fun c71 => ?_)
                · have c71 := cv_eq (a := z68.1.toInt) (b := 0) rfl (by decide) c71
                  refine wp_some ?_
                  have t72 := igX6_8 hz68_1
                  exact (show (0 ≤ (0 : Int32).toInt ∧ (0 : Int32).toInt ≤ 1) ∧ IvX6 z68.2.1 ∧ Kp [2, 4] [0] [] o_me z68.2.1 ∧ IvX0 12 400 z68.2.2 ∧ Kp [7] [1] [] o_me_code z68.2.2 ∧ ((gI z68.2.1 8).toInt ≤ (gI z68.2.1 2).toInt + 0) from ⟨⟨by decide, by decide⟩, hz68_1, hkpz68_me, hz68_3, hkpz68_me_code, hz68_5⟩)
                · have c71z := c71
                  have c71 := cv_ne (a := z68.1.toInt) (b := 0) rfl (by decide) c71
                  refine wp_bd (s_X0_add  12 400 z68.2.2 w63 (0 : Int32)  hz68_3  ) (fun z73 hz73 => ?_)
                  obtain ⟨hz73_0, hz73_1, hz73_2⟩ := hz73
                  have hkpz73_me_code : Kp [7] [1] [] o_me_code z73.2 := hkpz68_me_code.trans (hz73_2.mono (by decide) (by decide) (by decide))
                  unfold bk_X6_readPlain_185
                  refine wp_if (fun c74 => ?_) (fun c74 => ?_)
                  · have c74 := cv_eq (a := v2_1.toInt) (b := 0) rfl (by decide) c74
                    refine wp_some ?_
                    have t75 := igX6_8 hz68_1
                    exact (show (0 ≤ (1 : Int32).toInt ∧ (1 : Int32).toInt ≤ 1) ∧ IvX6 z68.2.1 ∧ Kp [2, 4] [0] [] o_me z68.2.1 ∧ IvX0 12 400 z73.2 ∧ Kp [7] [1] [] o_me_code z73.2 ∧ ((gI z68.2.1 8).toInt ≤ (gI z68.2.1 2).toInt + 0) from ⟨⟨by decide, by decide⟩, hz68_1, hkpz68_me, hz73_1, hkpz73_me_code, hz68_5⟩)
                  · have c74z := c74
                    have c74 := cv_ne (a := v2_1.toInt) (b := 0) rfl (by decide) c74
                    refine wp_bd (s_X0_add  12 400 z73.2 (2 : Int32) (0 : Int32)  hz73_1  ) (fun z76 hz76 => ?_)
                    obtain ⟨hz76_0, hz76_1, hz76_2⟩ := hz76
                    have hkpz76_me_code : Kp [7] [1] [] o_me_code z76.2 := hkpz73_me_code.trans (hz76_2.mono (by decide) (by decide) (by decide))
                    refine wp_some ?_
                    have t77 := igX6_8 hz68_1
                    exact (show (0 ≤ (1 : Int32).toInt ∧ (1 : Int32).toInt ≤ 1) ∧ IvX6 z68.2.1 ∧ Kp [2, 4] [0] [] o_me z68.2.1 ∧ IvX0 12 400 z76.2 ∧ Kp [7] [1] [] o_me_code z76.2 ∧ ((gI z68.2.1 8).toInt ≤ (gI z68.2.1 2).toInt + 0) from ⟨⟨by decide, by decide⟩, hz68_1, hkpz68_me, hz76_1, hkpz76_me_code, hz68_5⟩)
        · have c16z := c16
          have c16 := cv_ne (a := z15.toInt) (b := 0) rfl (by decide) c16
          refine wp_if (fun c78 => ?_) (fun c78 => ?_)
          · have c78 := cv_lt (a := v1_1.toInt) (b := 8) rfl (by decide) c78
            refine wp_bd (s_X6_step   o_me_1  hI_me_1  hh11) (fun z79 hz79 => ?_)
            obtain ⟨hz79_0, hz79_1, hz79_2⟩ := hz79
            have hkpz79_me : Kp [2, 4] [0] [] o_me z79 := hkp_me_1.trans (hz79_1.mono (by decide) (by decide) (by decide))
            have kz79_k80 : (gI z79 2).toInt = (gI o_me_1 2).toInt := congrArg Int32.toInt (hz79_1.1 2 (by decide))
            have t81 : (v1_1 + (1 : Int32)).toInt = v1_1.toInt + 1 := i32_add rfl (by decide) (zk_l hh5.1 (by decide)) (zk_u (zlt_u (c := 7) c78 (by decide)) (by decide))
            have t83 := igX6_8 hz79_0
            refine wp_bd (hrT   z79 o_me_code_1 (v1_1 + (1 : Int32))  hz79_0 hI_me_code_1 (by omega) ⟨(zl_e (zq_r (c := (-1)) t81 (by decide)) hh5.1 (by decide)), (zu_e (Int.le_of_eq t81) (zlt_u (c := 7) c78 (by decide)) (by decide))⟩ hz79_2) (fun z82 hz82 => ?_)
            obtain ⟨hz82_0, hz82_1, hz82_2, hz82_3, hz82_4, hz82_5⟩ := hz82
            have hkpz82_me : Kp [2, 4] [0] [] o_me z82.2.1 := hkpz79_me.trans (hz82_2.mono (by decide) (by decide) (by decide))
            have kz82_k84 : (gI z82.2.1 2).toInt = (gI z79 2).toInt := congrArg Int32.toInt (hz82_2.1 2 (by decide))
            have hkpz82_me_code : Kp [7] [1] [] o_me_code z82.2.2 := hkp_me_code_1.trans (hz82_4.mono (by decide) (by decide) (by decide))
            refine wp_if (fun c85 => ?_) (fun c85 => ?_)
            · have c85 := cv_eq (a := z82.1.toInt) (b := 0) rfl (by decide) c85
              refine wp_some ?_
              have t86 := igX6_8 hz82_1
              exact (show (0 ≤ (0 : Int32).toInt ∧ (0 : Int32).toInt ≤ 1) ∧ IvX6 z82.2.1 ∧ Kp [2, 4] [0] [] o_me z82.2.1 ∧ IvX0 12 400 z82.2.2 ∧ Kp [7] [1] [] o_me_code z82.2.2 ∧ ((gI z82.2.1 8).toInt ≤ (gI z82.2.1 2).toInt + 0) from ⟨⟨by decide, by decide⟩, hz82_1, hkpz82_me, hz82_3, hkpz82_me_code, hz82_5⟩)
            · have c85z := c85
              have c85 := cv_ne (a := z82.1.toInt) (b := 0) rfl (by decide) c85
              refine wp_bd (s_X6_isSign   z82.2.1 (41 : Int32)  hz82_1  ) (fun z87 hz87 => ?_)
              have hz87_0 := hz87
              refine wp_if (fun c88 => ?_) (fun c88 => ?_)
              · have c88 := cv_eq (a := z87.toInt) (b := 0) rfl (by decide) c88
                refine wp_bd (s_X6_stop   z82.2.1  hz82_1  ) (fun z89 hz89 => ?_)
                obtain ⟨hz89_0, hz89_1, hz89_2⟩ := hz89
                have hkpz89_me : Kp [2, 4] [0] [] o_me z89.2 := hkpz82_me.trans (hz89_2.mono (by decide) (by decide) (by decide))
                have kz89_k90 : (gI z89.2 2).toInt = (gI z82.2.1 2).toInt := congrArg Int32.toInt (hz89_2.1 2 (by decide))
                have kz89_k91 : (gI z89.2 8).toInt = (gI z82.2.1 8).toInt := congrArg Int32.toInt (hz89_2.1 8 (by decide))
                refine wp_gd (zbo_of hz89_0.1 (Int.le_trans hz89_0.2 (by decide))) ?_
                refine wp_some ?_
                have t92 := igX6_8 hz89_1
                exact (show (0 ≤ z89.1.toInt ∧ z89.1.toInt ≤ 1) ∧ IvX6 z89.2 ∧ Kp [2, 4] [0] [] o_me z89.2 ∧ IvX0 12 400 z82.2.2 ∧ Kp [7] [1] [] o_me_code z82.2.2 ∧ ((gI z89.2 8).toInt ≤ (gI z89.2 2).toInt + 0) from ⟨⟨hz89_0.1, (Int.le_trans hz89_0.2 (by decide))⟩, hz89_1, hkpz89_me, hz82_3, hkpz82_me_code, (zd_e (c := 0) (zd_e (c := 0) (zq_0 kz89_k91) hz82_5 (by decide)) (zq_0 kz89_k90.symm) (by decide))⟩)
              · have c88z := c88
                have c88 := cv_ne (a := z87.toInt) (b := 0) rfl (by decide) c88
                have t94 := igX6_8 hz82_1
                refine wp_bd (s_X6_step   z82.2.1  hz82_1  hz82_5) (fun z93 hz93 => ?_)
                obtain ⟨hz93_0, hz93_1, hz93_2⟩ := hz93
                have hkpz93_me : Kp [2, 4] [0] [] o_me z93 := hkpz82_me.trans (hz93_1.mono (by decide) (by decide) (by decide))
                have kz93_k95 : (gI z93 2).toInt = (gI z82.2.1 2).toInt := congrArg Int32.toInt (hz93_1.1 2 (by decide))
                unfold bk_X6_readPlain_185
                refine wp_if (fun c96 => ?_) (fun c96 => ?_)
                · have c96 := cv_eq (a := v2_1.toInt) (b := 0) rfl (by decide) c96
                  refine wp_some ?_
                  have t97 := igX6_8 hz93_0
                  exact (show (0 ≤ (1 : Int32).toInt ∧ (1 : Int32).toInt ≤ 1) ∧ IvX6 z93 ∧ Kp [2, 4] [0] [] o_me z93 ∧ IvX0 12 400 z82.2.2 ∧ Kp [7] [1] [] o_me_code z82.2.2 ∧ ((gI z93 8).toInt ≤ (gI z93 2).toInt + 0) from ⟨⟨by decide, by decide⟩, hz93_0, hkpz93_me, hz82_3, hkpz82_me_code, hz93_2⟩)
                · have c96z := c96
                  have c96 := cv_ne (a := v2_1.toInt) (b := 0) rfl (by decide) c96
                  refine wp_bd (s_X0_add  12 400 z82.2.2 (2 : Int32) (0 : Int32)  hz82_3  ) (fun z98 hz98 => ?_)
                  obtain ⟨hz98_0, hz98_1, hz98_2⟩ := hz98
                  have hkpz98_me_code : Kp [7] [1] [] o_me_code z98.2 := hkpz82_me_code.trans (hz98_2.mono (by decide) (by decide) (by decide))
                  refine wp_some ?_
                  have t99 := igX6_8 hz93_0
                  exact (show (0 ≤ (1 : Int32).toInt ∧ (1 : Int32).toInt ≤ 1) ∧ IvX6 z93 ∧ Kp [2, 4] [0] [] o_me z93 ∧ IvX0 12 400 z98.2 ∧ Kp [7] [1] [] o_me_code z98.2 ∧ ((gI z93 8).toInt ≤ (gI z93 2).toInt + 0) from ⟨⟨by decide, by decide⟩, hz93_0, hkpz93_me, hz98_1, hkpz98_me_code, hz93_2⟩)
          · have c78 := cv_nlt (a := v1_1.toInt) (b := 8) rfl (by decide) c78
            refine wp_bd (s_X6_stop   o_me_1  hI_me_1  ) (fun z100 hz100 => ?_)
            obtain ⟨hz100_0, hz100_1, hz100_2⟩ := hz100
            have hkpz100_me : Kp [2, 4] [0] [] o_me z100.2 := hkp_me_1.trans (hz100_2.mono (by decide) (by decide) (by decide))
            have kz100_k101 : (gI z100.2 2).toInt = (gI o_me_1 2).toInt := congrArg Int32.toInt (hz100_2.1 2 (by decide))
            have kz100_k102 : (gI z100.2 8).toInt = (gI o_me_1 8).toInt := congrArg Int32.toInt (hz100_2.1 8 (by decide))
            refine wp_gd (zbo_of hz100_0.1 (Int.le_trans hz100_0.2 (by decide))) ?_
            refine wp_some ?_
            exact (show (0 ≤ z100.1.toInt ∧ z100.1.toInt ≤ 1) ∧ IvX6 z100.2 ∧ Kp [2, 4] [0] [] o_me z100.2 ∧ IvX0 12 400 o_me_code_1 ∧ Kp [7] [1] [] o_me_code o_me_code_1 ∧ ((gI z100.2 8).toInt ≤ (gI z100.2 2).toInt + 0) from ⟨⟨hz100_0.1, (Int.le_trans hz100_0.2 (by decide))⟩, hz100_1, hkpz100_me, hI_me_code_1, hkp_me_code_1, (zd_e (c := 0) (zd_e (c := 0) (zq_0 kz100_k102) hh11 (by decide)) (zq_0 kz100_k101.symm) (by decide))⟩)
      · have c14 := cv_nge (a := v3_1.toInt) (b := 400) rfl (by decide) c14
        refine wp_bd (s_X6_isWord   o_me_1 6  hI_me_1 (by decide) ) (fun z103 hz103 => ?_)
        have hz103_0 := hz103
        refine wp_if (fun c104 => ?_) (fun c104 => ?_)
        · have c104 := cv_eq (a := z103.toInt) (b := 0) rfl (by decide) c104
          unfold bk_X6_readPlain_40
          refine wp_bd (s_X6_isSign   o_me_1 (40 : Int32)  hI_me_1  ) (fun z105 hz105 => ?_)
          have hz105_0 := hz105
          refine wp_if (fun c106 => ?_) (fun c106 => ?_)
          · have c106 := cv_eq (a := z105.toInt) (b := 0) rfl (by decide) c106
            refine wp_bd (sx_X6_readSum   o_me_1 o_me_code_1 v1_1  hI_me_1 hI_me_code_1  ⟨hh5.1, hh5.2⟩ hh11) (fun z107 hz107 => ?_)
            obtain ⟨hz107_0, hz107_1, hz107_2, hz107_3, hz107_4, hz107_5⟩ := hz107
            have hkpz107_me : Kp [2, 4] [0] [] o_me z107.2.1 := hkp_me_1.trans (hz107_2.mono (by decide) (by decide) (by decide))
            have kz107_k108 : (gI z107.2.1 2).toInt = (gI o_me_1 2).toInt := congrArg Int32.toInt (hz107_2.1 2 (by decide))
            have hkpz107_me_code : Kp [7] [1] [] o_me_code z107.2.2 := hkp_me_code_1.trans (hz107_4.mono (by decide) (by decide) (by decide))
            refine wp_if (fun c109 => ?_) (fun c109 => ?_)
            · have c109 := cv_eq (a := z107.1.toInt) (b := 0) rfl (by decide) c109
              refine wp_some ?_
              have t110 := igX6_8 hz107_1
              exact (show (0 ≤ (0 : Int32).toInt ∧ (0 : Int32).toInt ≤ 1) ∧ IvX6 z107.2.1 ∧ Kp [2, 4] [0] [] o_me z107.2.1 ∧ IvX0 12 400 z107.2.2 ∧ Kp [7] [1] [] o_me_code z107.2.2 ∧ ((gI z107.2.1 8).toInt ≤ (gI z107.2.1 2).toInt + 0) from ⟨⟨by decide, by decide⟩, hz107_1, hkpz107_me, hz107_3, hkpz107_me_code, hz107_5⟩)
            · have c109z := c109
              have c109 := cv_ne (a := z107.1.toInt) (b := 0) rfl (by decide) c109
              refine wp_bd (s_X6_isSign   z107.2.1 (60 : Int32)  hz107_1  ) (fun z111 hz111 => ?_)
              have hz111_0 := hz111
              refine wp_if (fun c112 => ?_) (fun c112 => ?_)
              · have c112 := cv_eq (a := z111.toInt) (b := 0) rfl (by decide) c112
                refine wp_bd (s_X6_isSign   z107.2.1 (62 : Int32)  hz107_1  ) (fun z113 hz113 => ?_)
                have hz113_0 := hz113
                refine wp_if (fun c114 => ?_) (fun c114 => ?_)
                · have c114 := cv_eq (a := z113.toInt) (b := 0) rfl (by decide) c114
                  refine wp_bd (s_X6_isSign   z107.2.1 (61 : Int32)  hz107_1  ) (fun z115 hz115 => ?_)
                  have hz115_0 := hz115
                  refine wp_if (fun c116 => ?_) (fun c116 => ?_)
                  · have c116 := cv_eq (a := z115.toInt) (b := 0) rfl (by decide) c116
                    obtain ⟨w117, ew117⟩ : ∃ z : Int32, z = (-1 : Int32) := ⟨_, rfl⟩
                    have tw117 : w117.toInt = (-1) := by rw [ew117]; decide
                    rw [show bk_X6_readPlain_150 rT 12 400  v1_1 v2_1 (-1 : Int32) z107.2.1 z107.2.2 = bk_X6_readPlain_150 rT 12 400  v1_1 v2_1 w117 z107.2.1 z107.2.2 from by rw [ew117]]
                    unfold bk_X6_readPlain_150
                    refine wp_if (fun c118 => ?_) (fun c118 => ?_)
                    · have c118 := cv_eq (a := w117.toInt) (b := (-1)) rfl (by decide) c118
                      refine wp_bd (s_X6_stop   z107.2.1  hz107_1  ) (fun z119 hz119 => ?_)
                      obtain ⟨hz119_0, hz119_1, hz119_2⟩ := hz119
                      have hkpz119_me : Kp [2, 4] [0] [] o_me z119.2 := hkpz107_me.trans (hz119_2.mono (by decide) (by decide) (by decide))
                      have kz119_k120 : (gI z119.2 2).toInt = (gI z107.2.1 2).toInt := congrArg Int32.toInt (hz119_2.1 2 (by decide))
                      have kz119_k121 : (gI z119.2 8).toInt = (gI z107.2.1 8).toInt := congrArg Int32.toInt (hz119_2.1 8 (by decide))
                      refine wp_gd (zbo_of hz119_0.1 (Int.le_trans hz119_0.2 (by decide))) ?_
                      refine wp_some ?_
                      have t122 := igX6_8 hz119_1
                      exact (show (0 ≤ z119.1.toInt ∧ z119.1.toInt ≤ 1) ∧ IvX6 z119.2 ∧ Kp [2, 4] [0] [] o_me z119.2 ∧ IvX0 12 400 z107.2.2 ∧ Kp [7] [1] [] o_me_code z107.2.2 ∧ ((gI z119.2 8).toInt ≤ (gI z119.2 2).toInt + 0) from ⟨⟨hz119_0.1, (Int.le_trans hz119_0.2 (by decide))⟩, hz119_1, hkpz119_me, hz107_3, hkpz107_me_code, (zd_e (c := 0) (zd_e (c := 0) (zq_0 kz119_k121) hz107_5 (by decide)) (zq_0 kz119_k120.symm) (by decide))⟩)
                    · have c118 := cv_ne (a := w117.toInt) (b := (-1)) rfl (by decide) c118
                      exact absurd (Int.le_antisymm (Int.le_of_eq tw117) (Int.le_of_eq tw117.symm)) c118
                  · have c116z := c116
                    have c116 := cv_ne (a := z115.toInt) (b := 0) rfl (by decide) c116
                    obtain ⟨w123, ew123⟩ : ∃ z : Int32, z = (12 : Int32) := ⟨_, rfl⟩
                    have tw123 : w123.toInt = 12 := by rw [ew123]; decide
                    rw [show bk_X6_readPlain_150 rT 12 400  v1_1 v2_1 (12 : Int32) z107.2.1 z107.2.2 = bk_X6_readPlain_150 rT 12 400  v1_1 v2_1 w123 z107.2.1 z107.2.2 from by rw [ew123]]
                    unfold bk_X6_readPlain_150
                    refine wp_if (fun c124 => ?_) (fun c124 => ?_)
                    · have c124 := cv_eq (a := w123.toInt) (b := (-1)) rfl (by decide) c124
                      exact absurd c124 (zne_r (k := (-1)) (l := 12) (by decide) (Int.le_of_eq tw123.symm) (by decide))
                    · have c124 := cv_ne (a := w123.toInt) (b := (-1)) rfl (by decide) c124
                      have t126 := igX6_8 hz107_1
                      refine wp_bd (s_X6_step   z107.2.1  hz107_1  hz107_5) (fun z125 hz125 => ?_)
                      obtain ⟨hz125_0, hz125_1, hz125_2⟩ := hz125
                      have hkpz125_me : Kp [2, 4] [0] [] o_me z125 := hkpz107_me.trans (hz125_1.mono (by decide) (by decide) (by decide))
                      have kz125_k127 : (gI z125 2).toInt = (gI z107.2.1 2).toInt := congrArg Int32.toInt (hz125_1.1 2 (by decide))
                      have t129 := igX6_8 hz125_0
                      refine wp_bd (sx_X6_readSum   z125 z107.2.2 v1_1  hz125_0 hz107_3  ⟨hh5.1, hh5.2⟩ hz125_2) (fun z128 hz128 => ?_)
                      obtain ⟨hz128_0, hz128_1, hz128_2, hz128_3, hz128_4, hz128_5⟩ := hz128
                      have hkpz128_me : Kp [2, 4] [0] [] o_me z128.2.1 := hkpz125_me.trans (hz128_2.mono (by decide) (by decide) (by decide))
                      have kz128_k130 : (gI z128.2.1 2).toInt = (gI z125 2).toInt := congrArg Int32.toInt (hz128_2.1 2 (by decide))
                      have hkpz128_me_code : Kp [7] [1] [] o_me_code z128.2.2 := hkpz107_me_code.trans (hz128_4.mono (by decide) (by decide) (by decide))
                      refine wp_if (fun c131 => ?_) (fun c131 => ?_)
                      · have c131 := cv_eq (a := z128.1.toInt) (b := 0) rfl (by decide) c131
                        refine wp_some ?_
                        have t132 := igX6_8 hz128_1
                        exact (show (0 ≤ (0 : Int32).toInt ∧ (0 : Int32).toInt ≤ 1) ∧ IvX6 z128.2.1 ∧ Kp [2, 4] [0] [] o_me z128.2.1 ∧ IvX0 12 400 z128.2.2 ∧ Kp [7] [1] [] o_me_code z128.2.2 ∧ ((gI z128.2.1 8).toInt ≤ (gI z128.2.1 2).toInt + 0) from ⟨⟨by decide, by decide⟩, hz128_1, hkpz128_me, hz128_3, hkpz128_me_code, hz128_5⟩)
                      · have c131z := c131
                        have c131 := cv_ne (a := z128.1.toInt) (b := 0) rfl (by decide) c131
                        refine wp_bd (s_X0_add  12 400 z128.2.2 w123 (0 : Int32)  hz128_3  ) (fun z133 hz133 => ?_)
                        obtain ⟨hz133_0, hz133_1, hz133_2⟩ := hz133
                        have hkpz133_me_code : Kp [7] [1] [] o_me_code z133.2 := hkpz128_me_code.trans (hz133_2.mono (by decide) (by decide) (by decide))
                        unfold bk_X6_readPlain_185
                        refine wp_if (fun c134 => ?_) (fun c134 => ?_)
                        · have c134 := cv_eq (a := v2_1.toInt) (b := 0) rfl (by decide) c134
                          refine wp_some ?_
                          have t135 := igX6_8 hz128_1
                          exact (show (0 ≤ (1 : Int32).toInt ∧ (1 : Int32).toInt ≤ 1) ∧ IvX6 z128.2.1 ∧ Kp [2, 4] [0] [] o_me z128.2.1 ∧ IvX0 12 400 z133.2 ∧ Kp [7] [1] [] o_me_code z133.2 ∧ ((gI z128.2.1 8).toInt ≤ (gI z128.2.1 2).toInt + 0) from ⟨⟨by decide, by decide⟩, hz128_1, hkpz128_me, hz133_1, hkpz133_me_code, hz128_5⟩)
                        · have c134z := c134
                          have c134 := cv_ne (a := v2_1.toInt) (b := 0) rfl (by decide) c134
                          refine wp_bd (s_X0_add  12 400 z133.2 (2 : Int32) (0 : Int32)  hz133_1  ) (fun z136 hz136 => ?_)
                          obtain ⟨hz136_0, hz136_1, hz136_2⟩ := hz136
                          have hkpz136_me_code : Kp [7] [1] [] o_me_code z136.2 := hkpz133_me_code.trans (hz136_2.mono (by decide) (by decide) (by decide))
                          refine wp_some ?_
                          have t137 := igX6_8 hz128_1
                          exact (show (0 ≤ (1 : Int32).toInt ∧ (1 : Int32).toInt ≤ 1) ∧ IvX6 z128.2.1 ∧ Kp [2, 4] [0] [] o_me z128.2.1 ∧ IvX0 12 400 z136.2 ∧ Kp [7] [1] [] o_me_code z136.2 ∧ ((gI z128.2.1 8).toInt ≤ (gI z128.2.1 2).toInt + 0) from ⟨⟨by decide, by decide⟩, hz128_1, hkpz128_me, hz136_1, hkpz136_me_code, hz128_5⟩)
                · have c114z := c114
                  have c114 := cv_ne (a := z113.toInt) (b := 0) rfl (by decide) c114
                  obtain ⟨w138, ew138⟩ : ∃ z : Int32, z = (11 : Int32) := ⟨_, rfl⟩
                  have tw138 : w138.toInt = 11 := by rw [ew138]; decide
                  rw [show bk_X6_readPlain_150 rT 12 400  v1_1 v2_1 (11 : Int32) z107.2.1 z107.2.2 = bk_X6_readPlain_150 rT 12 400  v1_1 v2_1 w138 z107.2.1 z107.2.2 from by rw [ew138]]
                  unfold bk_X6_readPlain_150
                  refine wp_if (fun c139 => ?_) (fun c139 => ?_)
                  · have c139 := cv_eq (a := w138.toInt) (b := (-1)) rfl (by decide) c139
                    exact absurd c139 (zne_r (k := (-1)) (l := 11) (by decide) (Int.le_of_eq tw138.symm) (by decide))
                  · have c139 := cv_ne (a := w138.toInt) (b := (-1)) rfl (by decide) c139
                    have t141 := igX6_8 hz107_1
                    refine wp_bd (s_X6_step   z107.2.1  hz107_1  hz107_5) (fun z140 hz140 => ?_)
                    obtain ⟨hz140_0, hz140_1, hz140_2⟩ := hz140
                    have hkpz140_me : Kp [2, 4] [0] [] o_me z140 := hkpz107_me.trans (hz140_1.mono (by decide) (by decide) (by decide))
                    have kz140_k142 : (gI z140 2).toInt = (gI z107.2.1 2).toInt := congrArg Int32.toInt (hz140_1.1 2 (by decide))
                    have t144 := igX6_8 hz140_0
                    refine wp_bd (sx_X6_readSum   z140 z107.2.2 v1_1  hz140_0 hz107_3  ⟨hh5.1, hh5.2⟩ hz140_2) (fun z143 hz143 => ?_)
                    obtain ⟨hz143_0, hz143_1, hz143_2, hz143_3, hz143_4, hz143_5⟩ := hz143
                    have hkpz143_me : Kp [2, 4] [0] [] o_me z143.2.1 := hkpz140_me.trans (hz143_2.mono (by decide) (by decide) (by decide))
                    have kz143_k145 : (gI z143.2.1 2).toInt = (gI z140 2).toInt := congrArg Int32.toInt (hz143_2.1 2 (by decide))
                    have hkpz143_me_code : Kp [7] [1] [] o_me_code z143.2.2 := hkpz107_me_code.trans (hz143_4.mono (by decide) (by decide) (by decide))
                    refine wp_if (fun c146 => ?_) (fun c146 => ?_)
                    · have c146 := cv_eq (a := z143.1.toInt) (b := 0) rfl (by decide) c146
                      refine wp_some ?_
                      have t147 := igX6_8 hz143_1
                      exact (show (0 ≤ (0 : Int32).toInt ∧ (0 : Int32).toInt ≤ 1) ∧ IvX6 z143.2.1 ∧ Kp [2, 4] [0] [] o_me z143.2.1 ∧ IvX0 12 400 z143.2.2 ∧ Kp [7] [1] [] o_me_code z143.2.2 ∧ ((gI z143.2.1 8).toInt ≤ (gI z143.2.1 2).toInt + 0) from ⟨⟨by decide, by decide⟩, hz143_1, hkpz143_me, hz143_3, hkpz143_me_code, hz143_5⟩)
                    · have c146z := c146
                      have c146 := cv_ne (a := z143.1.toInt) (b := 0) rfl (by decide) c146
                      refine wp_bd (s_X0_add  12 400 z143.2.2 w138 (0 : Int32)  hz143_3  ) (fun z148 hz148 => ?_)
                      obtain ⟨hz148_0, hz148_1, hz148_2⟩ := hz148
                      have hkpz148_me_code : Kp [7] [1] [] o_me_code z148.2 := hkpz143_me_code.trans (hz148_2.mono (by decide) (by decide) (by decide))
                      unfold bk_X6_readPlain_185
                      refine wp_if (fun c149 => ?_) (fun c149 => ?_)
                      · have c149 := cv_eq (a := v2_1.toInt) (b := 0) rfl (by decide) c149
                        refine wp_some ?_
                        have t150 := igX6_8 hz143_1
                        exact (show (0 ≤ (1 : Int32).toInt ∧ (1 : Int32).toInt ≤ 1) ∧ IvX6 z143.2.1 ∧ Kp [2, 4] [0] [] o_me z143.2.1 ∧ IvX0 12 400 z148.2 ∧ Kp [7] [1] [] o_me_code z148.2 ∧ ((gI z143.2.1 8).toInt ≤ (gI z143.2.1 2).toInt + 0) from ⟨⟨by decide, by decide⟩, hz143_1, hkpz143_me, hz148_1, hkpz148_me_code, hz143_5⟩)
                      · have c149z := c149
                        have c149 := cv_ne (a := v2_1.toInt) (b := 0) rfl (by decide) c149
                        refine wp_bd (s_X0_add  12 400 z148.2 (2 : Int32) (0 : Int32)  hz148_1  ) (fun z151 hz151 => ?_)
                        obtain ⟨hz151_0, hz151_1, hz151_2⟩ := hz151
                        have hkpz151_me_code : Kp [7] [1] [] o_me_code z151.2 := hkpz148_me_code.trans (hz151_2.mono (by decide) (by decide) (by decide))
                        refine wp_some ?_
                        have t152 := igX6_8 hz143_1
                        exact (show (0 ≤ (1 : Int32).toInt ∧ (1 : Int32).toInt ≤ 1) ∧ IvX6 z143.2.1 ∧ Kp [2, 4] [0] [] o_me z143.2.1 ∧ IvX0 12 400 z151.2 ∧ Kp [7] [1] [] o_me_code z151.2 ∧ ((gI z143.2.1 8).toInt ≤ (gI z143.2.1 2).toInt + 0) from ⟨⟨by decide, by decide⟩, hz143_1, hkpz143_me, hz151_1, hkpz151_me_code, hz143_5⟩)
              · have c112z := c112
                have c112 := cv_ne (a := z111.toInt) (b := 0) rfl (by decide) c112
                obtain ⟨w153, ew153⟩ : ∃ z : Int32, z = (10 : Int32) := ⟨_, rfl⟩
                have tw153 : w153.toInt = 10 := by rw [ew153]; decide
                rw [show bk_X6_readPlain_150 rT 12 400  v1_1 v2_1 (10 : Int32) z107.2.1 z107.2.2 = bk_X6_readPlain_150 rT 12 400  v1_1 v2_1 w153 z107.2.1 z107.2.2 from by rw [ew153]]
                unfold bk_X6_readPlain_150
                refine wp_if (fun c154 => ?_) (fun c154 => ?_)
                · have c154 := cv_eq (a := w153.toInt) (b := (-1)) rfl (by decide) c154
                  exact absurd c154 (zne_r (k := (-1)) (l := 10) (by decide) (Int.le_of_eq tw153.symm) (by decide))
                · have c154 := cv_ne (a := w153.toInt) (b := (-1)) rfl (by decide) c154
                  have t156 := igX6_8 hz107_1
                  refine wp_bd (s_X6_step   z107.2.1  hz107_1  hz107_5) (fun z155 hz155 => ?_)
                  obtain ⟨hz155_0, hz155_1, hz155_2⟩ := hz155
                  have hkpz155_me : Kp [2, 4] [0] [] o_me z155 := hkpz107_me.trans (hz155_1.mono (by decide) (by decide) (by decide))
                  have kz155_k157 : (gI z155 2).toInt = (gI z107.2.1 2).toInt := congrArg Int32.toInt (hz155_1.1 2 (by decide))
                  have t159 := igX6_8 hz155_0
                  refine wp_bd (sx_X6_readSum   z155 z107.2.2 v1_1  hz155_0 hz107_3  ⟨hh5.1, hh5.2⟩ hz155_2) (fun z158 hz158 => ?_)
                  obtain ⟨hz158_0, hz158_1, hz158_2, hz158_3, hz158_4, hz158_5⟩ := hz158
                  have hkpz158_me : Kp [2, 4] [0] [] o_me z158.2.1 := hkpz155_me.trans (hz158_2.mono (by decide) (by decide) (by decide))
                  have kz158_k160 : (gI z158.2.1 2).toInt = (gI z155 2).toInt := congrArg Int32.toInt (hz158_2.1 2 (by decide))
                  have hkpz158_me_code : Kp [7] [1] [] o_me_code z158.2.2 := hkpz107_me_code.trans (hz158_4.mono (by decide) (by decide) (by decide))
                  refine wp_if (fun c161 => ?_) (fun c161 => ?_)
                  · have c161 := cv_eq (a := z158.1.toInt) (b := 0) rfl (by decide) c161
                    refine wp_some ?_
                    have t162 := igX6_8 hz158_1
                    exact (show (0 ≤ (0 : Int32).toInt ∧ (0 : Int32).toInt ≤ 1) ∧ IvX6 z158.2.1 ∧ Kp [2, 4] [0] [] o_me z158.2.1 ∧ IvX0 12 400 z158.2.2 ∧ Kp [7] [1] [] o_me_code z158.2.2 ∧ ((gI z158.2.1 8).toInt ≤ (gI z158.2.1 2).toInt + 0) from ⟨⟨by decide, by decide⟩, hz158_1, hkpz158_me, hz158_3, hkpz158_me_code, hz158_5⟩)
                  · have c161z := c161
                    have c161 := cv_ne (a := z158.1.toInt) (b := 0) rfl (by decide) c161
                    refine wp_bd (s_X0_add  12 400 z158.2.2 w153 (0 : Int32)  hz158_3  ) (fun z163 hz163 => ?_)
                    obtain ⟨hz163_0, hz163_1, hz163_2⟩ := hz163
                    have hkpz163_me_code : Kp [7] [1] [] o_me_code z163.2 := hkpz158_me_code.trans (hz163_2.mono (by decide) (by decide) (by decide))
                    unfold bk_X6_readPlain_185
                    refine wp_if (fun c164 => ?_) (fun c164 => ?_)
                    · have c164 := cv_eq (a := v2_1.toInt) (b := 0) rfl (by decide) c164
                      refine wp_some ?_
                      have t165 := igX6_8 hz158_1
                      exact (show (0 ≤ (1 : Int32).toInt ∧ (1 : Int32).toInt ≤ 1) ∧ IvX6 z158.2.1 ∧ Kp [2, 4] [0] [] o_me z158.2.1 ∧ IvX0 12 400 z163.2 ∧ Kp [7] [1] [] o_me_code z163.2 ∧ ((gI z158.2.1 8).toInt ≤ (gI z158.2.1 2).toInt + 0) from ⟨⟨by decide, by decide⟩, hz158_1, hkpz158_me, hz163_1, hkpz163_me_code, hz158_5⟩)
                    · have c164z := c164
                      have c164 := cv_ne (a := v2_1.toInt) (b := 0) rfl (by decide) c164
                      refine wp_bd (s_X0_add  12 400 z163.2 (2 : Int32) (0 : Int32)  hz163_1  ) (fun z166 hz166 => ?_)
                      obtain ⟨hz166_0, hz166_1, hz166_2⟩ := hz166
                      have hkpz166_me_code : Kp [7] [1] [] o_me_code z166.2 := hkpz163_me_code.trans (hz166_2.mono (by decide) (by decide) (by decide))
                      refine wp_some ?_
                      have t167 := igX6_8 hz158_1
                      exact (show (0 ≤ (1 : Int32).toInt ∧ (1 : Int32).toInt ≤ 1) ∧ IvX6 z158.2.1 ∧ Kp [2, 4] [0] [] o_me z158.2.1 ∧ IvX0 12 400 z166.2 ∧ Kp [7] [1] [] o_me_code z166.2 ∧ ((gI z158.2.1 8).toInt ≤ (gI z158.2.1 2).toInt + 0) from ⟨⟨by decide, by decide⟩, hz158_1, hkpz158_me, hz166_1, hkpz166_me_code, hz158_5⟩)
          · have c106z := c106
            have c106 := cv_ne (a := z105.toInt) (b := 0) rfl (by decide) c106
            refine wp_if (fun c168 => ?_) (fun c168 => ?_)
            · have c168 := cv_lt (a := v1_1.toInt) (b := 8) rfl (by decide) c168
              refine wp_bd (s_X6_step   o_me_1  hI_me_1  hh11) (fun z169 hz169 => ?_)
              obtain ⟨hz169_0, hz169_1, hz169_2⟩ := hz169
              have hkpz169_me : Kp [2, 4] [0] [] o_me z169 := hkp_me_1.trans (hz169_1.mono (by decide) (by decide) (by decide))
              have kz169_k170 : (gI z169 2).toInt = (gI o_me_1 2).toInt := congrArg Int32.toInt (hz169_1.1 2 (by decide))
              have t171 : (v1_1 + (1 : Int32)).toInt = v1_1.toInt + 1 := i32_add rfl (by decide) (zk_l hh5.1 (by decide)) (zk_u (zlt_u (c := 7) c168 (by decide)) (by decide))
              have t173 := igX6_8 hz169_0
              refine wp_bd (hrT   z169 o_me_code_1 (v1_1 + (1 : Int32))  hz169_0 hI_me_code_1 (by omega) ⟨(zl_e (zq_r (c := (-1)) t171 (by decide)) hh5.1 (by decide)), (zu_e (Int.le_of_eq t171) (zlt_u (c := 7) c168 (by decide)) (by decide))⟩ hz169_2) (fun z172 hz172 => ?_)
              obtain ⟨hz172_0, hz172_1, hz172_2, hz172_3, hz172_4, hz172_5⟩ := hz172
              have hkpz172_me : Kp [2, 4] [0] [] o_me z172.2.1 := hkpz169_me.trans (hz172_2.mono (by decide) (by decide) (by decide))
              have kz172_k174 : (gI z172.2.1 2).toInt = (gI z169 2).toInt := congrArg Int32.toInt (hz172_2.1 2 (by decide))
              have hkpz172_me_code : Kp [7] [1] [] o_me_code z172.2.2 := hkp_me_code_1.trans (hz172_4.mono (by decide) (by decide) (by decide))
              refine wp_if (fun c175 => ?_) (fun c175 => ?_)
              · have c175 := cv_eq (a := z172.1.toInt) (b := 0) rfl (by decide) c175
                refine wp_some ?_
                have t176 := igX6_8 hz172_1
                exact (show (0 ≤ (0 : Int32).toInt ∧ (0 : Int32).toInt ≤ 1) ∧ IvX6 z172.2.1 ∧ Kp [2, 4] [0] [] o_me z172.2.1 ∧ IvX0 12 400 z172.2.2 ∧ Kp [7] [1] [] o_me_code z172.2.2 ∧ ((gI z172.2.1 8).toInt ≤ (gI z172.2.1 2).toInt + 0) from ⟨⟨by decide, by decide⟩, hz172_1, hkpz172_me, hz172_3, hkpz172_me_code, hz172_5⟩)
              · have c175z := c175
                have c175 := cv_ne (a := z172.1.toInt) (b := 0) rfl (by decide) c175
                refine wp_bd (s_X6_isSign   z172.2.1 (41 : Int32)  hz172_1  ) (fun z177 hz177 => ?_)
                have hz177_0 := hz177
                refine wp_if (fun c178 => ?_) (fun c178 => ?_)
                · have c178 := cv_eq (a := z177.toInt) (b := 0) rfl (by decide) c178
                  refine wp_bd (s_X6_stop   z172.2.1  hz172_1  ) (fun z179 hz179 => ?_)
                  obtain ⟨hz179_0, hz179_1, hz179_2⟩ := hz179
                  have hkpz179_me : Kp [2, 4] [0] [] o_me z179.2 := hkpz172_me.trans (hz179_2.mono (by decide) (by decide) (by decide))
                  have kz179_k180 : (gI z179.2 2).toInt = (gI z172.2.1 2).toInt := congrArg Int32.toInt (hz179_2.1 2 (by decide))
                  have kz179_k181 : (gI z179.2 8).toInt = (gI z172.2.1 8).toInt := congrArg Int32.toInt (hz179_2.1 8 (by decide))
                  refine wp_gd (zbo_of hz179_0.1 (Int.le_trans hz179_0.2 (by decide))) ?_
                  refine wp_some ?_
                  have t182 := igX6_8 hz179_1
                  exact (show (0 ≤ z179.1.toInt ∧ z179.1.toInt ≤ 1) ∧ IvX6 z179.2 ∧ Kp [2, 4] [0] [] o_me z179.2 ∧ IvX0 12 400 z172.2.2 ∧ Kp [7] [1] [] o_me_code z172.2.2 ∧ ((gI z179.2 8).toInt ≤ (gI z179.2 2).toInt + 0) from ⟨⟨hz179_0.1, (Int.le_trans hz179_0.2 (by decide))⟩, hz179_1, hkpz179_me, hz172_3, hkpz172_me_code, (zd_e (c := 0) (zd_e (c := 0) (zq_0 kz179_k181) hz172_5 (by decide)) (zq_0 kz179_k180.symm) (by decide))⟩)
                · have c178z := c178
                  have c178 := cv_ne (a := z177.toInt) (b := 0) rfl (by decide) c178
                  have t184 := igX6_8 hz172_1
                  refine wp_bd (s_X6_step   z172.2.1  hz172_1  hz172_5) (fun z183 hz183 => ?_)
                  obtain ⟨hz183_0, hz183_1, hz183_2⟩ := hz183
                  have hkpz183_me : Kp [2, 4] [0] [] o_me z183 := hkpz172_me.trans (hz183_1.mono (by decide) (by decide) (by decide))
                  have kz183_k185 : (gI z183 2).toInt = (gI z172.2.1 2).toInt := congrArg Int32.toInt (hz183_1.1 2 (by decide))
                  unfold bk_X6_readPlain_185
                  refine wp_if (fun c186 => ?_) (fun c186 => ?_)
                  · have c186 := cv_eq (a := v2_1.toInt) (b := 0) rfl (by decide) c186
                    refine wp_some ?_
                    have t187 := igX6_8 hz183_0
                    exact (show (0 ≤ (1 : Int32).toInt ∧ (1 : Int32).toInt ≤ 1) ∧ IvX6 z183 ∧ Kp [2, 4] [0] [] o_me z183 ∧ IvX0 12 400 z172.2.2 ∧ Kp [7] [1] [] o_me_code z172.2.2 ∧ ((gI z183 8).toInt ≤ (gI z183 2).toInt + 0) from ⟨⟨by decide, by decide⟩, hz183_0, hkpz183_me, hz172_3, hkpz172_me_code, hz183_2⟩)
                  · have c186z := c186
                    have c186 := cv_ne (a := v2_1.toInt) (b := 0) rfl (by decide) c186
                    refine wp_bd (s_X0_add  12 400 z172.2.2 (2 : Int32) (0 : Int32)  hz172_3  ) (fun z188 hz188 => ?_)
                    obtain ⟨hz188_0, hz188_1, hz188_2⟩ := hz188
                    have hkpz188_me_code : Kp [7] [1] [] o_me_code z188.2 := hkpz172_me_code.trans (hz188_2.mono (by decide) (by decide) (by decide))
                    refine wp_some ?_
                    have t189 := igX6_8 hz183_0
                    exact (show (0 ≤ (1 : Int32).toInt ∧ (1 : Int32).toInt ≤ 1) ∧ IvX6 z183 ∧ Kp [2, 4] [0] [] o_me z183 ∧ IvX0 12 400 z188.2 ∧ Kp [7] [1] [] o_me_code z188.2 ∧ ((gI z183 8).toInt ≤ (gI z183 2).toInt + 0) from ⟨⟨by decide, by decide⟩, hz183_0, hkpz183_me, hz188_1, hkpz188_me_code, hz183_2⟩)
            · have c168 := cv_nlt (a := v1_1.toInt) (b := 8) rfl (by decide) c168
              refine wp_bd (s_X6_stop   o_me_1  hI_me_1  ) (fun z190 hz190 => ?_)
              obtain ⟨hz190_0, hz190_1, hz190_2⟩ := hz190
              have hkpz190_me : Kp [2, 4] [0] [] o_me z190.2 := hkp_me_1.trans (hz190_2.mono (by decide) (by decide) (by decide))
              have kz190_k191 : (gI z190.2 2).toInt = (gI o_me_1 2).toInt := congrArg Int32.toInt (hz190_2.1 2 (by decide))
              have kz190_k192 : (gI z190.2 8).toInt = (gI o_me_1 8).toInt := congrArg Int32.toInt (hz190_2.1 8 (by decide))
              refine wp_gd (zbo_of hz190_0.1 (Int.le_trans hz190_0.2 (by decide))) ?_
              refine wp_some ?_
              exact (show (0 ≤ z190.1.toInt ∧ z190.1.toInt ≤ 1) ∧ IvX6 z190.2 ∧ Kp [2, 4] [0] [] o_me z190.2 ∧ IvX0 12 400 o_me_code_1 ∧ Kp [7] [1] [] o_me_code o_me_code_1 ∧ ((gI z190.2 8).toInt ≤ (gI z190.2 2).toInt + 0) from ⟨⟨hz190_0.1, (Int.le_trans hz190_0.2 (by decide))⟩, hz190_1, hkpz190_me, hI_me_code_1, hkp_me_code_1, (zd_e (c := 0) (zd_e (c := 0) (zq_0 kz190_k192) hh11 (by decide)) (zq_0 kz190_k191.symm) (by decide))⟩)
        · have c104z := c104
          have c104 := cv_ne (a := z103.toInt) (b := 0) rfl (by decide) c104
          refine wp_bd (s_X6_step   o_me_1  hI_me_1  hh11) (fun z193 hz193 => ?_)
          obtain ⟨hz193_0, hz193_1, hz193_2⟩ := hz193
          have hkpz193_me : Kp [2, 4] [0] [] o_me z193 := hkp_me_1.trans (hz193_1.mono (by decide) (by decide) (by decide))
          have kz193_k194 : (gI z193 2).toInt = (gI o_me_1 2).toInt := congrArg Int32.toInt (hz193_1.1 2 (by decide))
          refine wp_if (fun c195 => ?_) (fun c195 => ?_)
          · have c195 := cv_eq (a := v2_1.toInt) (b := 0) rfl (by decide) c195
            obtain ⟨w196, ew196⟩ : ∃ z : Int32, z = (1 : Int32) := ⟨_, rfl⟩
            have tw196 : w196.toInt = 1 := by rw [ew196]; decide
            rw [show bk_X6_readPlain_33 rT 12 400 (lp_X6_readPlain_4 rT 12 400  N1) v1_1 v3_1 (1 : Int32) z193 o_me_code_1 = bk_X6_readPlain_33 rT 12 400 (lp_X6_readPlain_4 rT 12 400  N1) v1_1 v3_1 w196 z193 o_me_code_1 from by rw [ew196]]
            unfold bk_X6_readPlain_33
            refine wp_lt (fun x197 ex197 => ?_)
            have tx197 : x197.toInt = v3_1.toInt + 1 := by rw [ex197]; exact i32_add rfl (by decide) (zk_l hh7.1 (by decide)) (zk_u (zlt_u (c := 399) c14 (by decide)) (by decide))
            have t198 := igX6_8 hz193_0
            exact ih1 v1_1 w196 x197 z193 o_me_code_1 hz193_0 hkpz193_me hI_me_code_1 hkp_me_code_1 ⟨hh5.1, hh5.2⟩ ⟨(Int.le_trans (by decide) (Int.le_of_eq tw196.symm)), (Int.le_of_eq tw196)⟩ ⟨(zl_e (zq_r (c := (-1)) tx197 (by decide)) hh7.1 (by decide)), (zu_e (Int.le_of_eq tx197) (zlt_u (c := 399) c14 (by decide)) (by decide))⟩ ⟨(zl_e (zq_0 kz193_k194.symm) hh8.1 (by decide)), (zu_e (zq_0 kz193_k194) hh8.2 (by decide))⟩ ⟨t198.1, (zu_e (zd_e (c := 0) hz193_2 (zq_0 kz193_k194) (by decide)) hh8.2 (by decide))⟩ (zd_b (Int.le_of_eq tw196) (zl_e (k := 1) (zq_r (c := (-1)) tx197 (by decide)) hh7.1 (by decide)) (by decide)) hz193_2 hh12 hh13 (zms_u (c := 399) hN1 (zq_r (c := (-1)) tx197 (by decide)) (zlt_u (c := 399) c14 (by decide)) (by decide))
          · have c195z := c195
            have c195 := cv_ne (a := v2_1.toInt) (b := 0) rfl (by decide) c195
            obtain ⟨w199, ew199⟩ : ∃ z : Int32, z = (0 : Int32) := ⟨_, rfl⟩
            have tw199 : w199.toInt = 0 := by rw [ew199]; decide
            rw [show bk_X6_readPlain_33 rT 12 400 (lp_X6_readPlain_4 rT 12 400  N1) v1_1 v3_1 (0 : Int32) z193 o_me_code_1 = bk_X6_readPlain_33 rT 12 400 (lp_X6_readPlain_4 rT 12 400  N1) v1_1 v3_1 w199 z193 o_me_code_1 from by rw [ew199]]
            unfold bk_X6_readPlain_33
            refine wp_lt (fun x200 ex200 => ?_)
            have tx200 : x200.toInt = v3_1.toInt + 1 := by rw [ex200]; exact i32_add rfl (by decide) (zk_l hh7.1 (by decide)) (zk_u (zlt_u (c := 399) c14 (by decide)) (by decide))
            have t201 := igX6_8 hz193_0
            exact ih1 v1_1 w199 x200 z193 o_me_code_1 hz193_0 hkpz193_me hI_me_code_1 hkp_me_code_1 ⟨hh5.1, hh5.2⟩ ⟨(Int.le_of_eq tw199.symm), (Int.le_trans (Int.le_of_eq tw199) (by decide))⟩ ⟨(zl_e (zq_r (c := (-1)) tx200 (by decide)) hh7.1 (by decide)), (zu_e (Int.le_of_eq tx200) (zlt_u (c := 399) c14 (by decide)) (by decide))⟩ ⟨(zl_e (zq_0 kz193_k194.symm) hh8.1 (by decide)), (zu_e (zq_0 kz193_k194) hh8.2 (by decide))⟩ ⟨t201.1, (zu_e (zd_e (c := 0) hz193_2 (zq_0 kz193_k194) (by decide)) hh8.2 (by decide))⟩ (zd_b (Int.le_of_eq tw199) (zl_e (k := 1) (zq_r (c := (-1)) tx200 (by decide)) hh7.1 (by decide)) (by decide)) hz193_2 hh12 hh13 (zms_u (c := 399) hN1 (zq_r (c := (-1)) tx200 (by decide)) (zlt_u (c := 399) c14 (by decide)) (by decide))
  have t202 := igX6_2 hI_me
  have t203 := igX6_8 hI_me
  exact lp1 zfu p0 (0 : Int32) (0 : Int32) o_me o_me_code hI_me Kp.rf hI_me_code Kp.rf ⟨q0.1, q0.2⟩ ⟨by decide, by decide⟩ ⟨by decide, by decide⟩ ⟨t202.1, t202.2⟩ ⟨t203.1, (zu_e r0 t202.2 (by decide))⟩ (zd_r (by decide)) r0 (zd_r (by decide)) (zd_r (by decide)) (zme_u (l := 0) (Int.le_of_eq tz0.symm) (by decide))

set_option maxHeartbeats 4000000 in
set_option maxRecDepth 100000 in
theorem s_X0_land (nc_me : Nat) (ns_me : Nat) (o_me : Ob) (p0 : Int32) (hI_me : IvX0 nc_me ns_me o_me)  : wp (f_X0_land  nc_me ns_me o_me p0) (fun (y : Ob) => IvX0 nc_me ns_me y ∧ Kp [7, 8] [1] [] o_me y) := by
  unfold f_X0_land
  have t9ns := igX0_8 hI_me
  refine wp_if (fun c1 => ?_) (fun c1 => ?_)
  · have c1 := cv_lt (a := p0.toInt) (b := 0) rfl (by decide) c1
    refine wp_some ?_
    exact (show IvX0 nc_me ns_me o_me ∧ Kp [7, 8] [1] [] o_me o_me from ⟨hI_me, Kp.rf⟩)
  · have c1 := cv_nlt (a := p0.toInt) (b := 0) rfl (by decide) c1
    refine wp_if (fun c2 => ?_) (fun c2 => ?_)
    · have c2 := cv_ge (a := p0.toInt) (b := (gI o_me 8).toInt) rfl rfl c2
      refine wp_some ?_
      exact (show IvX0 nc_me ns_me o_me ∧ Kp [7, 8] [1] [] o_me o_me from ⟨hI_me, Kp.rf⟩)
    · have c2 := cv_nge (a := p0.toInt) (b := (gI o_me 8).toInt) rfl rfl c2
      refine wp_gd (zin_of (m := (ns_me : Int)) rfl c1 (zz_l (zd_e (c := (-1)) (zl_d c2) (zl_0 t9ns.2.1) (by decide)))) ?_
      refine wp_lt (fun o4 eo4 => ?_)
      have hIo4 : IvX0 nc_me ns_me o4 := by rw [eo4]; exact hI_me
      have hkpo4 : Kp [7, 8] [1] [] o_me o4 := Kp.rf.trans (by rw [eo4]; exact Kp.tA (by decide) (by decide))
      refine wp_some ?_
      exact (show IvX0 nc_me ns_me o4 ∧ Kp [7, 8] [1] [] o_me o4 from ⟨hIo4, hkpo4⟩)

set_option maxHeartbeats 4000000 in
set_option maxRecDepth 100000 in
theorem s_X6_readBoth (rT : Ob → Ob → Int32 → Option (Int32 × Ob × Ob)) (o_me : Ob) (o_me_code : Ob) (p0 : Int32) (hrT : ∀ (o9 c9 : Ob) (p9 : Int32), IvX6 o9 → IvX0 12 400 c9 → p0.toInt < p9.toInt → 0 ≤ p9.toInt ∧ p9.toInt ≤ 8 → (gI o9 8).toInt ≤ (gI o9 2).toInt + 0 → wp (rT o9 c9 p9) (fun (y : Int32 × Ob × Ob) => (0 ≤ y.1.toInt ∧ y.1.toInt ≤ 1) ∧ IvX6 y.2.1 ∧ Kp [2, 4] [0] [] o9 y.2.1 ∧ IvX0 12 400 y.2.2 ∧ Kp [7] [1] [] c9 y.2.2 ∧ ((gI y.2.1 8).toInt ≤ (gI y.2.1 2).toInt + 0))) (hI_me : IvX6 o_me) (hI_me_code : IvX0 12 400 o_me_code) (q0 : 0 ≤ p0.toInt ∧ p0.toInt ≤ 8) (r0 : (gI o_me 8).toInt ≤ (gI o_me 2).toInt + 0) : wp (f_X6_readBoth rT 12 400 o_me o_me_code p0) (fun (y : Int32 × Ob × Ob) => (0 ≤ y.1.toInt ∧ y.1.toInt ≤ 1) ∧ IvX6 y.2.1 ∧ Kp [2, 4] [0] [] o_me y.2.1 ∧ IvX0 12 400 y.2.2 ∧ Kp [7] [1] [] o_me_code y.2.2 ∧ ((gI y.2.1 8).toInt ≤ (gI y.2.1 2).toInt + 0)) := by
  have li0 : (0 : Int32).toInt = 0 := by decide
  have li1 : (1 : Int32).toInt = 1 := by decide
  have li2 : (3 : Int32).toInt = 3 := by decide
  have li3 : (400 : Int32).toInt = 400 := by decide
  unfold f_X6_readBoth
  have t2 := igX6_8 hI_me
  have t3 := igX6_2 hI_me
  refine wp_bd (s_X6_readPlain rT  o_me o_me_code p0 (fun o c p h1 h2 h3 h4 h5 => hrT o c p h1 h2 (by omega) h4 h5) hI_me hI_me_code  ⟨q0.1, q0.2⟩ r0) (fun z1 hz1 => ?_)
  obtain ⟨hz1_0, hz1_1, hz1_2, hz1_3, hz1_4, hz1_5⟩ := hz1
  have hkpz1_me : Kp [2, 4] [0] [] o_me z1.2.1 := Kp.rf.trans (hz1_2.mono (by decide) (by decide) (by decide))
  have kz1_k4 : (gI z1.2.1 2).toInt = (gI o_me 2).toInt := congrArg Int32.toInt (hz1_2.1 2 (by decide))
  have hkpz1_me_code : Kp [7] [1] [] o_me_code z1.2.2 := Kp.rf.trans (hz1_4.mono (by decide) (by decide) (by decide))
  refine wp_if (fun c5 => ?_) (fun c5 => ?_)
  · have c5 := cv_eq (a := z1.1.toInt) (b := 0) rfl (by decide) c5
    refine wp_some ?_
    have t6 := igX6_8 hz1_1
    exact (show (0 ≤ (0 : Int32).toInt ∧ (0 : Int32).toInt ≤ 1) ∧ IvX6 z1.2.1 ∧ Kp [2, 4] [0] [] o_me z1.2.1 ∧ IvX0 12 400 z1.2.2 ∧ Kp [7] [1] [] o_me_code z1.2.2 ∧ ((gI z1.2.1 8).toInt ≤ (gI z1.2.1 2).toInt + 0) from ⟨⟨by decide, by decide⟩, hz1_1, hkpz1_me, hz1_3, hkpz1_me_code, hz1_5⟩)
  · have c5z := c5
    have c5 := cv_ne (a := z1.1.toInt) (b := 0) rfl (by decide) c5
    have lp1 : ∀ (N1 : Nat) (v1_1 : Int32) (v2_1 : Int32) (o_me_1 : Ob) (o_me_code_1 : Ob), IvX6 o_me_1 → Kp [2, 4] [0] [] o_me o_me_1 → IvX0 12 400 o_me_code_1 → Kp [7] [1] [] o_me_code o_me_code_1 → (0 ≤ v1_1.toInt ∧ v1_1.toInt ≤ 8) → (0 ≤ v2_1.toInt ∧ v2_1.toInt ≤ 400) → (0 ≤ (gI o_me_1 2).toInt ∧ (gI o_me_1 2).toInt ≤ 400) → (0 ≤ (gI o_me_1 8).toInt ∧ (gI o_me_1 8).toInt ≤ 400) → ((gI o_me_1 8).toInt ≤ (gI o_me_1 2).toInt + 0) → (v1_1.toInt ≤ p0.toInt + 0) → (p0.toInt ≤ v1_1.toInt + 0) → (400 - v2_1.toInt).toNat < N1 → wp (lp_X6_readBoth_12 rT 12 400  N1 (v1_1, v2_1, o_me_1, o_me_code_1)) (fun (y : Int32 × Ob × Ob) => (0 ≤ y.1.toInt ∧ y.1.toInt ≤ 1) ∧ IvX6 y.2.1 ∧ Kp [2, 4] [0] [] o_me y.2.1 ∧ IvX0 12 400 y.2.2 ∧ Kp [7] [1] [] o_me_code y.2.2 ∧ ((gI y.2.1 8).toInt ≤ (gI y.2.1 2).toInt + 0)) := by
      intro N1
      induction N1 with
      | zero =>
        intro v1_1 v2_1 o_me_1 o_me_code_1 hI_me_1 hkp_me_1 hI_me_code_1 hkp_me_code_1 hh10 hh11 hh12 hh13 hh14 hh15 hh16 hN1
        exact absurd hN1 (Nat.not_lt_zero _)
      | succ N1 ihx =>
        have ih1 := ihx
        intro v1_1 v2_1 o_me_1 o_me_code_1 hI_me_1 hkp_me_1 hI_me_code_1 hkp_me_code_1 hh10 hh11 hh12 hh13 hh14 hh15 hh16 hN1
        show wp (lb_X6_readBoth_12 rT 12 400  (lp_X6_readBoth_12 rT 12 400  N1) v1_1 v2_1 o_me_1 o_me_code_1) (fun (y : Int32 × Ob × Ob) => (0 ≤ y.1.toInt ∧ y.1.toInt ≤ 1) ∧ IvX6 y.2.1 ∧ Kp [2, 4] [0] [] o_me y.2.1 ∧ IvX0 12 400 y.2.2 ∧ Kp [7] [1] [] o_me_code y.2.2 ∧ ((gI y.2.1 8).toInt ≤ (gI y.2.1 2).toInt + 0))
        unfold lb_X6_readBoth_12
        refine wp_if (fun c17 => ?_) (fun c17 => ?_)
        · have c17 := cv_ge (a := v2_1.toInt) (b := 400) rfl (by decide) c17
          refine wp_some ?_
          exact (show (0 ≤ (1 : Int32).toInt ∧ (1 : Int32).toInt ≤ 1) ∧ IvX6 o_me_1 ∧ Kp [2, 4] [0] [] o_me o_me_1 ∧ IvX0 12 400 o_me_code_1 ∧ Kp [7] [1] [] o_me_code o_me_code_1 ∧ ((gI o_me_1 8).toInt ≤ (gI o_me_1 2).toInt + 0) from ⟨⟨by decide, by decide⟩, hI_me_1, hkp_me_1, hI_me_code_1, hkp_me_code_1, hh14⟩)
        · have c17 := cv_nge (a := v2_1.toInt) (b := 400) rfl (by decide) c17
          refine wp_bd (s_X6_isWord   o_me_1 5  hI_me_1 (by decide) ) (fun z18 hz18 => ?_)
          have hz18_0 := hz18
          refine wp_if (fun c19 => ?_) (fun c19 => ?_)
          · have c19 := cv_eq (a := z18.toInt) (b := 0) rfl (by decide) c19
            refine wp_some ?_
            exact (show (0 ≤ (1 : Int32).toInt ∧ (1 : Int32).toInt ≤ 1) ∧ IvX6 o_me_1 ∧ Kp [2, 4] [0] [] o_me o_me_1 ∧ IvX0 12 400 o_me_code_1 ∧ Kp [7] [1] [] o_me_code o_me_code_1 ∧ ((gI o_me_1 8).toInt ≤ (gI o_me_1 2).toInt + 0) from ⟨⟨by decide, by decide⟩, hI_me_1, hkp_me_1, hI_me_code_1, hkp_me_code_1, hh14⟩)
          · have c19z := c19
            have c19 := cv_ne (a := z18.toInt) (b := 0) rfl (by decide) c19
            refine wp_bd (s_X6_step   o_me_1  hI_me_1  hh14) (fun z20 hz20 => ?_)
            obtain ⟨hz20_0, hz20_1, hz20_2⟩ := hz20
            have hkpz20_me : Kp [2, 4] [0] [] o_me z20 := hkp_me_1.trans (hz20_1.mono (by decide) (by decide) (by decide))
            have kz20_k21 : (gI z20 2).toInt = (gI o_me_1 2).toInt := congrArg Int32.toInt (hz20_1.1 2 (by decide))
            refine wp_bd (s_X0_add  12 400 o_me_code_1 (3 : Int32) (0 : Int32)  hI_me_code_1  ) (fun z22 hz22 => ?_)
            obtain ⟨hz22_0, hz22_1, hz22_2⟩ := hz22
            have hkpz22_me_code : Kp [7] [1] [] o_me_code z22.2 := hkp_me_code_1.trans (hz22_2.mono (by decide) (by decide) (by decide))
            have t24 := igX6_8 hz20_0
            refine wp_bd (s_X6_readPlain rT  z20 z22.2 v1_1 (fun o c p h1 h2 h3 h4 h5 => hrT o c p h1 h2 (by omega) h4 h5) hz20_0 hz22_1  ⟨hh10.1, hh10.2⟩ hz20_2) (fun z23 hz23 => ?_)
            obtain ⟨hz23_0, hz23_1, hz23_2, hz23_3, hz23_4, hz23_5⟩ := hz23
            have hkpz23_me : Kp [2, 4] [0] [] o_me z23.2.1 := hkpz20_me.trans (hz23_2.mono (by decide) (by decide) (by decide))
            have kz23_k25 : (gI z23.2.1 2).toInt = (gI z20 2).toInt := congrArg Int32.toInt (hz23_2.1 2 (by decide))
            have hkpz23_me_code : Kp [7] [1] [] o_me_code z23.2.2 := hkpz22_me_code.trans (hz23_4.mono (by decide) (by decide) (by decide))
            refine wp_if (fun c26 => ?_) (fun c26 => ?_)
            · have c26 := cv_eq (a := z23.1.toInt) (b := 0) rfl (by decide) c26
              refine wp_some ?_
              have t27 := igX6_8 hz23_1
              exact (show (0 ≤ (0 : Int32).toInt ∧ (0 : Int32).toInt ≤ 1) ∧ IvX6 z23.2.1 ∧ Kp [2, 4] [0] [] o_me z23.2.1 ∧ IvX0 12 400 z23.2.2 ∧ Kp [7] [1] [] o_me_code z23.2.2 ∧ ((gI z23.2.1 8).toInt ≤ (gI z23.2.1 2).toInt + 0) from ⟨⟨by decide, by decide⟩, hz23_1, hkpz23_me, hz23_3, hkpz23_me_code, hz23_5⟩)
            · have c26z := c26
              have c26 := cv_ne (a := z23.1.toInt) (b := 0) rfl (by decide) c26
              refine wp_bd (s_X0_land  12 400 z23.2.2 z22.1  hz23_3  ) (fun z28 hz28 => ?_)
              obtain ⟨hz28_0, hz28_1⟩ := hz28
              have hkpz28_me_code : Kp [7] [1] [] o_me_code z28 := hkpz23_me_code.trans (hz28_1.mono (by decide) (by decide) (by decide))
              refine wp_lt (fun x29 ex29 => ?_)
              have tx29 : x29.toInt = v2_1.toInt + 1 := by rw [ex29]; exact i32_add rfl (by decide) (zk_l hh11.1 (by decide)) (zk_u (zlt_u (c := 399) c17 (by decide)) (by decide))
              have t30 := igX6_8 hz23_1
              exact ih1 v1_1 x29 z23.2.1 z28 hz23_1 hkpz23_me hz28_0 hkpz28_me_code ⟨hh10.1, hh10.2⟩ ⟨(zl_e (zq_r (c := (-1)) tx29 (by decide)) hh11.1 (by decide)), (zu_e (Int.le_of_eq tx29) (zlt_u (c := 399) c17 (by decide)) (by decide))⟩ ⟨(zl_e hz23_5 t30.1 (by decide)), (zu_e (zd_e (c := 0) (zq_0 kz23_k25) (zq_0 kz20_k21) (by decide)) hh12.2 (by decide))⟩ ⟨t30.1, (zu_e (zd_e (c := 0) (zd_e (c := 0) hz23_5 (zq_0 kz23_k25) (by decide)) (zq_0 kz20_k21) (by decide)) hh12.2 (by decide))⟩ hz23_5 hh15 hh16 (zms_u (c := 399) hN1 (zq_r (c := (-1)) tx29 (by decide)) (zlt_u (c := 399) c17 (by decide)) (by decide))
    have t31 := igX6_8 hz1_1
    exact lp1 zfu p0 (0 : Int32) z1.2.1 z1.2.2 hz1_1 hkpz1_me hz1_3 hkpz1_me_code ⟨q0.1, q0.2⟩ ⟨by decide, by decide⟩ ⟨(zl_e (zq_0 kz1_k4.symm) t3.1 (by decide)), (zu_e (zq_0 kz1_k4) t3.2 (by decide))⟩ ⟨t31.1, (zu_e (zd_e (c := 0) hz1_5 (zq_0 kz1_k4) (by decide)) t3.2 (by decide))⟩ hz1_5 (zd_r (by decide)) (zd_r (by decide)) (zme_u (l := 0) (Int.le_of_eq tz0.symm) (by decide))

set_option maxHeartbeats 4000000 in
set_option maxRecDepth 100000 in
theorem s_X6_readTest (rT : Ob → Ob → Int32 → Option (Int32 × Ob × Ob)) (o_me : Ob) (o_me_code : Ob) (p0 : Int32) (hrT : ∀ (o9 c9 : Ob) (p9 : Int32), IvX6 o9 → IvX0 12 400 c9 → p0.toInt < p9.toInt → 0 ≤ p9.toInt ∧ p9.toInt ≤ 8 → (gI o9 8).toInt ≤ (gI o9 2).toInt + 0 → wp (rT o9 c9 p9) (fun (y : Int32 × Ob × Ob) => (0 ≤ y.1.toInt ∧ y.1.toInt ≤ 1) ∧ IvX6 y.2.1 ∧ Kp [2, 4] [0] [] o9 y.2.1 ∧ IvX0 12 400 y.2.2 ∧ Kp [7] [1] [] c9 y.2.2 ∧ ((gI y.2.1 8).toInt ≤ (gI y.2.1 2).toInt + 0))) (hI_me : IvX6 o_me) (hI_me_code : IvX0 12 400 o_me_code) (q0 : 0 ≤ p0.toInt ∧ p0.toInt ≤ 8) (r0 : (gI o_me 8).toInt ≤ (gI o_me 2).toInt + 0) : wp (f_X6_readTest rT 12 400 o_me o_me_code p0) (fun (y : Int32 × Ob × Ob) => (0 ≤ y.1.toInt ∧ y.1.toInt ≤ 1) ∧ IvX6 y.2.1 ∧ Kp [2, 4] [0] [] o_me y.2.1 ∧ IvX0 12 400 y.2.2 ∧ Kp [7] [1] [] o_me_code y.2.2 ∧ ((gI y.2.1 8).toInt ≤ (gI y.2.1 2).toInt + 0)) := by
  have li0 : (0 : Int32).toInt = 0 := by decide
  have li1 : (1 : Int32).toInt = 1 := by decide
  have li2 : (4 : Int32).toInt = 4 := by decide
  have li3 : (400 : Int32).toInt = 400 := by decide
  unfold f_X6_readTest
  have t2 := igX6_8 hI_me
  have t3 := igX6_2 hI_me
  refine wp_bd (s_X6_readBoth rT  o_me o_me_code p0 (fun o c p h1 h2 h3 h4 h5 => hrT o c p h1 h2 (by omega) h4 h5) hI_me hI_me_code  ⟨q0.1, q0.2⟩ r0) (fun z1 hz1 => ?_)
  obtain ⟨hz1_0, hz1_1, hz1_2, hz1_3, hz1_4, hz1_5⟩ := hz1
  have hkpz1_me : Kp [2, 4] [0] [] o_me z1.2.1 := Kp.rf.trans (hz1_2.mono (by decide) (by decide) (by decide))
  have kz1_k4 : (gI z1.2.1 2).toInt = (gI o_me 2).toInt := congrArg Int32.toInt (hz1_2.1 2 (by decide))
  have hkpz1_me_code : Kp [7] [1] [] o_me_code z1.2.2 := Kp.rf.trans (hz1_4.mono (by decide) (by decide) (by decide))
  refine wp_if (fun c5 => ?_) (fun c5 => ?_)
  · have c5 := cv_eq (a := z1.1.toInt) (b := 0) rfl (by decide) c5
    refine wp_some ?_
    have t6 := igX6_8 hz1_1
    exact (show (0 ≤ (0 : Int32).toInt ∧ (0 : Int32).toInt ≤ 1) ∧ IvX6 z1.2.1 ∧ Kp [2, 4] [0] [] o_me z1.2.1 ∧ IvX0 12 400 z1.2.2 ∧ Kp [7] [1] [] o_me_code z1.2.2 ∧ ((gI z1.2.1 8).toInt ≤ (gI z1.2.1 2).toInt + 0) from ⟨⟨by decide, by decide⟩, hz1_1, hkpz1_me, hz1_3, hkpz1_me_code, hz1_5⟩)
  · have c5z := c5
    have c5 := cv_ne (a := z1.1.toInt) (b := 0) rfl (by decide) c5
    have lp1 : ∀ (N1 : Nat) (v1_1 : Int32) (v2_1 : Int32) (o_me_1 : Ob) (o_me_code_1 : Ob), IvX6 o_me_1 → Kp [2, 4] [0] [] o_me o_me_1 → IvX0 12 400 o_me_code_1 → Kp [7] [1] [] o_me_code o_me_code_1 → (0 ≤ v1_1.toInt ∧ v1_1.toInt ≤ 8) → (0 ≤ v2_1.toInt ∧ v2_1.toInt ≤ 400) → (0 ≤ (gI o_me_1 2).toInt ∧ (gI o_me_1 2).toInt ≤ 400) → (0 ≤ (gI o_me_1 8).toInt ∧ (gI o_me_1 8).toInt ≤ 400) → ((gI o_me_1 8).toInt ≤ (gI o_me_1 2).toInt + 0) → (v1_1.toInt ≤ p0.toInt + 0) → (p0.toInt ≤ v1_1.toInt + 0) → (400 - v2_1.toInt).toNat < N1 → wp (lp_X6_readTest_12 rT 12 400  N1 (v1_1, v2_1, o_me_1, o_me_code_1)) (fun (y : Int32 × Ob × Ob) => (0 ≤ y.1.toInt ∧ y.1.toInt ≤ 1) ∧ IvX6 y.2.1 ∧ Kp [2, 4] [0] [] o_me y.2.1 ∧ IvX0 12 400 y.2.2 ∧ Kp [7] [1] [] o_me_code y.2.2 ∧ ((gI y.2.1 8).toInt ≤ (gI y.2.1 2).toInt + 0)) := by
      intro N1
      induction N1 with
      | zero =>
        intro v1_1 v2_1 o_me_1 o_me_code_1 hI_me_1 hkp_me_1 hI_me_code_1 hkp_me_code_1 hh10 hh11 hh12 hh13 hh14 hh15 hh16 hN1
        exact absurd hN1 (Nat.not_lt_zero _)
      | succ N1 ihx =>
        have ih1 := ihx
        intro v1_1 v2_1 o_me_1 o_me_code_1 hI_me_1 hkp_me_1 hI_me_code_1 hkp_me_code_1 hh10 hh11 hh12 hh13 hh14 hh15 hh16 hN1
        show wp (lb_X6_readTest_12 rT 12 400  (lp_X6_readTest_12 rT 12 400  N1) v1_1 v2_1 o_me_1 o_me_code_1) (fun (y : Int32 × Ob × Ob) => (0 ≤ y.1.toInt ∧ y.1.toInt ≤ 1) ∧ IvX6 y.2.1 ∧ Kp [2, 4] [0] [] o_me y.2.1 ∧ IvX0 12 400 y.2.2 ∧ Kp [7] [1] [] o_me_code y.2.2 ∧ ((gI y.2.1 8).toInt ≤ (gI y.2.1 2).toInt + 0))
        unfold lb_X6_readTest_12
        refine wp_if (fun c17 => ?_) (fun c17 => ?_)
        · have c17 := cv_ge (a := v2_1.toInt) (b := 400) rfl (by decide) c17
          refine wp_some ?_
          exact (show (0 ≤ (1 : Int32).toInt ∧ (1 : Int32).toInt ≤ 1) ∧ IvX6 o_me_1 ∧ Kp [2, 4] [0] [] o_me o_me_1 ∧ IvX0 12 400 o_me_code_1 ∧ Kp [7] [1] [] o_me_code o_me_code_1 ∧ ((gI o_me_1 8).toInt ≤ (gI o_me_1 2).toInt + 0) from ⟨⟨by decide, by decide⟩, hI_me_1, hkp_me_1, hI_me_code_1, hkp_me_code_1, hh14⟩)
        · have c17 := cv_nge (a := v2_1.toInt) (b := 400) rfl (by decide) c17
          refine wp_bd (s_X6_isWord   o_me_1 4  hI_me_1 (by decide) ) (fun z18 hz18 => ?_)
          have hz18_0 := hz18
          refine wp_if (fun c19 => ?_) (fun c19 => ?_)
          · have c19 := cv_eq (a := z18.toInt) (b := 0) rfl (by decide) c19
            refine wp_some ?_
            exact (show (0 ≤ (1 : Int32).toInt ∧ (1 : Int32).toInt ≤ 1) ∧ IvX6 o_me_1 ∧ Kp [2, 4] [0] [] o_me o_me_1 ∧ IvX0 12 400 o_me_code_1 ∧ Kp [7] [1] [] o_me_code o_me_code_1 ∧ ((gI o_me_1 8).toInt ≤ (gI o_me_1 2).toInt + 0) from ⟨⟨by decide, by decide⟩, hI_me_1, hkp_me_1, hI_me_code_1, hkp_me_code_1, hh14⟩)
          · have c19z := c19
            have c19 := cv_ne (a := z18.toInt) (b := 0) rfl (by decide) c19
            refine wp_bd (s_X6_step   o_me_1  hI_me_1  hh14) (fun z20 hz20 => ?_)
            obtain ⟨hz20_0, hz20_1, hz20_2⟩ := hz20
            have hkpz20_me : Kp [2, 4] [0] [] o_me z20 := hkp_me_1.trans (hz20_1.mono (by decide) (by decide) (by decide))
            have kz20_k21 : (gI z20 2).toInt = (gI o_me_1 2).toInt := congrArg Int32.toInt (hz20_1.1 2 (by decide))
            refine wp_bd (s_X0_add  12 400 o_me_code_1 (4 : Int32) (0 : Int32)  hI_me_code_1  ) (fun z22 hz22 => ?_)
            obtain ⟨hz22_0, hz22_1, hz22_2⟩ := hz22
            have hkpz22_me_code : Kp [7] [1] [] o_me_code z22.2 := hkp_me_code_1.trans (hz22_2.mono (by decide) (by decide) (by decide))
            have t24 := igX6_8 hz20_0
            refine wp_bd (s_X6_readBoth rT  z20 z22.2 v1_1 (fun o c p h1 h2 h3 h4 h5 => hrT o c p h1 h2 (by omega) h4 h5) hz20_0 hz22_1  ⟨hh10.1, hh10.2⟩ hz20_2) (fun z23 hz23 => ?_)
            obtain ⟨hz23_0, hz23_1, hz23_2, hz23_3, hz23_4, hz23_5⟩ := hz23
            have hkpz23_me : Kp [2, 4] [0] [] o_me z23.2.1 := hkpz20_me.trans (hz23_2.mono (by decide) (by decide) (by decide))
            have kz23_k25 : (gI z23.2.1 2).toInt = (gI z20 2).toInt := congrArg Int32.toInt (hz23_2.1 2 (by decide))
            have hkpz23_me_code : Kp [7] [1] [] o_me_code z23.2.2 := hkpz22_me_code.trans (hz23_4.mono (by decide) (by decide) (by decide))
            refine wp_if (fun c26 => ?_) (fun c26 => ?_)
            · have c26 := cv_eq (a := z23.1.toInt) (b := 0) rfl (by decide) c26
              refine wp_some ?_
              have t27 := igX6_8 hz23_1
              exact (show (0 ≤ (0 : Int32).toInt ∧ (0 : Int32).toInt ≤ 1) ∧ IvX6 z23.2.1 ∧ Kp [2, 4] [0] [] o_me z23.2.1 ∧ IvX0 12 400 z23.2.2 ∧ Kp [7] [1] [] o_me_code z23.2.2 ∧ ((gI z23.2.1 8).toInt ≤ (gI z23.2.1 2).toInt + 0) from ⟨⟨by decide, by decide⟩, hz23_1, hkpz23_me, hz23_3, hkpz23_me_code, hz23_5⟩)
            · have c26z := c26
              have c26 := cv_ne (a := z23.1.toInt) (b := 0) rfl (by decide) c26
              refine wp_bd (s_X0_land  12 400 z23.2.2 z22.1  hz23_3  ) (fun z28 hz28 => ?_)
              obtain ⟨hz28_0, hz28_1⟩ := hz28
              have hkpz28_me_code : Kp [7] [1] [] o_me_code z28 := hkpz23_me_code.trans (hz28_1.mono (by decide) (by decide) (by decide))
              refine wp_lt (fun x29 ex29 => ?_)
              have tx29 : x29.toInt = v2_1.toInt + 1 := by rw [ex29]; exact i32_add rfl (by decide) (zk_l hh11.1 (by decide)) (zk_u (zlt_u (c := 399) c17 (by decide)) (by decide))
              have t30 := igX6_8 hz23_1
              exact ih1 v1_1 x29 z23.2.1 z28 hz23_1 hkpz23_me hz28_0 hkpz28_me_code ⟨hh10.1, hh10.2⟩ ⟨(zl_e (zq_r (c := (-1)) tx29 (by decide)) hh11.1 (by decide)), (zu_e (Int.le_of_eq tx29) (zlt_u (c := 399) c17 (by decide)) (by decide))⟩ ⟨(zl_e hz23_5 t30.1 (by decide)), (zu_e (zd_e (c := 0) (zq_0 kz23_k25) (zq_0 kz20_k21) (by decide)) hh12.2 (by decide))⟩ ⟨t30.1, (zu_e (zd_e (c := 0) (zd_e (c := 0) hz23_5 (zq_0 kz23_k25) (by decide)) (zq_0 kz20_k21) (by decide)) hh12.2 (by decide))⟩ hz23_5 hh15 hh16 (zms_u (c := 399) hN1 (zq_r (c := (-1)) tx29 (by decide)) (zlt_u (c := 399) c17 (by decide)) (by decide))
    have t31 := igX6_8 hz1_1
    exact lp1 zfu p0 (0 : Int32) z1.2.1 z1.2.2 hz1_1 hkpz1_me hz1_3 hkpz1_me_code ⟨q0.1, q0.2⟩ ⟨by decide, by decide⟩ ⟨(zl_e (zq_0 kz1_k4.symm) t3.1 (by decide)), (zu_e (zq_0 kz1_k4) t3.2 (by decide))⟩ ⟨t31.1, (zu_e (zd_e (c := 0) hz1_5 (zq_0 kz1_k4) (by decide)) t3.2 (by decide))⟩ hz1_5 (zd_r (by decide)) (zd_r (by decide)) (zme_u (l := 0) (Int.le_of_eq tz0.symm) (by decide))

theorem sy_X6_readTest : ∀ (d : Nat) (o_me : Ob) (o_me_code : Ob) (p0 : Int32), IvX6 o_me → IvX0 12 400 o_me_code → 0 ≤ p0.toInt ∧ p0.toInt ≤ 8 → (gI o_me 8).toInt ≤ (gI o_me 2).toInt + 0 → 9 ≤ p0.toInt + (d : Int) → wp (fx_X6_readTest 12 400 d o_me o_me_code p0) (fun (y : Int32 × Ob × Ob) => (0 ≤ y.1.toInt ∧ y.1.toInt ≤ 1) ∧ IvX6 y.2.1 ∧ Kp [2, 4] [0] [] o_me y.2.1 ∧ IvX0 12 400 y.2.2 ∧ Kp [7] [1] [] o_me_code y.2.2 ∧ ((gI y.2.1 8).toInt ≤ (gI y.2.1 2).toInt + 0)) := by
  intro d
  induction d with
  | zero =>
    intro o_me o_me_code p0 h1 h2 h3 h4 h5
    exfalso; omega
  | succ d ih =>
    intro o_me o_me_code p0 h1 h2 h3 h4 h5
    exact s_X6_readTest (fx_X6_readTest 12 400 d) o_me o_me_code p0 (fun o c p g1 g2 g3 g4 g5 => (ih o c p g1 g2 g4 g5 (by omega))) h1 h2 h3 h4
theorem sx_X6_readTest (o_me : Ob) (o_me_code : Ob) (p0 : Int32) (hI_me : IvX6 o_me) (hI_me_code : IvX0 12 400 o_me_code) (q0 : 0 ≤ p0.toInt ∧ p0.toInt ≤ 8) (r0 : (gI o_me 8).toInt ≤ (gI o_me 2).toInt + 0) : wp (fx_X6_readTest 12 400 10 o_me o_me_code p0) (fun (y : Int32 × Ob × Ob) => (0 ≤ y.1.toInt ∧ y.1.toInt ≤ 1) ∧ IvX6 y.2.1 ∧ Kp [2, 4] [0] [] o_me y.2.1 ∧ IvX0 12 400 y.2.2 ∧ Kp [7] [1] [] o_me_code y.2.2 ∧ ((gI y.2.1 8).toInt ≤ (gI y.2.1 2).toInt + 0)) := sy_X6_readTest 10 o_me o_me_code p0 hI_me hI_me_code q0 r0 (by omega)

set_option maxHeartbeats 4000000 in
set_option maxRecDepth 100000 in
theorem s_X6_readClause (o_me : Ob) (o_me_code : Ob) (p0 : Int32) (hI_me : IvX6 o_me) (hI_me_code : IvX0 12 400 o_me_code) (r0 : (gI o_me 8).toInt ≤ (gI o_me 2).toInt + 0) : wp (f_X6_readClause  12 400 o_me o_me_code p0) (fun (y : Int32 × Ob × Ob) => (0 ≤ y.1.toInt ∧ y.1.toInt ≤ 1) ∧ IvX6 y.2.1 ∧ Kp [2, 4] [0] [] o_me y.2.1 ∧ IvX0 12 400 y.2.2 ∧ Kp [] [] [] o_me_code y.2.2 ∧ ((gI y.2.1 8).toInt ≤ (gI y.2.1 2).toInt + 0)) := by
  have li0 : (-1 : Int32).toInt = (-1) := by decide
  have li1 : (0 : Int32).toInt = 0 := by decide
  have li2 : (1 : Int32).toInt = 1 := by decide
  have li3 : (12 : Int32).toInt = 12 := by decide
  have li4 : (2 : Int32).toInt = 2 := by decide
  have li5 : (20 : Int32).toInt = 20 := by decide
  have li6 : (3 : Int32).toInt = 3 := by decide
  unfold f_X6_readClause
  have t1 := igX6_4 hI_me
  refine wp_if (fun c2 => ?_) (fun c2 => ?_)
  · have c2 := cv_eq (a := (gI o_me 4).toInt) (b := 0) rfl (by decide) c2
    unfold bk_X6_readClause_15
    refine wp_bd (s_X6_wordOf   o_me 1  hI_me (by decide) ) (fun z3 hz3 => ?_)
    refine wp_if (fun c4 => ?_) (fun c4 => ?_)
    · have c4 := cv_eq (a := z3.toInt) (b := (-1)) rfl (by decide) c4
      unfold bk_X6_readClause_34
      refine wp_bd (s_X6_stop   o_me  hI_me  ) (fun z5 hz5 => ?_)
      obtain ⟨hz5_0, hz5_1, hz5_2⟩ := hz5
      have hkpz5_me : Kp [2, 4] [0] [] o_me z5.2 := Kp.rf.trans (hz5_2.mono (by decide) (by decide) (by decide))
      have kz5_k6 : (gI z5.2 2).toInt = (gI o_me 2).toInt := congrArg Int32.toInt (hz5_2.1 2 (by decide))
      have kz5_k7 : (gI z5.2 4).toInt = (gI o_me 4).toInt := congrArg Int32.toInt (hz5_2.1 4 (by decide))
      have kz5_k8 : (gI z5.2 8).toInt = (gI o_me 8).toInt := congrArg Int32.toInt (hz5_2.1 8 (by decide))
      refine wp_gd (zbo_of hz5_0.1 (Int.le_trans hz5_0.2 (by decide))) ?_
      refine wp_some ?_
      have t9 := igX6_8 hz5_1
      have t10 := igX6_2 hz5_1
      exact (show (0 ≤ z5.1.toInt ∧ z5.1.toInt ≤ 1) ∧ IvX6 z5.2 ∧ Kp [2, 4] [0] [] o_me z5.2 ∧ IvX0 12 400 o_me_code ∧ Kp [] [] [] o_me_code o_me_code ∧ ((gI z5.2 8).toInt ≤ (gI z5.2 2).toInt + 0) from ⟨⟨hz5_0.1, (Int.le_trans hz5_0.2 (by decide))⟩, hz5_1, hkpz5_me, hI_me_code, Kp.rf, (zd_e (c := 0) (zd_e (c := 0) (zq_0 kz5_k8) r0 (by decide)) (zq_0 kz5_k6.symm) (by decide))⟩)
    · have c4 := cv_ne (a := z3.toInt) (b := (-1)) rfl (by decide) c4
      refine wp_if (fun c11 => ?_) (fun c11 => ?_)
      · have c11 := cv_lt (a := p0.toInt) (b := 0) rfl (by decide) c11
        unfold bk_X6_readClause_34
        refine wp_bd (s_X6_stop   o_me  hI_me  ) (fun z12 hz12 => ?_)
        obtain ⟨hz12_0, hz12_1, hz12_2⟩ := hz12
        have hkpz12_me : Kp [2, 4] [0] [] o_me z12.2 := Kp.rf.trans (hz12_2.mono (by decide) (by decide) (by decide))
        have kz12_k13 : (gI z12.2 2).toInt = (gI o_me 2).toInt := congrArg Int32.toInt (hz12_2.1 2 (by decide))
        have kz12_k14 : (gI z12.2 4).toInt = (gI o_me 4).toInt := congrArg Int32.toInt (hz12_2.1 4 (by decide))
        have kz12_k15 : (gI z12.2 8).toInt = (gI o_me 8).toInt := congrArg Int32.toInt (hz12_2.1 8 (by decide))
        refine wp_gd (zbo_of hz12_0.1 (Int.le_trans hz12_0.2 (by decide))) ?_
        refine wp_some ?_
        have t16 := igX6_8 hz12_1
        have t17 := igX6_2 hz12_1
        exact (show (0 ≤ z12.1.toInt ∧ z12.1.toInt ≤ 1) ∧ IvX6 z12.2 ∧ Kp [2, 4] [0] [] o_me z12.2 ∧ IvX0 12 400 o_me_code ∧ Kp [] [] [] o_me_code o_me_code ∧ ((gI z12.2 8).toInt ≤ (gI z12.2 2).toInt + 0) from ⟨⟨hz12_0.1, (Int.le_trans hz12_0.2 (by decide))⟩, hz12_1, hkpz12_me, hI_me_code, Kp.rf, (zd_e (c := 0) (zd_e (c := 0) (zq_0 kz12_k15) r0 (by decide)) (zq_0 kz12_k13.symm) (by decide))⟩)
      · have c11 := cv_nlt (a := p0.toInt) (b := 0) rfl (by decide) c11
        refine wp_if (fun c18 => ?_) (fun c18 => ?_)
        · have c18 := cv_lt (a := p0.toInt) (b := 12) rfl (by decide) c18
          have t20 := igX6_8 hI_me
          have t21 := igX6_2 hI_me
          refine wp_bd (s_X6_step   o_me  hI_me  r0) (fun z19 hz19 => ?_)
          obtain ⟨hz19_0, hz19_1, hz19_2⟩ := hz19
          have hkpz19_me : Kp [2, 4] [0] [] o_me z19 := Kp.rf.trans (hz19_1.mono (by decide) (by decide) (by decide))
          have kz19_k22 : (gI z19 2).toInt = (gI o_me 2).toInt := congrArg Int32.toInt (hz19_1.1 2 (by decide))
          have kz19_k23 : (gI z19 4).toInt = (gI o_me 4).toInt := congrArg Int32.toInt (hz19_1.1 4 (by decide))
          refine wp_gd (zin_of (m := 12) rfl c11 (zlt_m (c := 11) (zlt_u (c := 11) c18 (by decide)) (by decide))) ?_
          refine wp_lt (fun o24 eo24 => ?_)
          have hIo24 : IvX0 12 400 o24 := by rw [eo24]; exact hI_me_code
          have ko24_v : (gA o24 0 p0.toNatClampNeg).toInt = z3.toInt := by rw [eo24]; exact congrArg Int32.toInt (upd_eq (g := gA o_me_code 0) (i := p0) (v := z3))
          have hkpo24 : Kp [] [] [] o_me_code o24 := Kp.rf.trans (by rw [eo24]; exact Kp.tA (by decide) (by decide))
          refine wp_gd (zin_of (m := 12) rfl c11 (zlt_m (c := 11) (zlt_u (c := 11) c18 (by decide)) (by decide))) ?_
          refine wp_lt (fun o25 eo25 => ?_)
          have hIo25 : IvX0 12 400 o25 := by rw [eo25]; exact ibX0_1 hIo24 c11  (Or.inr (Or.inr ⟨by decide, by decide⟩))
          have ko25_k26 : (gA o25 0 p0.toNatClampNeg).toInt = (gA o24 0 p0.toNatClampNeg).toInt := by rw [eo25]; rfl
          have ko25_v : (gA o25 1 p0.toNatClampNeg).toInt = 1 := by rw [eo25]; exact (congrArg Int32.toInt (upd_eq (g := gA o24 1) (i := p0) (v := (1 : Int32)))).trans (show ((1 : Int32)).toInt = 1 by decide)
          have hkpo25 : Kp [] [] [] o_me_code o25 := hkpo24.trans (by rw [eo25]; exact Kp.tA (by decide) (by decide))
          have t27 := igX0_8 hIo25
          refine wp_gd (zin_of (m := 12) rfl c11 (zlt_m (c := 11) (zlt_u (c := 11) c18 (by decide)) (by decide))) ?_
          refine wp_lt (fun o28 eo28 => ?_)
          have hIo28 : IvX0 12 400 o28 := by rw [eo28]; exact hIo25
          have ko28_k29 : (gA o28 0 p0.toNatClampNeg).toInt = (gA o25 0 p0.toNatClampNeg).toInt := by rw [eo28]; rfl
          have ko28_k30 : (gA o28 1 p0.toNatClampNeg).toInt = (gA o25 1 p0.toNatClampNeg).toInt := by rw [eo28]; rfl
          have ko28_k31 : (gI o28 8).toInt = (gI o25 8).toInt := by rw [eo28]; rfl
          have ko28_v : (gA o28 2 p0.toNatClampNeg).toInt = (gI o25 8).toInt := by rw [eo28]; exact congrArg Int32.toInt (upd_eq (g := gA o25 2) (i := p0) (v := (gI o25 8)))
          have hkpo28 : Kp [] [] [] o_me_code o28 := hkpo25.trans (by rw [eo28]; exact Kp.tA (by decide) (by decide))
          refine wp_if (fun c32 => ?_) (fun c32 => ?_)
          · have c32 := cv_eq (a := z3.toInt) (b := 3) rfl (by decide) c32
            unfold bk_X6_readClause_94
            refine wp_gd (zin_of (m := 12) rfl c11 (zlt_m (c := 11) (zlt_u (c := 11) c18 (by decide)) (by decide))) ?_
            refine wp_lt (fun o33 eo33 => ?_)
            have hIo33 : IvX0 12 400 o33 := by rw [eo33]; exact hIo28
            have ko33_k34 : (gA o33 0 p0.toNatClampNeg).toInt = (gA o28 0 p0.toNatClampNeg).toInt := by rw [eo33]; rfl
            have ko33_k35 : (gA o33 1 p0.toNatClampNeg).toInt = (gA o28 1 p0.toNatClampNeg).toInt := by rw [eo33]; rfl
            have ko33_k36 : (gA o33 2 p0.toNatClampNeg).toInt = (gA o28 2 p0.toNatClampNeg).toInt := by rw [eo33]; rfl
            have ko33_k37 : (gI o33 8).toInt = (gI o28 8).toInt := by rw [eo33]; rfl
            have ko33_v : (gA o33 3 p0.toNatClampNeg).toInt = (gI o28 8).toInt := by rw [eo33]; exact congrArg Int32.toInt (upd_eq (g := gA o28 3) (i := p0) (v := (gI o28 8)))
            have hkpo33 : Kp [] [] [] o_me_code o33 := hkpo28.trans (by rw [eo33]; exact Kp.tA (by decide) (by decide))
            refine wp_if (fun c38 => ?_) (fun c38 => ?_)
            · have c38 := cv_eq (a := (gI z19 4).toInt) (b := 0) rfl (by decide) c38
              refine wp_bd (s_X6_isWord   z19 2  hz19_0 (by decide) ) (fun z39 hz39 => ?_)
              have hz39_0 := hz39
              refine wp_if (fun c40 => ?_) (fun c40 => ?_)
              · have c40 := cv_eq (a := z39.toInt) (b := 0) rfl (by decide) c40
                unfold bk_X6_readClause_177
                refine wp_bd (s_X6_isWord   z19 3  hz19_0 (by decide) ) (fun z41 hz41 => ?_)
                have hz41_0 := hz41
                refine wp_if (fun c42 => ?_) (fun c42 => ?_)
                · have c42 := cv_eq (a := z41.toInt) (b := 0) rfl (by decide) c42
                  unfold bk_X6_readClause_200
                  refine wp_gd (zin_of (m := 12) rfl c11 (zlt_m (c := 11) (zlt_u (c := 11) c18 (by decide)) (by decide))) ?_
                  refine wp_lt (fun o43 eo43 => ?_)
                  have hIo43 : IvX0 12 400 o43 := by rw [eo43]; exact hIo33
                  have ko43_k44 : (gA o43 0 p0.toNatClampNeg).toInt = (gA o33 0 p0.toNatClampNeg).toInt := by rw [eo43]; rfl
                  have ko43_k45 : (gA o43 1 p0.toNatClampNeg).toInt = (gA o33 1 p0.toNatClampNeg).toInt := by rw [eo43]; rfl
                  have ko43_k46 : (gA o43 2 p0.toNatClampNeg).toInt = (gA o33 2 p0.toNatClampNeg).toInt := by rw [eo43]; rfl
                  have ko43_k47 : (gA o43 3 p0.toNatClampNeg).toInt = (gA o33 3 p0.toNatClampNeg).toInt := by rw [eo43]; rfl
                  have ko43_k48 : (gI o43 8).toInt = (gI o33 8).toInt := by rw [eo43]; rfl
                  have ko43_v : (gA o43 4 p0.toNatClampNeg).toInt = (gI o33 8).toInt := by rw [eo43]; exact congrArg Int32.toInt (upd_eq (g := gA o33 4) (i := p0) (v := (gI o33 8)))
                  have hkpo43 : Kp [] [] [] o_me_code o43 := hkpo33.trans (by rw [eo43]; exact Kp.tA (by decide) (by decide))
                  have t49 : (p0 + (1 : Int32)).toInt = p0.toInt + 1 := i32_add rfl (by decide) (zk_l c11 (by decide)) (zk_u (zlt_u (c := 11) c18 (by decide)) (by decide))
                  refine wp_lt (fun o50 eo50 => ?_)
                  have hIo50 : IvX0 12 400 o50 := by rw [eo50]; exact ipX0_7 hIo43 ⟨(zl_e (zq_r (c := (-1)) t49 (by decide)) c11 (by decide)), (zu_e (Int.le_of_eq t49) (zlt_u (c := 11) c18 (by decide)) (by decide))⟩
                  have ko50_k51 : (gA o50 0 p0.toNatClampNeg).toInt = (gA o43 0 p0.toNatClampNeg).toInt := by rw [eo50]; rfl
                  have ko50_k52 : (gA o50 1 p0.toNatClampNeg).toInt = (gA o43 1 p0.toNatClampNeg).toInt := by rw [eo50]; rfl
                  have ko50_k53 : (gA o50 2 p0.toNatClampNeg).toInt = (gA o43 2 p0.toNatClampNeg).toInt := by rw [eo50]; rfl
                  have ko50_k54 : (gA o50 3 p0.toNatClampNeg).toInt = (gA o43 3 p0.toNatClampNeg).toInt := by rw [eo50]; rfl
                  have ko50_k55 : (gA o50 4 p0.toNatClampNeg).toInt = (gA o43 4 p0.toNatClampNeg).toInt := by rw [eo50]; rfl
                  have ko50_k56 : (gI o50 8).toInt = (gI o43 8).toInt := by rw [eo50]; rfl
                  have ko50_v : (gI o50 7).toInt = (p0 + (1 : Int32)).toInt := by rw [eo50]; rfl
                  have hkpo50 : Kp [] [] [] o_me_code o50 := hkpo43.trans (by rw [eo50]; exact Kp.sI (by decide))
                  refine wp_some ?_
                  have t57 := igX6_8 hz19_0
                  exact (show (0 ≤ (1 : Int32).toInt ∧ (1 : Int32).toInt ≤ 1) ∧ IvX6 z19 ∧ Kp [2, 4] [0] [] o_me z19 ∧ IvX0 12 400 o50 ∧ Kp [] [] [] o_me_code o50 ∧ ((gI z19 8).toInt ≤ (gI z19 2).toInt + 0) from ⟨⟨by decide, by decide⟩, hz19_0, hkpz19_me, hIo50, hkpo50, hz19_2⟩)
                · have c42z := c42
                  have c42 := cv_ne (a := z41.toInt) (b := 0) rfl (by decide) c42
                  have t59 := igX6_8 hz19_0
                  refine wp_bd (s_X6_step   z19  hz19_0  hz19_2) (fun z58 hz58 => ?_)
                  obtain ⟨hz58_0, hz58_1, hz58_2⟩ := hz58
                  have hkpz58_me : Kp [2, 4] [0] [] o_me z58 := hkpz19_me.trans (hz58_1.mono (by decide) (by decide) (by decide))
                  have kz58_k60 : (gI z58 2).toInt = (gI z19 2).toInt := congrArg Int32.toInt (hz58_1.1 2 (by decide))
                  have kz58_k61 : (gI z58 4).toInt = (gI z19 4).toInt := congrArg Int32.toInt (hz58_1.1 4 (by decide))
                  have t63 := igX6_8 hz58_0
                  refine wp_bd (sx_X6_readTest   z58 o33 (0 : Int32)  hz58_0 hIo33  ⟨by decide, by decide⟩ hz58_2) (fun z62 hz62 => ?_)
                  obtain ⟨hz62_0, hz62_1, hz62_2, hz62_3, hz62_4, hz62_5⟩ := hz62
                  have hkpz62_me : Kp [2, 4] [0] [] o_me z62.2.1 := hkpz58_me.trans (hz62_2.mono (by decide) (by decide) (by decide))
                  have kz62_k64 : (gI z62.2.1 2).toInt = (gI z58 2).toInt := congrArg Int32.toInt (hz62_2.1 2 (by decide))
                  have kz62_k65 : (gI z62.2.1 4).toInt = (gI z58 4).toInt := congrArg Int32.toInt (hz62_2.1 4 (by decide))
                  have hkpz62_me_code : Kp [] [] [] o_me_code z62.2.2 := hkpo33.trans (hz62_4.mono (by decide) (by decide) (by decide))
                  have kz62_k66 : (gA z62.2.2 1 p0.toNatClampNeg).toInt = (gA o33 1 p0.toNatClampNeg).toInt := congrArg (fun g => (g p0.toNatClampNeg).toInt) (hz62_4.2.1 1 (by decide))
                  refine wp_if (fun c67 => ?_) (fun c67 => ?_)
                  · have c67 := cv_eq (a := z62.1.toInt) (b := 0) rfl (by decide) c67
                    refine wp_some ?_
                    have t68 := igX6_8 hz62_1
                    exact (show (0 ≤ (0 : Int32).toInt ∧ (0 : Int32).toInt ≤ 1) ∧ IvX6 z62.2.1 ∧ Kp [2, 4] [0] [] o_me z62.2.1 ∧ IvX0 12 400 z62.2.2 ∧ Kp [] [] [] o_me_code z62.2.2 ∧ ((gI z62.2.1 8).toInt ≤ (gI z62.2.1 2).toInt + 0) from ⟨⟨by decide, by decide⟩, hz62_1, hkpz62_me, hz62_3, hkpz62_me_code, hz62_5⟩)
                  · have c67z := c67
                    have c67 := cv_ne (a := z62.1.toInt) (b := 0) rfl (by decide) c67
                    unfold bk_X6_readClause_200
                    have t69 := igX0_8 hz62_3
                    refine wp_gd (zin_of (m := 12) rfl c11 (zlt_m (c := 11) (zlt_u (c := 11) c18 (by decide)) (by decide))) ?_
                    refine wp_lt (fun o70 eo70 => ?_)
                    have hIo70 : IvX0 12 400 o70 := by rw [eo70]; exact hz62_3
                    have ko70_k71 : (gA o70 1 p0.toNatClampNeg).toInt = (gA z62.2.2 1 p0.toNatClampNeg).toInt := by rw [eo70]; rfl
                    have ko70_k72 : (gI o70 8).toInt = (gI z62.2.2 8).toInt := by rw [eo70]; rfl
                    have ko70_v : (gA o70 4 p0.toNatClampNeg).toInt = (gI z62.2.2 8).toInt := by rw [eo70]; exact congrArg Int32.toInt (upd_eq (g := gA z62.2.2 4) (i := p0) (v := (gI z62.2.2 8)))
                    have hkpo70 : Kp [] [] [] o_me_code o70 := hkpz62_me_code.trans (by rw [eo70]; exact Kp.tA (by decide) (by decide))
                    have t73 : (p0 + (1 : Int32)).toInt = p0.toInt + 1 := i32_add rfl (by decide) (zk_l c11 (by decide)) (zk_u (zlt_u (c := 11) c18 (by decide)) (by decide))
                    refine wp_lt (fun o74 eo74 => ?_)
                    have hIo74 : IvX0 12 400 o74 := by rw [eo74]; exact ipX0_7 hIo70 ⟨(zl_e (zq_r (c := (-1)) t73 (by decide)) c11 (by decide)), (zu_e (Int.le_of_eq t73) (zlt_u (c := 11) c18 (by decide)) (by decide))⟩
                    have ko74_k75 : (gA o74 1 p0.toNatClampNeg).toInt = (gA o70 1 p0.toNatClampNeg).toInt := by rw [eo74]; rfl
                    have ko74_k76 : (gA o74 4 p0.toNatClampNeg).toInt = (gA o70 4 p0.toNatClampNeg).toInt := by rw [eo74]; rfl
                    have ko74_k77 : (gI o74 8).toInt = (gI o70 8).toInt := by rw [eo74]; rfl
                    have ko74_v : (gI o74 7).toInt = (p0 + (1 : Int32)).toInt := by rw [eo74]; rfl
                    have hkpo74 : Kp [] [] [] o_me_code o74 := hkpo70.trans (by rw [eo74]; exact Kp.sI (by decide))
                    refine wp_some ?_
                    have t78 := igX6_8 hz62_1
                    exact (show (0 ≤ (1 : Int32).toInt ∧ (1 : Int32).toInt ≤ 1) ∧ IvX6 z62.2.1 ∧ Kp [2, 4] [0] [] o_me z62.2.1 ∧ IvX0 12 400 o74 ∧ Kp [] [] [] o_me_code o74 ∧ ((gI z62.2.1 8).toInt ≤ (gI z62.2.1 2).toInt + 0) from ⟨⟨by decide, by decide⟩, hz62_1, hkpz62_me, hIo74, hkpo74, hz62_5⟩)
              · have c40z := c40
                have c40 := cv_ne (a := z39.toInt) (b := 0) rfl (by decide) c40
                have t80 := igX6_8 hz19_0
                refine wp_bd (s_X6_step   z19  hz19_0  hz19_2) (fun z79 hz79 => ?_)
                obtain ⟨hz79_0, hz79_1, hz79_2⟩ := hz79
                have hkpz79_me : Kp [2, 4] [0] [] o_me z79 := hkpz19_me.trans (hz79_1.mono (by decide) (by decide) (by decide))
                have kz79_k81 : (gI z79 2).toInt = (gI z19 2).toInt := congrArg Int32.toInt (hz79_1.1 2 (by decide))
                have kz79_k82 : (gI z79 4).toInt = (gI z19 4).toInt := congrArg Int32.toInt (hz79_1.1 4 (by decide))
                have t83 := igX6_6 hz79_0
                refine wp_if (fun c84 => ?_) (fun c84 => ?_)
                · have c84 := cv_eq (a := (gI z79 6).toInt) (b := 2) rfl (by decide) c84
                  refine wp_if (fun c85 => ?_) (fun c85 => ?_)
                  · have c85 := cv_lt (a := (gI z79 9).toInt) (b := 1) rfl (by decide) c85
                    unfold bk_X6_readClause_155
                    refine wp_bd (s_X6_stop   z79  hz79_0  ) (fun z86 hz86 => ?_)
                    obtain ⟨hz86_0, hz86_1, hz86_2⟩ := hz86
                    have hkpz86_me : Kp [2, 4] [0] [] o_me z86.2 := hkpz79_me.trans (hz86_2.mono (by decide) (by decide) (by decide))
                    have kz86_k87 : (gI z86.2 2).toInt = (gI z79 2).toInt := congrArg Int32.toInt (hz86_2.1 2 (by decide))
                    have kz86_k88 : (gI z86.2 4).toInt = (gI z79 4).toInt := congrArg Int32.toInt (hz86_2.1 4 (by decide))
                    have kz86_k89 : (gI z86.2 6).toInt = (gI z79 6).toInt := congrArg Int32.toInt (hz86_2.1 6 (by decide))
                    have kz86_k90 : (gI z86.2 8).toInt = (gI z79 8).toInt := congrArg Int32.toInt (hz86_2.1 8 (by decide))
                    refine wp_gd (zbo_of hz86_0.1 (Int.le_trans hz86_0.2 (by decide))) ?_
                    refine wp_some ?_
                    have t91 := igX6_8 hz86_1
                    exact (show (0 ≤ z86.1.toInt ∧ z86.1.toInt ≤ 1) ∧ IvX6 z86.2 ∧ Kp [2, 4] [0] [] o_me z86.2 ∧ IvX0 12 400 o33 ∧ Kp [] [] [] o_me_code o33 ∧ ((gI z86.2 8).toInt ≤ (gI z86.2 2).toInt + 0) from ⟨⟨hz86_0.1, (Int.le_trans hz86_0.2 (by decide))⟩, hz86_1, hkpz86_me, hIo33, hkpo33, (zd_e (c := 0) (zd_e (c := 0) (zq_0 kz86_k90) hz79_2 (by decide)) (zq_0 kz86_k87.symm) (by decide))⟩)
                  · have c85 := cv_nlt (a := (gI z79 9).toInt) (b := 1) rfl (by decide) c85
                    refine wp_if (fun c92 => ?_) (fun c92 => ?_)
                    · have c92 := cv_le (a := (gI z79 9).toInt) (b := 20) rfl (by decide) c92
                      refine wp_gd (zin_of (m := 12) rfl c11 (zlt_m (c := 11) (zlt_u (c := 11) c18 (by decide)) (by decide))) ?_
                      refine wp_lt (fun o93 eo93 => ?_)
                      have hIo93 : IvX0 12 400 o93 := by rw [eo93]; exact ibX0_1 hIo33 c11  (Or.inr (Or.inr ⟨(Int.le_trans (by decide) c85), c92⟩))
                      have ko93_k94 : (gA o93 0 p0.toNatClampNeg).toInt = (gA o33 0 p0.toNatClampNeg).toInt := by rw [eo93]; rfl
                      have ko93_k95 : (gA o93 2 p0.toNatClampNeg).toInt = (gA o33 2 p0.toNatClampNeg).toInt := by rw [eo93]; rfl
                      have ko93_k96 : (gA o93 3 p0.toNatClampNeg).toInt = (gA o33 3 p0.toNatClampNeg).toInt := by rw [eo93]; rfl
                      have ko93_k97 : (gI o93 8).toInt = (gI o33 8).toInt := by rw [eo93]; rfl
                      have ko93_v : (gA o93 1 p0.toNatClampNeg).toInt = (gI z79 9).toInt := by rw [eo93]; exact congrArg Int32.toInt (upd_eq (g := gA o33 1) (i := p0) (v := (gI z79 9)))
                      have hkpo93 : Kp [] [] [] o_me_code o93 := hkpo33.trans (by rw [eo93]; exact Kp.tA (by decide) (by decide))
                      have t99 := igX6_8 hz79_0
                      refine wp_bd (s_X6_step   z79  hz79_0  hz79_2) (fun z98 hz98 => ?_)
                      obtain ⟨hz98_0, hz98_1, hz98_2⟩ := hz98
                      have hkpz98_me : Kp [2, 4] [0] [] o_me z98 := hkpz79_me.trans (hz98_1.mono (by decide) (by decide) (by decide))
                      have kz98_k100 : (gI z98 2).toInt = (gI z79 2).toInt := congrArg Int32.toInt (hz98_1.1 2 (by decide))
                      have kz98_k101 : (gI z98 4).toInt = (gI z79 4).toInt := congrArg Int32.toInt (hz98_1.1 4 (by decide))
                      unfold bk_X6_readClause_177
                      refine wp_bd (s_X6_isWord   z98 3  hz98_0 (by decide) ) (fun z102 hz102 => ?_)
                      have hz102_0 := hz102
                      refine wp_if (fun c103 => ?_) (fun c103 => ?_)
                      · have c103 := cv_eq (a := z102.toInt) (b := 0) rfl (by decide) c103
                        unfold bk_X6_readClause_200
                        refine wp_gd (zin_of (m := 12) rfl c11 (zlt_m (c := 11) (zlt_u (c := 11) c18 (by decide)) (by decide))) ?_
                        refine wp_lt (fun o104 eo104 => ?_)
                        have hIo104 : IvX0 12 400 o104 := by rw [eo104]; exact hIo93
                        have ko104_k105 : (gA o104 0 p0.toNatClampNeg).toInt = (gA o93 0 p0.toNatClampNeg).toInt := by rw [eo104]; rfl
                        have ko104_k106 : (gA o104 1 p0.toNatClampNeg).toInt = (gA o93 1 p0.toNatClampNeg).toInt := by rw [eo104]; rfl
                        have ko104_k107 : (gA o104 2 p0.toNatClampNeg).toInt = (gA o93 2 p0.toNatClampNeg).toInt := by rw [eo104]; rfl
                        have ko104_k108 : (gA o104 3 p0.toNatClampNeg).toInt = (gA o93 3 p0.toNatClampNeg).toInt := by rw [eo104]; rfl
                        have ko104_k109 : (gI o104 8).toInt = (gI o93 8).toInt := by rw [eo104]; rfl
                        have ko104_v : (gA o104 4 p0.toNatClampNeg).toInt = (gI o93 8).toInt := by rw [eo104]; exact congrArg Int32.toInt (upd_eq (g := gA o93 4) (i := p0) (v := (gI o93 8)))
                        have hkpo104 : Kp [] [] [] o_me_code o104 := hkpo93.trans (by rw [eo104]; exact Kp.tA (by decide) (by decide))
                        have t110 : (p0 + (1 : Int32)).toInt = p0.toInt + 1 := i32_add rfl (by decide) (zk_l c11 (by decide)) (zk_u (zlt_u (c := 11) c18 (by decide)) (by decide))
                        refine wp_lt (fun o111 eo111 => ?_)
                        have hIo111 : IvX0 12 400 o111 := by rw [eo111]; exact ipX0_7 hIo104 ⟨(zl_e (zq_r (c := (-1)) t110 (by decide)) c11 (by decide)), (zu_e (Int.le_of_eq t110) (zlt_u (c := 11) c18 (by decide)) (by decide))⟩
                        have ko111_k112 : (gA o111 0 p0.toNatClampNeg).toInt = (gA o104 0 p0.toNatClampNeg).toInt := by rw [eo111]; rfl
                        have ko111_k113 : (gA o111 1 p0.toNatClampNeg).toInt = (gA o104 1 p0.toNatClampNeg).toInt := by rw [eo111]; rfl
                        have ko111_k114 : (gA o111 2 p0.toNatClampNeg).toInt = (gA o104 2 p0.toNatClampNeg).toInt := by rw [eo111]; rfl
                        have ko111_k115 : (gA o111 3 p0.toNatClampNeg).toInt = (gA o104 3 p0.toNatClampNeg).toInt := by rw [eo111]; rfl
                        have ko111_k116 : (gA o111 4 p0.toNatClampNeg).toInt = (gA o104 4 p0.toNatClampNeg).toInt := by rw [eo111]; rfl
                        have ko111_k117 : (gI o111 8).toInt = (gI o104 8).toInt := by rw [eo111]; rfl
                        have ko111_v : (gI o111 7).toInt = (p0 + (1 : Int32)).toInt := by rw [eo111]; rfl
                        have hkpo111 : Kp [] [] [] o_me_code o111 := hkpo104.trans (by rw [eo111]; exact Kp.sI (by decide))
                        refine wp_some ?_
                        have t118 := igX6_8 hz98_0
                        exact (show (0 ≤ (1 : Int32).toInt ∧ (1 : Int32).toInt ≤ 1) ∧ IvX6 z98 ∧ Kp [2, 4] [0] [] o_me z98 ∧ IvX0 12 400 o111 ∧ Kp [] [] [] o_me_code o111 ∧ ((gI z98 8).toInt ≤ (gI z98 2).toInt + 0) from ⟨⟨by decide, by decide⟩, hz98_0, hkpz98_me, hIo111, hkpo111, hz98_2⟩)
                      · have c103z := c103
                        have c103 := cv_ne (a := z102.toInt) (b := 0) rfl (by decide) c103
                        have t120 := igX6_8 hz98_0
                        refine wp_bd (s_X6_step   z98  hz98_0  hz98_2) (fun z119 hz119 => ?_)
                        obtain ⟨hz119_0, hz119_1, hz119_2⟩ := hz119
                        have hkpz119_me : Kp [2, 4] [0] [] o_me z119 := hkpz98_me.trans (hz119_1.mono (by decide) (by decide) (by decide))
                        have kz119_k121 : (gI z119 2).toInt = (gI z98 2).toInt := congrArg Int32.toInt (hz119_1.1 2 (by decide))
                        have kz119_k122 : (gI z119 4).toInt = (gI z98 4).toInt := congrArg Int32.toInt (hz119_1.1 4 (by decide))
                        have t124 := igX6_8 hz119_0
                        refine wp_bd (sx_X6_readTest   z119 o93 (0 : Int32)  hz119_0 hIo93  ⟨by decide, by decide⟩ hz119_2) (fun z123 hz123 => ?_)
                        obtain ⟨hz123_0, hz123_1, hz123_2, hz123_3, hz123_4, hz123_5⟩ := hz123
                        have hkpz123_me : Kp [2, 4] [0] [] o_me z123.2.1 := hkpz119_me.trans (hz123_2.mono (by decide) (by decide) (by decide))
                        have kz123_k125 : (gI z123.2.1 2).toInt = (gI z119 2).toInt := congrArg Int32.toInt (hz123_2.1 2 (by decide))
                        have kz123_k126 : (gI z123.2.1 4).toInt = (gI z119 4).toInt := congrArg Int32.toInt (hz123_2.1 4 (by decide))
                        have hkpz123_me_code : Kp [] [] [] o_me_code z123.2.2 := hkpo93.trans (hz123_4.mono (by decide) (by decide) (by decide))
                        have kz123_k127 : (gA z123.2.2 1 p0.toNatClampNeg).toInt = (gA o93 1 p0.toNatClampNeg).toInt := congrArg (fun g => (g p0.toNatClampNeg).toInt) (hz123_4.2.1 1 (by decide))
                        refine wp_if (fun c128 => ?_) (fun c128 => ?_)
                        · have c128 := cv_eq (a := z123.1.toInt) (b := 0) rfl (by decide) c128
                          refine wp_some ?_
                          have t129 := igX6_8 hz123_1
                          exact (show (0 ≤ (0 : Int32).toInt ∧ (0 : Int32).toInt ≤ 1) ∧ IvX6 z123.2.1 ∧ Kp [2, 4] [0] [] o_me z123.2.1 ∧ IvX0 12 400 z123.2.2 ∧ Kp [] [] [] o_me_code z123.2.2 ∧ ((gI z123.2.1 8).toInt ≤ (gI z123.2.1 2).toInt + 0) from ⟨⟨by decide, by decide⟩, hz123_1, hkpz123_me, hz123_3, hkpz123_me_code, hz123_5⟩)
                        · have c128z := c128
                          have c128 := cv_ne (a := z123.1.toInt) (b := 0) rfl (by decide) c128
                          unfold bk_X6_readClause_200
                          have t130 := igX0_8 hz123_3
                          refine wp_gd (zin_of (m := 12) rfl c11 (zlt_m (c := 11) (zlt_u (c := 11) c18 (by decide)) (by decide))) ?_
                          refine wp_lt (fun o131 eo131 => ?_)
                          have hIo131 : IvX0 12 400 o131 := by rw [eo131]; exact hz123_3
                          have ko131_k132 : (gA o131 1 p0.toNatClampNeg).toInt = (gA z123.2.2 1 p0.toNatClampNeg).toInt := by rw [eo131]; rfl
                          have ko131_k133 : (gI o131 8).toInt = (gI z123.2.2 8).toInt := by rw [eo131]; rfl
                          have ko131_v : (gA o131 4 p0.toNatClampNeg).toInt = (gI z123.2.2 8).toInt := by rw [eo131]; exact congrArg Int32.toInt (upd_eq (g := gA z123.2.2 4) (i := p0) (v := (gI z123.2.2 8)))
                          have hkpo131 : Kp [] [] [] o_me_code o131 := hkpz123_me_code.trans (by rw [eo131]; exact Kp.tA (by decide) (by decide))
                          have t134 : (p0 + (1 : Int32)).toInt = p0.toInt + 1 := i32_add rfl (by decide) (zk_l c11 (by decide)) (zk_u (zlt_u (c := 11) c18 (by decide)) (by decide))
                          refine wp_lt (fun o135 eo135 => ?_)
                          have hIo135 : IvX0 12 400 o135 := by rw [eo135]; exact ipX0_7 hIo131 ⟨(zl_e (zq_r (c := (-1)) t134 (by decide)) c11 (by decide)), (zu_e (Int.le_of_eq t134) (zlt_u (c := 11) c18 (by decide)) (by decide))⟩
                          have ko135_k136 : (gA o135 1 p0.toNatClampNeg).toInt = (gA o131 1 p0.toNatClampNeg).toInt := by rw [eo135]; rfl
                          have ko135_k137 : (gA o135 4 p0.toNatClampNeg).toInt = (gA o131 4 p0.toNatClampNeg).toInt := by rw [eo135]; rfl
                          have ko135_k138 : (gI o135 8).toInt = (gI o131 8).toInt := by rw [eo135]; rfl
                          have ko135_v : (gI o135 7).toInt = (p0 + (1 : Int32)).toInt := by rw [eo135]; rfl
                          have hkpo135 : Kp [] [] [] o_me_code o135 := hkpo131.trans (by rw [eo135]; exact Kp.sI (by decide))
                          refine wp_some ?_
                          have t139 := igX6_8 hz123_1
                          exact (show (0 ≤ (1 : Int32).toInt ∧ (1 : Int32).toInt ≤ 1) ∧ IvX6 z123.2.1 ∧ Kp [2, 4] [0] [] o_me z123.2.1 ∧ IvX0 12 400 o135 ∧ Kp [] [] [] o_me_code o135 ∧ ((gI z123.2.1 8).toInt ≤ (gI z123.2.1 2).toInt + 0) from ⟨⟨by decide, by decide⟩, hz123_1, hkpz123_me, hIo135, hkpo135, hz123_5⟩)
                    · have c92 := cv_nle (a := (gI z79 9).toInt) (b := 20) rfl (by decide) c92
                      unfold bk_X6_readClause_155
                      refine wp_bd (s_X6_stop   z79  hz79_0  ) (fun z140 hz140 => ?_)
                      obtain ⟨hz140_0, hz140_1, hz140_2⟩ := hz140
                      have hkpz140_me : Kp [2, 4] [0] [] o_me z140.2 := hkpz79_me.trans (hz140_2.mono (by decide) (by decide) (by decide))
                      have kz140_k141 : (gI z140.2 2).toInt = (gI z79 2).toInt := congrArg Int32.toInt (hz140_2.1 2 (by decide))
                      have kz140_k142 : (gI z140.2 4).toInt = (gI z79 4).toInt := congrArg Int32.toInt (hz140_2.1 4 (by decide))
                      have kz140_k143 : (gI z140.2 6).toInt = (gI z79 6).toInt := congrArg Int32.toInt (hz140_2.1 6 (by decide))
                      have kz140_k144 : (gI z140.2 8).toInt = (gI z79 8).toInt := congrArg Int32.toInt (hz140_2.1 8 (by decide))
                      refine wp_gd (zbo_of hz140_0.1 (Int.le_trans hz140_0.2 (by decide))) ?_
                      refine wp_some ?_
                      have t145 := igX6_8 hz140_1
                      exact (show (0 ≤ z140.1.toInt ∧ z140.1.toInt ≤ 1) ∧ IvX6 z140.2 ∧ Kp [2, 4] [0] [] o_me z140.2 ∧ IvX0 12 400 o33 ∧ Kp [] [] [] o_me_code o33 ∧ ((gI z140.2 8).toInt ≤ (gI z140.2 2).toInt + 0) from ⟨⟨hz140_0.1, (Int.le_trans hz140_0.2 (by decide))⟩, hz140_1, hkpz140_me, hIo33, hkpo33, (zd_e (c := 0) (zd_e (c := 0) (zq_0 kz140_k144) hz79_2 (by decide)) (zq_0 kz140_k141.symm) (by decide))⟩)
                · have c84 := cv_ne (a := (gI z79 6).toInt) (b := 2) rfl (by decide) c84
                  unfold bk_X6_readClause_155
                  refine wp_bd (s_X6_stop   z79  hz79_0  ) (fun z146 hz146 => ?_)
                  obtain ⟨hz146_0, hz146_1, hz146_2⟩ := hz146
                  have hkpz146_me : Kp [2, 4] [0] [] o_me z146.2 := hkpz79_me.trans (hz146_2.mono (by decide) (by decide) (by decide))
                  have kz146_k147 : (gI z146.2 2).toInt = (gI z79 2).toInt := congrArg Int32.toInt (hz146_2.1 2 (by decide))
                  have kz146_k148 : (gI z146.2 4).toInt = (gI z79 4).toInt := congrArg Int32.toInt (hz146_2.1 4 (by decide))
                  have kz146_k149 : (gI z146.2 6).toInt = (gI z79 6).toInt := congrArg Int32.toInt (hz146_2.1 6 (by decide))
                  have kz146_k150 : (gI z146.2 8).toInt = (gI z79 8).toInt := congrArg Int32.toInt (hz146_2.1 8 (by decide))
                  refine wp_gd (zbo_of hz146_0.1 (Int.le_trans hz146_0.2 (by decide))) ?_
                  refine wp_some ?_
                  have t151 := igX6_8 hz146_1
                  exact (show (0 ≤ z146.1.toInt ∧ z146.1.toInt ≤ 1) ∧ IvX6 z146.2 ∧ Kp [2, 4] [0] [] o_me z146.2 ∧ IvX0 12 400 o33 ∧ Kp [] [] [] o_me_code o33 ∧ ((gI z146.2 8).toInt ≤ (gI z146.2 2).toInt + 0) from ⟨⟨hz146_0.1, (Int.le_trans hz146_0.2 (by decide))⟩, hz146_1, hkpz146_me, hIo33, hkpo33, (zd_e (c := 0) (zd_e (c := 0) (zq_0 kz146_k150) hz79_2 (by decide)) (zq_0 kz146_k147.symm) (by decide))⟩)
            · have c38z := c38
              have c38 := cv_ne (a := (gI z19 4).toInt) (b := 0) rfl (by decide) c38
              exact absurd (Int.le_antisymm (zu_e (zq_0 kz19_k23) (Int.le_of_eq c2) (by decide)) (zl_e (zq_0 kz19_k23.symm) t1.1 (by decide))) c38
          · have c32 := cv_ne (a := z3.toInt) (b := 3) rfl (by decide) c32
            have t153 := igX6_8 hz19_0
            refine wp_bd (sx_X6_readSum   z19 o28 (0 : Int32)  hz19_0 hIo28  ⟨by decide, by decide⟩ hz19_2) (fun z152 hz152 => ?_)
            obtain ⟨hz152_0, hz152_1, hz152_2, hz152_3, hz152_4, hz152_5⟩ := hz152
            have hkpz152_me : Kp [2, 4] [0] [] o_me z152.2.1 := hkpz19_me.trans (hz152_2.mono (by decide) (by decide) (by decide))
            have kz152_k154 : (gI z152.2.1 2).toInt = (gI z19 2).toInt := congrArg Int32.toInt (hz152_2.1 2 (by decide))
            have kz152_k155 : (gI z152.2.1 4).toInt = (gI z19 4).toInt := congrArg Int32.toInt (hz152_2.1 4 (by decide))
            have hkpz152_me_code : Kp [] [] [] o_me_code z152.2.2 := hkpo28.trans (hz152_4.mono (by decide) (by decide) (by decide))
            have kz152_k156 : (gA z152.2.2 1 p0.toNatClampNeg).toInt = (gA o28 1 p0.toNatClampNeg).toInt := congrArg (fun g => (g p0.toNatClampNeg).toInt) (hz152_4.2.1 1 (by decide))
            refine wp_if (fun c157 => ?_) (fun c157 => ?_)
            · have c157 := cv_eq (a := z152.1.toInt) (b := 0) rfl (by decide) c157
              refine wp_some ?_
              have t158 := igX6_8 hz152_1
              exact (show (0 ≤ (0 : Int32).toInt ∧ (0 : Int32).toInt ≤ 1) ∧ IvX6 z152.2.1 ∧ Kp [2, 4] [0] [] o_me z152.2.1 ∧ IvX0 12 400 z152.2.2 ∧ Kp [] [] [] o_me_code z152.2.2 ∧ ((gI z152.2.1 8).toInt ≤ (gI z152.2.1 2).toInt + 0) from ⟨⟨by decide, by decide⟩, hz152_1, hkpz152_me, hz152_3, hkpz152_me_code, hz152_5⟩)
            · have c157z := c157
              have c157 := cv_ne (a := z152.1.toInt) (b := 0) rfl (by decide) c157
              unfold bk_X6_readClause_94
              have t159 := igX0_8 hz152_3
              refine wp_gd (zin_of (m := 12) rfl c11 (zlt_m (c := 11) (zlt_u (c := 11) c18 (by decide)) (by decide))) ?_
              refine wp_lt (fun o160 eo160 => ?_)
              have hIo160 : IvX0 12 400 o160 := by rw [eo160]; exact hz152_3
              have ko160_k161 : (gA o160 1 p0.toNatClampNeg).toInt = (gA z152.2.2 1 p0.toNatClampNeg).toInt := by rw [eo160]; rfl
              have ko160_k162 : (gI o160 8).toInt = (gI z152.2.2 8).toInt := by rw [eo160]; rfl
              have ko160_v : (gA o160 3 p0.toNatClampNeg).toInt = (gI z152.2.2 8).toInt := by rw [eo160]; exact congrArg Int32.toInt (upd_eq (g := gA z152.2.2 3) (i := p0) (v := (gI z152.2.2 8)))
              have hkpo160 : Kp [] [] [] o_me_code o160 := hkpz152_me_code.trans (by rw [eo160]; exact Kp.tA (by decide) (by decide))
              refine wp_if (fun c163 => ?_) (fun c163 => ?_)
              · have c163 := cv_eq (a := (gI z152.2.1 4).toInt) (b := 0) rfl (by decide) c163
                refine wp_bd (s_X6_isWord   z152.2.1 2  hz152_1 (by decide) ) (fun z164 hz164 => ?_)
                have hz164_0 := hz164
                refine wp_if (fun c165 => ?_) (fun c165 => ?_)
                · have c165 := cv_eq (a := z164.toInt) (b := 0) rfl (by decide) c165
                  unfold bk_X6_readClause_177
                  refine wp_bd (s_X6_isWord   z152.2.1 3  hz152_1 (by decide) ) (fun z166 hz166 => ?_)
                  have hz166_0 := hz166
                  refine wp_if (fun c167 => ?_) (fun c167 => ?_)
                  · have c167 := cv_eq (a := z166.toInt) (b := 0) rfl (by decide) c167
                    unfold bk_X6_readClause_200
                    refine wp_gd (zin_of (m := 12) rfl c11 (zlt_m (c := 11) (zlt_u (c := 11) c18 (by decide)) (by decide))) ?_
                    refine wp_lt (fun o168 eo168 => ?_)
                    have hIo168 : IvX0 12 400 o168 := by rw [eo168]; exact hIo160
                    have ko168_k169 : (gA o168 1 p0.toNatClampNeg).toInt = (gA o160 1 p0.toNatClampNeg).toInt := by rw [eo168]; rfl
                    have ko168_k170 : (gA o168 3 p0.toNatClampNeg).toInt = (gA o160 3 p0.toNatClampNeg).toInt := by rw [eo168]; rfl
                    have ko168_k171 : (gI o168 8).toInt = (gI o160 8).toInt := by rw [eo168]; rfl
                    have ko168_v : (gA o168 4 p0.toNatClampNeg).toInt = (gI o160 8).toInt := by rw [eo168]; exact congrArg Int32.toInt (upd_eq (g := gA o160 4) (i := p0) (v := (gI o160 8)))
                    have hkpo168 : Kp [] [] [] o_me_code o168 := hkpo160.trans (by rw [eo168]; exact Kp.tA (by decide) (by decide))
                    have t172 : (p0 + (1 : Int32)).toInt = p0.toInt + 1 := i32_add rfl (by decide) (zk_l c11 (by decide)) (zk_u (zlt_u (c := 11) c18 (by decide)) (by decide))
                    refine wp_lt (fun o173 eo173 => ?_)
                    have hIo173 : IvX0 12 400 o173 := by rw [eo173]; exact ipX0_7 hIo168 ⟨(zl_e (zq_r (c := (-1)) t172 (by decide)) c11 (by decide)), (zu_e (Int.le_of_eq t172) (zlt_u (c := 11) c18 (by decide)) (by decide))⟩
                    have ko173_k174 : (gA o173 1 p0.toNatClampNeg).toInt = (gA o168 1 p0.toNatClampNeg).toInt := by rw [eo173]; rfl
                    have ko173_k175 : (gA o173 3 p0.toNatClampNeg).toInt = (gA o168 3 p0.toNatClampNeg).toInt := by rw [eo173]; rfl
                    have ko173_k176 : (gA o173 4 p0.toNatClampNeg).toInt = (gA o168 4 p0.toNatClampNeg).toInt := by rw [eo173]; rfl
                    have ko173_k177 : (gI o173 8).toInt = (gI o168 8).toInt := by rw [eo173]; rfl
                    have ko173_v : (gI o173 7).toInt = (p0 + (1 : Int32)).toInt := by rw [eo173]; rfl
                    have hkpo173 : Kp [] [] [] o_me_code o173 := hkpo168.trans (by rw [eo173]; exact Kp.sI (by decide))
                    refine wp_some ?_
                    have t178 := igX6_8 hz152_1
                    exact (show (0 ≤ (1 : Int32).toInt ∧ (1 : Int32).toInt ≤ 1) ∧ IvX6 z152.2.1 ∧ Kp [2, 4] [0] [] o_me z152.2.1 ∧ IvX0 12 400 o173 ∧ Kp [] [] [] o_me_code o173 ∧ ((gI z152.2.1 8).toInt ≤ (gI z152.2.1 2).toInt + 0) from ⟨⟨by decide, by decide⟩, hz152_1, hkpz152_me, hIo173, hkpo173, hz152_5⟩)
                  · have c167z := c167
                    have c167 := cv_ne (a := z166.toInt) (b := 0) rfl (by decide) c167
                    have t180 := igX6_8 hz152_1
                    refine wp_bd (s_X6_step   z152.2.1  hz152_1  hz152_5) (fun z179 hz179 => ?_)
                    obtain ⟨hz179_0, hz179_1, hz179_2⟩ := hz179
                    have hkpz179_me : Kp [2, 4] [0] [] o_me z179 := hkpz152_me.trans (hz179_1.mono (by decide) (by decide) (by decide))
                    have kz179_k181 : (gI z179 2).toInt = (gI z152.2.1 2).toInt := congrArg Int32.toInt (hz179_1.1 2 (by decide))
                    have kz179_k182 : (gI z179 4).toInt = (gI z152.2.1 4).toInt := congrArg Int32.toInt (hz179_1.1 4 (by decide))
                    have t184 := igX6_8 hz179_0
                    refine wp_bd (sx_X6_readTest   z179 o160 (0 : Int32)  hz179_0 hIo160  ⟨by decide, by decide⟩ hz179_2) (fun z183 hz183 => ?_)
                    obtain ⟨hz183_0, hz183_1, hz183_2, hz183_3, hz183_4, hz183_5⟩ := hz183
                    have hkpz183_me : Kp [2, 4] [0] [] o_me z183.2.1 := hkpz179_me.trans (hz183_2.mono (by decide) (by decide) (by decide))
                    have kz183_k185 : (gI z183.2.1 2).toInt = (gI z179 2).toInt := congrArg Int32.toInt (hz183_2.1 2 (by decide))
                    have kz183_k186 : (gI z183.2.1 4).toInt = (gI z179 4).toInt := congrArg Int32.toInt (hz183_2.1 4 (by decide))
                    have hkpz183_me_code : Kp [] [] [] o_me_code z183.2.2 := hkpo160.trans (hz183_4.mono (by decide) (by decide) (by decide))
                    have kz183_k187 : (gA z183.2.2 1 p0.toNatClampNeg).toInt = (gA o160 1 p0.toNatClampNeg).toInt := congrArg (fun g => (g p0.toNatClampNeg).toInt) (hz183_4.2.1 1 (by decide))
                    refine wp_if (fun c188 => ?_) (fun c188 => ?_)
                    · have c188 := cv_eq (a := z183.1.toInt) (b := 0) rfl (by decide) c188
                      refine wp_some ?_
                      have t189 := igX6_8 hz183_1
                      exact (show (0 ≤ (0 : Int32).toInt ∧ (0 : Int32).toInt ≤ 1) ∧ IvX6 z183.2.1 ∧ Kp [2, 4] [0] [] o_me z183.2.1 ∧ IvX0 12 400 z183.2.2 ∧ Kp [] [] [] o_me_code z183.2.2 ∧ ((gI z183.2.1 8).toInt ≤ (gI z183.2.1 2).toInt + 0) from ⟨⟨by decide, by decide⟩, hz183_1, hkpz183_me, hz183_3, hkpz183_me_code, hz183_5⟩)
                    · have c188z := c188
                      have c188 := cv_ne (a := z183.1.toInt) (b := 0) rfl (by decide) c188
                      unfold bk_X6_readClause_200
                      have t190 := igX0_8 hz183_3
                      refine wp_gd (zin_of (m := 12) rfl c11 (zlt_m (c := 11) (zlt_u (c := 11) c18 (by decide)) (by decide))) ?_
                      refine wp_lt (fun o191 eo191 => ?_)
                      have hIo191 : IvX0 12 400 o191 := by rw [eo191]; exact hz183_3
                      have ko191_k192 : (gA o191 1 p0.toNatClampNeg).toInt = (gA z183.2.2 1 p0.toNatClampNeg).toInt := by rw [eo191]; rfl
                      have ko191_k193 : (gI o191 8).toInt = (gI z183.2.2 8).toInt := by rw [eo191]; rfl
                      have ko191_v : (gA o191 4 p0.toNatClampNeg).toInt = (gI z183.2.2 8).toInt := by rw [eo191]; exact congrArg Int32.toInt (upd_eq (g := gA z183.2.2 4) (i := p0) (v := (gI z183.2.2 8)))
                      have hkpo191 : Kp [] [] [] o_me_code o191 := hkpz183_me_code.trans (by rw [eo191]; exact Kp.tA (by decide) (by decide))
                      have t194 : (p0 + (1 : Int32)).toInt = p0.toInt + 1 := i32_add rfl (by decide) (zk_l c11 (by decide)) (zk_u (zlt_u (c := 11) c18 (by decide)) (by decide))
                      refine wp_lt (fun o195 eo195 => ?_)
                      have hIo195 : IvX0 12 400 o195 := by rw [eo195]; exact ipX0_7 hIo191 ⟨(zl_e (zq_r (c := (-1)) t194 (by decide)) c11 (by decide)), (zu_e (Int.le_of_eq t194) (zlt_u (c := 11) c18 (by decide)) (by decide))⟩
                      have ko195_k196 : (gA o195 1 p0.toNatClampNeg).toInt = (gA o191 1 p0.toNatClampNeg).toInt := by rw [eo195]; rfl
                      have ko195_k197 : (gA o195 4 p0.toNatClampNeg).toInt = (gA o191 4 p0.toNatClampNeg).toInt := by rw [eo195]; rfl
                      have ko195_k198 : (gI o195 8).toInt = (gI o191 8).toInt := by rw [eo195]; rfl
                      have ko195_v : (gI o195 7).toInt = (p0 + (1 : Int32)).toInt := by rw [eo195]; rfl
                      have hkpo195 : Kp [] [] [] o_me_code o195 := hkpo191.trans (by rw [eo195]; exact Kp.sI (by decide))
                      refine wp_some ?_
                      have t199 := igX6_8 hz183_1
                      exact (show (0 ≤ (1 : Int32).toInt ∧ (1 : Int32).toInt ≤ 1) ∧ IvX6 z183.2.1 ∧ Kp [2, 4] [0] [] o_me z183.2.1 ∧ IvX0 12 400 o195 ∧ Kp [] [] [] o_me_code o195 ∧ ((gI z183.2.1 8).toInt ≤ (gI z183.2.1 2).toInt + 0) from ⟨⟨by decide, by decide⟩, hz183_1, hkpz183_me, hIo195, hkpo195, hz183_5⟩)
                · have c165z := c165
                  have c165 := cv_ne (a := z164.toInt) (b := 0) rfl (by decide) c165
                  have t201 := igX6_8 hz152_1
                  refine wp_bd (s_X6_step   z152.2.1  hz152_1  hz152_5) (fun z200 hz200 => ?_)
                  obtain ⟨hz200_0, hz200_1, hz200_2⟩ := hz200
                  have hkpz200_me : Kp [2, 4] [0] [] o_me z200 := hkpz152_me.trans (hz200_1.mono (by decide) (by decide) (by decide))
                  have kz200_k202 : (gI z200 2).toInt = (gI z152.2.1 2).toInt := congrArg Int32.toInt (hz200_1.1 2 (by decide))
                  have kz200_k203 : (gI z200 4).toInt = (gI z152.2.1 4).toInt := congrArg Int32.toInt (hz200_1.1 4 (by decide))
                  have t204 := igX6_6 hz200_0
                  refine wp_if (fun c205 => ?_) (fun c205 => ?_)
                  · have c205 := cv_eq (a := (gI z200 6).toInt) (b := 2) rfl (by decide) c205
                    refine wp_if (fun c206 => ?_) (fun c206 => ?_)
                    · have c206 := cv_lt (a := (gI z200 9).toInt) (b := 1) rfl (by decide) c206
                      unfold bk_X6_readClause_155
                      refine wp_bd (s_X6_stop   z200  hz200_0  ) (fun z207 hz207 => ?_)
                      obtain ⟨hz207_0, hz207_1, hz207_2⟩ := hz207
                      have hkpz207_me : Kp [2, 4] [0] [] o_me z207.2 := hkpz200_me.trans (hz207_2.mono (by decide) (by decide) (by decide))
                      have kz207_k208 : (gI z207.2 2).toInt = (gI z200 2).toInt := congrArg Int32.toInt (hz207_2.1 2 (by decide))
                      have kz207_k209 : (gI z207.2 4).toInt = (gI z200 4).toInt := congrArg Int32.toInt (hz207_2.1 4 (by decide))
                      have kz207_k210 : (gI z207.2 6).toInt = (gI z200 6).toInt := congrArg Int32.toInt (hz207_2.1 6 (by decide))
                      have kz207_k211 : (gI z207.2 8).toInt = (gI z200 8).toInt := congrArg Int32.toInt (hz207_2.1 8 (by decide))
                      refine wp_gd (zbo_of hz207_0.1 (Int.le_trans hz207_0.2 (by decide))) ?_
                      refine wp_some ?_
                      have t212 := igX6_8 hz207_1
                      exact (show (0 ≤ z207.1.toInt ∧ z207.1.toInt ≤ 1) ∧ IvX6 z207.2 ∧ Kp [2, 4] [0] [] o_me z207.2 ∧ IvX0 12 400 o160 ∧ Kp [] [] [] o_me_code o160 ∧ ((gI z207.2 8).toInt ≤ (gI z207.2 2).toInt + 0) from ⟨⟨hz207_0.1, (Int.le_trans hz207_0.2 (by decide))⟩, hz207_1, hkpz207_me, hIo160, hkpo160, (zd_e (c := 0) (zd_e (c := 0) (zq_0 kz207_k211) hz200_2 (by decide)) (zq_0 kz207_k208.symm) (by decide))⟩)
                    · have c206 := cv_nlt (a := (gI z200 9).toInt) (b := 1) rfl (by decide) c206
                      refine wp_if (fun c213 => ?_) (fun c213 => ?_)
                      · have c213 := cv_le (a := (gI z200 9).toInt) (b := 20) rfl (by decide) c213
                        refine wp_gd (zin_of (m := 12) rfl c11 (zlt_m (c := 11) (zlt_u (c := 11) c18 (by decide)) (by decide))) ?_
                        refine wp_lt (fun o214 eo214 => ?_)
                        have hIo214 : IvX0 12 400 o214 := by rw [eo214]; exact ibX0_1 hIo160 c11  (Or.inr (Or.inr ⟨(Int.le_trans (by decide) c206), c213⟩))
                        have ko214_k215 : (gA o214 3 p0.toNatClampNeg).toInt = (gA o160 3 p0.toNatClampNeg).toInt := by rw [eo214]; rfl
                        have ko214_k216 : (gI o214 8).toInt = (gI o160 8).toInt := by rw [eo214]; rfl
                        have ko214_v : (gA o214 1 p0.toNatClampNeg).toInt = (gI z200 9).toInt := by rw [eo214]; exact congrArg Int32.toInt (upd_eq (g := gA o160 1) (i := p0) (v := (gI z200 9)))
                        have hkpo214 : Kp [] [] [] o_me_code o214 := hkpo160.trans (by rw [eo214]; exact Kp.tA (by decide) (by decide))
                        have t218 := igX6_8 hz200_0
                        refine wp_bd (s_X6_step   z200  hz200_0  hz200_2) (fun z217 hz217 => ?_)
                        obtain ⟨hz217_0, hz217_1, hz217_2⟩ := hz217
                        have hkpz217_me : Kp [2, 4] [0] [] o_me z217 := hkpz200_me.trans (hz217_1.mono (by decide) (by decide) (by decide))
                        have kz217_k219 : (gI z217 2).toInt = (gI z200 2).toInt := congrArg Int32.toInt (hz217_1.1 2 (by decide))
                        have kz217_k220 : (gI z217 4).toInt = (gI z200 4).toInt := congrArg Int32.toInt (hz217_1.1 4 (by decide))
                        unfold bk_X6_readClause_177
                        refine wp_bd (s_X6_isWord   z217 3  hz217_0 (by decide) ) (fun z221 hz221 => ?_)
                        have hz221_0 := hz221
                        refine wp_if (fun c222 => ?_) (fun c222 => ?_)
                        · have c222 := cv_eq (a := z221.toInt) (b := 0) rfl (by decide) c222
                          unfold bk_X6_readClause_200
                          refine wp_gd (zin_of (m := 12) rfl c11 (zlt_m (c := 11) (zlt_u (c := 11) c18 (by decide)) (by decide))) ?_
                          refine wp_lt (fun o223 eo223 => ?_)
                          have hIo223 : IvX0 12 400 o223 := by rw [eo223]; exact hIo214
                          have ko223_k224 : (gA o223 1 p0.toNatClampNeg).toInt = (gA o214 1 p0.toNatClampNeg).toInt := by rw [eo223]; rfl
                          have ko223_k225 : (gA o223 3 p0.toNatClampNeg).toInt = (gA o214 3 p0.toNatClampNeg).toInt := by rw [eo223]; rfl
                          have ko223_k226 : (gI o223 8).toInt = (gI o214 8).toInt := by rw [eo223]; rfl
                          have ko223_v : (gA o223 4 p0.toNatClampNeg).toInt = (gI o214 8).toInt := by rw [eo223]; exact congrArg Int32.toInt (upd_eq (g := gA o214 4) (i := p0) (v := (gI o214 8)))
                          have hkpo223 : Kp [] [] [] o_me_code o223 := hkpo214.trans (by rw [eo223]; exact Kp.tA (by decide) (by decide))
                          have t227 : (p0 + (1 : Int32)).toInt = p0.toInt + 1 := i32_add rfl (by decide) (zk_l c11 (by decide)) (zk_u (zlt_u (c := 11) c18 (by decide)) (by decide))
                          refine wp_lt (fun o228 eo228 => ?_)
                          have hIo228 : IvX0 12 400 o228 := by rw [eo228]; exact ipX0_7 hIo223 ⟨(zl_e (zq_r (c := (-1)) t227 (by decide)) c11 (by decide)), (zu_e (Int.le_of_eq t227) (zlt_u (c := 11) c18 (by decide)) (by decide))⟩
                          have ko228_k229 : (gA o228 1 p0.toNatClampNeg).toInt = (gA o223 1 p0.toNatClampNeg).toInt := by rw [eo228]; rfl
                          have ko228_k230 : (gA o228 3 p0.toNatClampNeg).toInt = (gA o223 3 p0.toNatClampNeg).toInt := by rw [eo228]; rfl
                          have ko228_k231 : (gA o228 4 p0.toNatClampNeg).toInt = (gA o223 4 p0.toNatClampNeg).toInt := by rw [eo228]; rfl
                          have ko228_k232 : (gI o228 8).toInt = (gI o223 8).toInt := by rw [eo228]; rfl
                          have ko228_v : (gI o228 7).toInt = (p0 + (1 : Int32)).toInt := by rw [eo228]; rfl
                          have hkpo228 : Kp [] [] [] o_me_code o228 := hkpo223.trans (by rw [eo228]; exact Kp.sI (by decide))
                          refine wp_some ?_
                          have t233 := igX6_8 hz217_0
                          exact (show (0 ≤ (1 : Int32).toInt ∧ (1 : Int32).toInt ≤ 1) ∧ IvX6 z217 ∧ Kp [2, 4] [0] [] o_me z217 ∧ IvX0 12 400 o228 ∧ Kp [] [] [] o_me_code o228 ∧ ((gI z217 8).toInt ≤ (gI z217 2).toInt + 0) from ⟨⟨by decide, by decide⟩, hz217_0, hkpz217_me, hIo228, hkpo228, hz217_2⟩)
                        · have c222z := c222
                          have c222 := cv_ne (a := z221.toInt) (b := 0) rfl (by decide) c222
                          have t235 := igX6_8 hz217_0
                          refine wp_bd (s_X6_step   z217  hz217_0  hz217_2) (fun z234 hz234 => ?_)
                          obtain ⟨hz234_0, hz234_1, hz234_2⟩ := hz234
                          have hkpz234_me : Kp [2, 4] [0] [] o_me z234 := hkpz217_me.trans (hz234_1.mono (by decide) (by decide) (by decide))
                          have kz234_k236 : (gI z234 2).toInt = (gI z217 2).toInt := congrArg Int32.toInt (hz234_1.1 2 (by decide))
                          have kz234_k237 : (gI z234 4).toInt = (gI z217 4).toInt := congrArg Int32.toInt (hz234_1.1 4 (by decide))
                          have t239 := igX6_8 hz234_0
                          refine wp_bd (sx_X6_readTest   z234 o214 (0 : Int32)  hz234_0 hIo214  ⟨by decide, by decide⟩ hz234_2) (fun z238 hz238 => ?_)
                          obtain ⟨hz238_0, hz238_1, hz238_2, hz238_3, hz238_4, hz238_5⟩ := hz238
                          have hkpz238_me : Kp [2, 4] [0] [] o_me z238.2.1 := hkpz234_me.trans (hz238_2.mono (by decide) (by decide) (by decide))
                          have kz238_k240 : (gI z238.2.1 2).toInt = (gI z234 2).toInt := congrArg Int32.toInt (hz238_2.1 2 (by decide))
                          have kz238_k241 : (gI z238.2.1 4).toInt = (gI z234 4).toInt := congrArg Int32.toInt (hz238_2.1 4 (by decide))
                          have hkpz238_me_code : Kp [] [] [] o_me_code z238.2.2 := hkpo214.trans (hz238_4.mono (by decide) (by decide) (by decide))
                          have kz238_k242 : (gA z238.2.2 1 p0.toNatClampNeg).toInt = (gA o214 1 p0.toNatClampNeg).toInt := congrArg (fun g => (g p0.toNatClampNeg).toInt) (hz238_4.2.1 1 (by decide))
                          refine wp_if (fun c243 => ?_) (fun c243 => ?_)
                          · have c243 := cv_eq (a := z238.1.toInt) (b := 0) rfl (by decide) c243
                            refine wp_some ?_
                            have t244 := igX6_8 hz238_1
                            exact (show (0 ≤ (0 : Int32).toInt ∧ (0 : Int32).toInt ≤ 1) ∧ IvX6 z238.2.1 ∧ Kp [2, 4] [0] [] o_me z238.2.1 ∧ IvX0 12 400 z238.2.2 ∧ Kp [] [] [] o_me_code z238.2.2 ∧ ((gI z238.2.1 8).toInt ≤ (gI z238.2.1 2).toInt + 0) from ⟨⟨by decide, by decide⟩, hz238_1, hkpz238_me, hz238_3, hkpz238_me_code, hz238_5⟩)
                          · have c243z := c243
                            have c243 := cv_ne (a := z238.1.toInt) (b := 0) rfl (by decide) c243
                            unfold bk_X6_readClause_200
                            have t245 := igX0_8 hz238_3
                            refine wp_gd (zin_of (m := 12) rfl c11 (zlt_m (c := 11) (zlt_u (c := 11) c18 (by decide)) (by decide))) ?_
                            refine wp_lt (fun o246 eo246 => ?_)
                            have hIo246 : IvX0 12 400 o246 := by rw [eo246]; exact hz238_3
                            have ko246_k247 : (gA o246 1 p0.toNatClampNeg).toInt = (gA z238.2.2 1 p0.toNatClampNeg).toInt := by rw [eo246]; rfl
                            have ko246_k248 : (gI o246 8).toInt = (gI z238.2.2 8).toInt := by rw [eo246]; rfl
                            have ko246_v : (gA o246 4 p0.toNatClampNeg).toInt = (gI z238.2.2 8).toInt := by rw [eo246]; exact congrArg Int32.toInt (upd_eq (g := gA z238.2.2 4) (i := p0) (v := (gI z238.2.2 8)))
                            have hkpo246 : Kp [] [] [] o_me_code o246 := hkpz238_me_code.trans (by rw [eo246]; exact Kp.tA (by decide) (by decide))
                            have t249 : (p0 + (1 : Int32)).toInt = p0.toInt + 1 := i32_add rfl (by decide) (zk_l c11 (by decide)) (zk_u (zlt_u (c := 11) c18 (by decide)) (by decide))
                            refine wp_lt (fun o250 eo250 => ?_)
                            have hIo250 : IvX0 12 400 o250 := by rw [eo250]; exact ipX0_7 hIo246 ⟨(zl_e (zq_r (c := (-1)) t249 (by decide)) c11 (by decide)), (zu_e (Int.le_of_eq t249) (zlt_u (c := 11) c18 (by decide)) (by decide))⟩
                            have ko250_k251 : (gA o250 1 p0.toNatClampNeg).toInt = (gA o246 1 p0.toNatClampNeg).toInt := by rw [eo250]; rfl
                            have ko250_k252 : (gA o250 4 p0.toNatClampNeg).toInt = (gA o246 4 p0.toNatClampNeg).toInt := by rw [eo250]; rfl
                            have ko250_k253 : (gI o250 8).toInt = (gI o246 8).toInt := by rw [eo250]; rfl
                            have ko250_v : (gI o250 7).toInt = (p0 + (1 : Int32)).toInt := by rw [eo250]; rfl
                            have hkpo250 : Kp [] [] [] o_me_code o250 := hkpo246.trans (by rw [eo250]; exact Kp.sI (by decide))
                            refine wp_some ?_
                            have t254 := igX6_8 hz238_1
                            exact (show (0 ≤ (1 : Int32).toInt ∧ (1 : Int32).toInt ≤ 1) ∧ IvX6 z238.2.1 ∧ Kp [2, 4] [0] [] o_me z238.2.1 ∧ IvX0 12 400 o250 ∧ Kp [] [] [] o_me_code o250 ∧ ((gI z238.2.1 8).toInt ≤ (gI z238.2.1 2).toInt + 0) from ⟨⟨by decide, by decide⟩, hz238_1, hkpz238_me, hIo250, hkpo250, hz238_5⟩)
                      · have c213 := cv_nle (a := (gI z200 9).toInt) (b := 20) rfl (by decide) c213
                        unfold bk_X6_readClause_155
                        refine wp_bd (s_X6_stop   z200  hz200_0  ) (fun z255 hz255 => ?_)
                        obtain ⟨hz255_0, hz255_1, hz255_2⟩ := hz255
                        have hkpz255_me : Kp [2, 4] [0] [] o_me z255.2 := hkpz200_me.trans (hz255_2.mono (by decide) (by decide) (by decide))
                        have kz255_k256 : (gI z255.2 2).toInt = (gI z200 2).toInt := congrArg Int32.toInt (hz255_2.1 2 (by decide))
                        have kz255_k257 : (gI z255.2 4).toInt = (gI z200 4).toInt := congrArg Int32.toInt (hz255_2.1 4 (by decide))
                        have kz255_k258 : (gI z255.2 6).toInt = (gI z200 6).toInt := congrArg Int32.toInt (hz255_2.1 6 (by decide))
                        have kz255_k259 : (gI z255.2 8).toInt = (gI z200 8).toInt := congrArg Int32.toInt (hz255_2.1 8 (by decide))
                        refine wp_gd (zbo_of hz255_0.1 (Int.le_trans hz255_0.2 (by decide))) ?_
                        refine wp_some ?_
                        have t260 := igX6_8 hz255_1
                        exact (show (0 ≤ z255.1.toInt ∧ z255.1.toInt ≤ 1) ∧ IvX6 z255.2 ∧ Kp [2, 4] [0] [] o_me z255.2 ∧ IvX0 12 400 o160 ∧ Kp [] [] [] o_me_code o160 ∧ ((gI z255.2 8).toInt ≤ (gI z255.2 2).toInt + 0) from ⟨⟨hz255_0.1, (Int.le_trans hz255_0.2 (by decide))⟩, hz255_1, hkpz255_me, hIo160, hkpo160, (zd_e (c := 0) (zd_e (c := 0) (zq_0 kz255_k259) hz200_2 (by decide)) (zq_0 kz255_k256.symm) (by decide))⟩)
                  · have c205 := cv_ne (a := (gI z200 6).toInt) (b := 2) rfl (by decide) c205
                    unfold bk_X6_readClause_155
                    refine wp_bd (s_X6_stop   z200  hz200_0  ) (fun z261 hz261 => ?_)
                    obtain ⟨hz261_0, hz261_1, hz261_2⟩ := hz261
                    have hkpz261_me : Kp [2, 4] [0] [] o_me z261.2 := hkpz200_me.trans (hz261_2.mono (by decide) (by decide) (by decide))
                    have kz261_k262 : (gI z261.2 2).toInt = (gI z200 2).toInt := congrArg Int32.toInt (hz261_2.1 2 (by decide))
                    have kz261_k263 : (gI z261.2 4).toInt = (gI z200 4).toInt := congrArg Int32.toInt (hz261_2.1 4 (by decide))
                    have kz261_k264 : (gI z261.2 6).toInt = (gI z200 6).toInt := congrArg Int32.toInt (hz261_2.1 6 (by decide))
                    have kz261_k265 : (gI z261.2 8).toInt = (gI z200 8).toInt := congrArg Int32.toInt (hz261_2.1 8 (by decide))
                    refine wp_gd (zbo_of hz261_0.1 (Int.le_trans hz261_0.2 (by decide))) ?_
                    refine wp_some ?_
                    have t266 := igX6_8 hz261_1
                    exact (show (0 ≤ z261.1.toInt ∧ z261.1.toInt ≤ 1) ∧ IvX6 z261.2 ∧ Kp [2, 4] [0] [] o_me z261.2 ∧ IvX0 12 400 o160 ∧ Kp [] [] [] o_me_code o160 ∧ ((gI z261.2 8).toInt ≤ (gI z261.2 2).toInt + 0) from ⟨⟨hz261_0.1, (Int.le_trans hz261_0.2 (by decide))⟩, hz261_1, hkpz261_me, hIo160, hkpo160, (zd_e (c := 0) (zd_e (c := 0) (zq_0 kz261_k265) hz200_2 (by decide)) (zq_0 kz261_k262.symm) (by decide))⟩)
              · have c163z := c163
                have c163 := cv_ne (a := (gI z152.2.1 4).toInt) (b := 0) rfl (by decide) c163
                exact absurd (Int.le_antisymm (zu_e (zd_e (c := 0) (zq_0 kz152_k155) (zq_0 kz19_k23) (by decide)) (Int.le_of_eq c2) (by decide)) (zl_e (zd_e (c := 0) (zq_0 kz19_k23.symm) (zq_0 kz152_k155.symm) (by decide)) t1.1 (by decide))) c163
        · have c18 := cv_nlt (a := p0.toInt) (b := 12) rfl (by decide) c18
          unfold bk_X6_readClause_34
          refine wp_bd (s_X6_stop   o_me  hI_me  ) (fun z267 hz267 => ?_)
          obtain ⟨hz267_0, hz267_1, hz267_2⟩ := hz267
          have hkpz267_me : Kp [2, 4] [0] [] o_me z267.2 := Kp.rf.trans (hz267_2.mono (by decide) (by decide) (by decide))
          have kz267_k268 : (gI z267.2 2).toInt = (gI o_me 2).toInt := congrArg Int32.toInt (hz267_2.1 2 (by decide))
          have kz267_k269 : (gI z267.2 4).toInt = (gI o_me 4).toInt := congrArg Int32.toInt (hz267_2.1 4 (by decide))
          have kz267_k270 : (gI z267.2 8).toInt = (gI o_me 8).toInt := congrArg Int32.toInt (hz267_2.1 8 (by decide))
          refine wp_gd (zbo_of hz267_0.1 (Int.le_trans hz267_0.2 (by decide))) ?_
          refine wp_some ?_
          have t271 := igX6_8 hz267_1
          have t272 := igX6_2 hz267_1
          exact (show (0 ≤ z267.1.toInt ∧ z267.1.toInt ≤ 1) ∧ IvX6 z267.2 ∧ Kp [2, 4] [0] [] o_me z267.2 ∧ IvX0 12 400 o_me_code ∧ Kp [] [] [] o_me_code o_me_code ∧ ((gI z267.2 8).toInt ≤ (gI z267.2 2).toInt + 0) from ⟨⟨hz267_0.1, (Int.le_trans hz267_0.2 (by decide))⟩, hz267_1, hkpz267_me, hI_me_code, Kp.rf, (zd_e (c := 0) (zd_e (c := 0) (zq_0 kz267_k270) r0 (by decide)) (zq_0 kz267_k268.symm) (by decide))⟩)
  · have c2z := c2
    have c2 := cv_ne (a := (gI o_me 4).toInt) (b := 0) rfl (by decide) c2
    unfold bk_X6_readClause_15
    refine wp_bd (s_X6_wordOf   o_me 0  hI_me (by decide) ) (fun z273 hz273 => ?_)
    refine wp_if (fun c274 => ?_) (fun c274 => ?_)
    · have c274 := cv_eq (a := z273.toInt) (b := (-1)) rfl (by decide) c274
      unfold bk_X6_readClause_34
      refine wp_bd (s_X6_stop   o_me  hI_me  ) (fun z275 hz275 => ?_)
      obtain ⟨hz275_0, hz275_1, hz275_2⟩ := hz275
      have hkpz275_me : Kp [2, 4] [0] [] o_me z275.2 := Kp.rf.trans (hz275_2.mono (by decide) (by decide) (by decide))
      have kz275_k276 : (gI z275.2 2).toInt = (gI o_me 2).toInt := congrArg Int32.toInt (hz275_2.1 2 (by decide))
      have kz275_k277 : (gI z275.2 4).toInt = (gI o_me 4).toInt := congrArg Int32.toInt (hz275_2.1 4 (by decide))
      have kz275_k278 : (gI z275.2 8).toInt = (gI o_me 8).toInt := congrArg Int32.toInt (hz275_2.1 8 (by decide))
      refine wp_gd (zbo_of hz275_0.1 (Int.le_trans hz275_0.2 (by decide))) ?_
      refine wp_some ?_
      have t279 := igX6_8 hz275_1
      have t280 := igX6_2 hz275_1
      exact (show (0 ≤ z275.1.toInt ∧ z275.1.toInt ≤ 1) ∧ IvX6 z275.2 ∧ Kp [2, 4] [0] [] o_me z275.2 ∧ IvX0 12 400 o_me_code ∧ Kp [] [] [] o_me_code o_me_code ∧ ((gI z275.2 8).toInt ≤ (gI z275.2 2).toInt + 0) from ⟨⟨hz275_0.1, (Int.le_trans hz275_0.2 (by decide))⟩, hz275_1, hkpz275_me, hI_me_code, Kp.rf, (zd_e (c := 0) (zd_e (c := 0) (zq_0 kz275_k278) r0 (by decide)) (zq_0 kz275_k276.symm) (by decide))⟩)
    · have c274 := cv_ne (a := z273.toInt) (b := (-1)) rfl (by decide) c274
      refine wp_if (fun c281 => ?_) (fun c281 => ?_)
      · have c281 := cv_lt (a := p0.toInt) (b := 0) rfl (by decide) c281
        unfold bk_X6_readClause_34
        refine wp_bd (s_X6_stop   o_me  hI_me  ) (fun z282 hz282 => ?_)
        obtain ⟨hz282_0, hz282_1, hz282_2⟩ := hz282
        have hkpz282_me : Kp [2, 4] [0] [] o_me z282.2 := Kp.rf.trans (hz282_2.mono (by decide) (by decide) (by decide))
        have kz282_k283 : (gI z282.2 2).toInt = (gI o_me 2).toInt := congrArg Int32.toInt (hz282_2.1 2 (by decide))
        have kz282_k284 : (gI z282.2 4).toInt = (gI o_me 4).toInt := congrArg Int32.toInt (hz282_2.1 4 (by decide))
        have kz282_k285 : (gI z282.2 8).toInt = (gI o_me 8).toInt := congrArg Int32.toInt (hz282_2.1 8 (by decide))
        refine wp_gd (zbo_of hz282_0.1 (Int.le_trans hz282_0.2 (by decide))) ?_
        refine wp_some ?_
        have t286 := igX6_8 hz282_1
        have t287 := igX6_2 hz282_1
        exact (show (0 ≤ z282.1.toInt ∧ z282.1.toInt ≤ 1) ∧ IvX6 z282.2 ∧ Kp [2, 4] [0] [] o_me z282.2 ∧ IvX0 12 400 o_me_code ∧ Kp [] [] [] o_me_code o_me_code ∧ ((gI z282.2 8).toInt ≤ (gI z282.2 2).toInt + 0) from ⟨⟨hz282_0.1, (Int.le_trans hz282_0.2 (by decide))⟩, hz282_1, hkpz282_me, hI_me_code, Kp.rf, (zd_e (c := 0) (zd_e (c := 0) (zq_0 kz282_k285) r0 (by decide)) (zq_0 kz282_k283.symm) (by decide))⟩)
      · have c281 := cv_nlt (a := p0.toInt) (b := 0) rfl (by decide) c281
        refine wp_if (fun c288 => ?_) (fun c288 => ?_)
        · have c288 := cv_lt (a := p0.toInt) (b := 12) rfl (by decide) c288
          have t290 := igX6_8 hI_me
          have t291 := igX6_2 hI_me
          refine wp_bd (s_X6_step   o_me  hI_me  r0) (fun z289 hz289 => ?_)
          obtain ⟨hz289_0, hz289_1, hz289_2⟩ := hz289
          have hkpz289_me : Kp [2, 4] [0] [] o_me z289 := Kp.rf.trans (hz289_1.mono (by decide) (by decide) (by decide))
          have kz289_k292 : (gI z289 2).toInt = (gI o_me 2).toInt := congrArg Int32.toInt (hz289_1.1 2 (by decide))
          have kz289_k293 : (gI z289 4).toInt = (gI o_me 4).toInt := congrArg Int32.toInt (hz289_1.1 4 (by decide))
          refine wp_gd (zin_of (m := 12) rfl c281 (zlt_m (c := 11) (zlt_u (c := 11) c288 (by decide)) (by decide))) ?_
          refine wp_lt (fun o294 eo294 => ?_)
          have hIo294 : IvX0 12 400 o294 := by rw [eo294]; exact hI_me_code
          have ko294_v : (gA o294 0 p0.toNatClampNeg).toInt = z273.toInt := by rw [eo294]; exact congrArg Int32.toInt (upd_eq (g := gA o_me_code 0) (i := p0) (v := z273))
          have hkpo294 : Kp [] [] [] o_me_code o294 := Kp.rf.trans (by rw [eo294]; exact Kp.tA (by decide) (by decide))
          refine wp_gd (zin_of (m := 12) rfl c281 (zlt_m (c := 11) (zlt_u (c := 11) c288 (by decide)) (by decide))) ?_
          refine wp_lt (fun o295 eo295 => ?_)
          have hIo295 : IvX0 12 400 o295 := by rw [eo295]; exact ibX0_1 hIo294 c281  (Or.inr (Or.inr ⟨by decide, by decide⟩))
          have ko295_k296 : (gA o295 0 p0.toNatClampNeg).toInt = (gA o294 0 p0.toNatClampNeg).toInt := by rw [eo295]; rfl
          have ko295_v : (gA o295 1 p0.toNatClampNeg).toInt = 1 := by rw [eo295]; exact (congrArg Int32.toInt (upd_eq (g := gA o294 1) (i := p0) (v := (1 : Int32)))).trans (show ((1 : Int32)).toInt = 1 by decide)
          have hkpo295 : Kp [] [] [] o_me_code o295 := hkpo294.trans (by rw [eo295]; exact Kp.tA (by decide) (by decide))
          have t297 := igX0_8 hIo295
          refine wp_gd (zin_of (m := 12) rfl c281 (zlt_m (c := 11) (zlt_u (c := 11) c288 (by decide)) (by decide))) ?_
          refine wp_lt (fun o298 eo298 => ?_)
          have hIo298 : IvX0 12 400 o298 := by rw [eo298]; exact hIo295
          have ko298_k299 : (gA o298 0 p0.toNatClampNeg).toInt = (gA o295 0 p0.toNatClampNeg).toInt := by rw [eo298]; rfl
          have ko298_k300 : (gA o298 1 p0.toNatClampNeg).toInt = (gA o295 1 p0.toNatClampNeg).toInt := by rw [eo298]; rfl
          have ko298_k301 : (gI o298 8).toInt = (gI o295 8).toInt := by rw [eo298]; rfl
          have ko298_v : (gA o298 2 p0.toNatClampNeg).toInt = (gI o295 8).toInt := by rw [eo298]; exact congrArg Int32.toInt (upd_eq (g := gA o295 2) (i := p0) (v := (gI o295 8)))
          have hkpo298 : Kp [] [] [] o_me_code o298 := hkpo295.trans (by rw [eo298]; exact Kp.tA (by decide) (by decide))
          refine wp_if (fun c302 => ?_) (fun c302 => ?_)
          · have c302 := cv_eq (a := z273.toInt) (b := 3) rfl (by decide) c302
            unfold bk_X6_readClause_94
            refine wp_gd (zin_of (m := 12) rfl c281 (zlt_m (c := 11) (zlt_u (c := 11) c288 (by decide)) (by decide))) ?_
            refine wp_lt (fun o303 eo303 => ?_)
            have hIo303 : IvX0 12 400 o303 := by rw [eo303]; exact hIo298
            have ko303_k304 : (gA o303 0 p0.toNatClampNeg).toInt = (gA o298 0 p0.toNatClampNeg).toInt := by rw [eo303]; rfl
            have ko303_k305 : (gA o303 1 p0.toNatClampNeg).toInt = (gA o298 1 p0.toNatClampNeg).toInt := by rw [eo303]; rfl
            have ko303_k306 : (gA o303 2 p0.toNatClampNeg).toInt = (gA o298 2 p0.toNatClampNeg).toInt := by rw [eo303]; rfl
            have ko303_k307 : (gI o303 8).toInt = (gI o298 8).toInt := by rw [eo303]; rfl
            have ko303_v : (gA o303 3 p0.toNatClampNeg).toInt = (gI o298 8).toInt := by rw [eo303]; exact congrArg Int32.toInt (upd_eq (g := gA o298 3) (i := p0) (v := (gI o298 8)))
            have hkpo303 : Kp [] [] [] o_me_code o303 := hkpo298.trans (by rw [eo303]; exact Kp.tA (by decide) (by decide))
            refine wp_if (fun c308 => ?_) (fun c308 => ?_)
            · have c308 := cv_eq (a := (gI z289 4).toInt) (b := 0) rfl (by decide) c308
              exfalso; omega
            · have c308z := c308
              have c308 := cv_ne (a := (gI z289 4).toInt) (b := 0) rfl (by decide) c308
              unfold bk_X6_readClause_177
              refine wp_bd (s_X6_isWord   z289 3  hz289_0 (by decide) ) (fun z309 hz309 => ?_)
              have hz309_0 := hz309
              refine wp_if (fun c310 => ?_) (fun c310 => ?_)
              · have c310 := cv_eq (a := z309.toInt) (b := 0) rfl (by decide) c310
                unfold bk_X6_readClause_200
                refine wp_gd (zin_of (m := 12) rfl c281 (zlt_m (c := 11) (zlt_u (c := 11) c288 (by decide)) (by decide))) ?_
                refine wp_lt (fun o311 eo311 => ?_)
                have hIo311 : IvX0 12 400 o311 := by rw [eo311]; exact hIo303
                have ko311_k312 : (gA o311 0 p0.toNatClampNeg).toInt = (gA o303 0 p0.toNatClampNeg).toInt := by rw [eo311]; rfl
                have ko311_k313 : (gA o311 1 p0.toNatClampNeg).toInt = (gA o303 1 p0.toNatClampNeg).toInt := by rw [eo311]; rfl
                have ko311_k314 : (gA o311 2 p0.toNatClampNeg).toInt = (gA o303 2 p0.toNatClampNeg).toInt := by rw [eo311]; rfl
                have ko311_k315 : (gA o311 3 p0.toNatClampNeg).toInt = (gA o303 3 p0.toNatClampNeg).toInt := by rw [eo311]; rfl
                have ko311_k316 : (gI o311 8).toInt = (gI o303 8).toInt := by rw [eo311]; rfl
                have ko311_v : (gA o311 4 p0.toNatClampNeg).toInt = (gI o303 8).toInt := by rw [eo311]; exact congrArg Int32.toInt (upd_eq (g := gA o303 4) (i := p0) (v := (gI o303 8)))
                have hkpo311 : Kp [] [] [] o_me_code o311 := hkpo303.trans (by rw [eo311]; exact Kp.tA (by decide) (by decide))
                have t317 : (p0 + (1 : Int32)).toInt = p0.toInt + 1 := i32_add rfl (by decide) (zk_l c281 (by decide)) (zk_u (zlt_u (c := 11) c288 (by decide)) (by decide))
                refine wp_lt (fun o318 eo318 => ?_)
                have hIo318 : IvX0 12 400 o318 := by rw [eo318]; exact ipX0_7 hIo311 ⟨(zl_e (zq_r (c := (-1)) t317 (by decide)) c281 (by decide)), (zu_e (Int.le_of_eq t317) (zlt_u (c := 11) c288 (by decide)) (by decide))⟩
                have ko318_k319 : (gA o318 0 p0.toNatClampNeg).toInt = (gA o311 0 p0.toNatClampNeg).toInt := by rw [eo318]; rfl
                have ko318_k320 : (gA o318 1 p0.toNatClampNeg).toInt = (gA o311 1 p0.toNatClampNeg).toInt := by rw [eo318]; rfl
                have ko318_k321 : (gA o318 2 p0.toNatClampNeg).toInt = (gA o311 2 p0.toNatClampNeg).toInt := by rw [eo318]; rfl
                have ko318_k322 : (gA o318 3 p0.toNatClampNeg).toInt = (gA o311 3 p0.toNatClampNeg).toInt := by rw [eo318]; rfl
                have ko318_k323 : (gA o318 4 p0.toNatClampNeg).toInt = (gA o311 4 p0.toNatClampNeg).toInt := by rw [eo318]; rfl
                have ko318_k324 : (gI o318 8).toInt = (gI o311 8).toInt := by rw [eo318]; rfl
                have ko318_v : (gI o318 7).toInt = (p0 + (1 : Int32)).toInt := by rw [eo318]; rfl
                have hkpo318 : Kp [] [] [] o_me_code o318 := hkpo311.trans (by rw [eo318]; exact Kp.sI (by decide))
                refine wp_some ?_
                have t325 := igX6_8 hz289_0
                exact (show (0 ≤ (1 : Int32).toInt ∧ (1 : Int32).toInt ≤ 1) ∧ IvX6 z289 ∧ Kp [2, 4] [0] [] o_me z289 ∧ IvX0 12 400 o318 ∧ Kp [] [] [] o_me_code o318 ∧ ((gI z289 8).toInt ≤ (gI z289 2).toInt + 0) from ⟨⟨by decide, by decide⟩, hz289_0, hkpz289_me, hIo318, hkpo318, hz289_2⟩)
              · have c310z := c310
                have c310 := cv_ne (a := z309.toInt) (b := 0) rfl (by decide) c310
                have t327 := igX6_8 hz289_0
                refine wp_bd (s_X6_step   z289  hz289_0  hz289_2) (fun z326 hz326 => ?_)
                obtain ⟨hz326_0, hz326_1, hz326_2⟩ := hz326
                have hkpz326_me : Kp [2, 4] [0] [] o_me z326 := hkpz289_me.trans (hz326_1.mono (by decide) (by decide) (by decide))
                have kz326_k328 : (gI z326 2).toInt = (gI z289 2).toInt := congrArg Int32.toInt (hz326_1.1 2 (by decide))
                have kz326_k329 : (gI z326 4).toInt = (gI z289 4).toInt := congrArg Int32.toInt (hz326_1.1 4 (by decide))
                have t331 := igX6_8 hz326_0
                refine wp_bd (sx_X6_readTest   z326 o303 (0 : Int32)  hz326_0 hIo303  ⟨by decide, by decide⟩ hz326_2) (fun z330 hz330 => ?_)
                obtain ⟨hz330_0, hz330_1, hz330_2, hz330_3, hz330_4, hz330_5⟩ := hz330
                have hkpz330_me : Kp [2, 4] [0] [] o_me z330.2.1 := hkpz326_me.trans (hz330_2.mono (by decide) (by decide) (by decide))
                have kz330_k332 : (gI z330.2.1 2).toInt = (gI z326 2).toInt := congrArg Int32.toInt (hz330_2.1 2 (by decide))
                have kz330_k333 : (gI z330.2.1 4).toInt = (gI z326 4).toInt := congrArg Int32.toInt (hz330_2.1 4 (by decide))
                have hkpz330_me_code : Kp [] [] [] o_me_code z330.2.2 := hkpo303.trans (hz330_4.mono (by decide) (by decide) (by decide))
                have kz330_k334 : (gA z330.2.2 1 p0.toNatClampNeg).toInt = (gA o303 1 p0.toNatClampNeg).toInt := congrArg (fun g => (g p0.toNatClampNeg).toInt) (hz330_4.2.1 1 (by decide))
                refine wp_if (fun c335 => ?_) (fun c335 => ?_)
                · have c335 := cv_eq (a := z330.1.toInt) (b := 0) rfl (by decide) c335
                  refine wp_some ?_
                  have t336 := igX6_8 hz330_1
                  exact (show (0 ≤ (0 : Int32).toInt ∧ (0 : Int32).toInt ≤ 1) ∧ IvX6 z330.2.1 ∧ Kp [2, 4] [0] [] o_me z330.2.1 ∧ IvX0 12 400 z330.2.2 ∧ Kp [] [] [] o_me_code z330.2.2 ∧ ((gI z330.2.1 8).toInt ≤ (gI z330.2.1 2).toInt + 0) from ⟨⟨by decide, by decide⟩, hz330_1, hkpz330_me, hz330_3, hkpz330_me_code, hz330_5⟩)
                · have c335z := c335
                  have c335 := cv_ne (a := z330.1.toInt) (b := 0) rfl (by decide) c335
                  unfold bk_X6_readClause_200
                  have t337 := igX0_8 hz330_3
                  refine wp_gd (zin_of (m := 12) rfl c281 (zlt_m (c := 11) (zlt_u (c := 11) c288 (by decide)) (by decide))) ?_
                  refine wp_lt (fun o338 eo338 => ?_)
                  have hIo338 : IvX0 12 400 o338 := by rw [eo338]; exact hz330_3
                  have ko338_k339 : (gA o338 1 p0.toNatClampNeg).toInt = (gA z330.2.2 1 p0.toNatClampNeg).toInt := by rw [eo338]; rfl
                  have ko338_k340 : (gI o338 8).toInt = (gI z330.2.2 8).toInt := by rw [eo338]; rfl
                  have ko338_v : (gA o338 4 p0.toNatClampNeg).toInt = (gI z330.2.2 8).toInt := by rw [eo338]; exact congrArg Int32.toInt (upd_eq (g := gA z330.2.2 4) (i := p0) (v := (gI z330.2.2 8)))
                  have hkpo338 : Kp [] [] [] o_me_code o338 := hkpz330_me_code.trans (by rw [eo338]; exact Kp.tA (by decide) (by decide))
                  have t341 : (p0 + (1 : Int32)).toInt = p0.toInt + 1 := i32_add rfl (by decide) (zk_l c281 (by decide)) (zk_u (zlt_u (c := 11) c288 (by decide)) (by decide))
                  refine wp_lt (fun o342 eo342 => ?_)
                  have hIo342 : IvX0 12 400 o342 := by rw [eo342]; exact ipX0_7 hIo338 ⟨(zl_e (zq_r (c := (-1)) t341 (by decide)) c281 (by decide)), (zu_e (Int.le_of_eq t341) (zlt_u (c := 11) c288 (by decide)) (by decide))⟩
                  have ko342_k343 : (gA o342 1 p0.toNatClampNeg).toInt = (gA o338 1 p0.toNatClampNeg).toInt := by rw [eo342]; rfl
                  have ko342_k344 : (gA o342 4 p0.toNatClampNeg).toInt = (gA o338 4 p0.toNatClampNeg).toInt := by rw [eo342]; rfl
                  have ko342_k345 : (gI o342 8).toInt = (gI o338 8).toInt := by rw [eo342]; rfl
                  have ko342_v : (gI o342 7).toInt = (p0 + (1 : Int32)).toInt := by rw [eo342]; rfl
                  have hkpo342 : Kp [] [] [] o_me_code o342 := hkpo338.trans (by rw [eo342]; exact Kp.sI (by decide))
                  refine wp_some ?_
                  have t346 := igX6_8 hz330_1
                  exact (show (0 ≤ (1 : Int32).toInt ∧ (1 : Int32).toInt ≤ 1) ∧ IvX6 z330.2.1 ∧ Kp [2, 4] [0] [] o_me z330.2.1 ∧ IvX0 12 400 o342 ∧ Kp [] [] [] o_me_code o342 ∧ ((gI z330.2.1 8).toInt ≤ (gI z330.2.1 2).toInt + 0) from ⟨⟨by decide, by decide⟩, hz330_1, hkpz330_me, hIo342, hkpo342, hz330_5⟩)
          · have c302 := cv_ne (a := z273.toInt) (b := 3) rfl (by decide) c302
            have t348 := igX6_8 hz289_0
            refine wp_bd (sx_X6_readSum   z289 o298 (0 : Int32)  hz289_0 hIo298  ⟨by decide, by decide⟩ hz289_2) (fun z347 hz347 => ?_)
            obtain ⟨hz347_0, hz347_1, hz347_2, hz347_3, hz347_4, hz347_5⟩ := hz347
            have hkpz347_me : Kp [2, 4] [0] [] o_me z347.2.1 := hkpz289_me.trans (hz347_2.mono (by decide) (by decide) (by decide))
            have kz347_k349 : (gI z347.2.1 2).toInt = (gI z289 2).toInt := congrArg Int32.toInt (hz347_2.1 2 (by decide))
            have kz347_k350 : (gI z347.2.1 4).toInt = (gI z289 4).toInt := congrArg Int32.toInt (hz347_2.1 4 (by decide))
            have hkpz347_me_code : Kp [] [] [] o_me_code z347.2.2 := hkpo298.trans (hz347_4.mono (by decide) (by decide) (by decide))
            have kz347_k351 : (gA z347.2.2 1 p0.toNatClampNeg).toInt = (gA o298 1 p0.toNatClampNeg).toInt := congrArg (fun g => (g p0.toNatClampNeg).toInt) (hz347_4.2.1 1 (by decide))
            refine wp_if (fun c352 => ?_) (fun c352 => ?_)
            · have c352 := cv_eq (a := z347.1.toInt) (b := 0) rfl (by decide) c352
              refine wp_some ?_
              have t353 := igX6_8 hz347_1
              exact (show (0 ≤ (0 : Int32).toInt ∧ (0 : Int32).toInt ≤ 1) ∧ IvX6 z347.2.1 ∧ Kp [2, 4] [0] [] o_me z347.2.1 ∧ IvX0 12 400 z347.2.2 ∧ Kp [] [] [] o_me_code z347.2.2 ∧ ((gI z347.2.1 8).toInt ≤ (gI z347.2.1 2).toInt + 0) from ⟨⟨by decide, by decide⟩, hz347_1, hkpz347_me, hz347_3, hkpz347_me_code, hz347_5⟩)
            · have c352z := c352
              have c352 := cv_ne (a := z347.1.toInt) (b := 0) rfl (by decide) c352
              unfold bk_X6_readClause_94
              have t354 := igX0_8 hz347_3
              refine wp_gd (zin_of (m := 12) rfl c281 (zlt_m (c := 11) (zlt_u (c := 11) c288 (by decide)) (by decide))) ?_
              refine wp_lt (fun o355 eo355 => ?_)
              have hIo355 : IvX0 12 400 o355 := by rw [eo355]; exact hz347_3
              have ko355_k356 : (gA o355 1 p0.toNatClampNeg).toInt = (gA z347.2.2 1 p0.toNatClampNeg).toInt := by rw [eo355]; rfl
              have ko355_k357 : (gI o355 8).toInt = (gI z347.2.2 8).toInt := by rw [eo355]; rfl
              have ko355_v : (gA o355 3 p0.toNatClampNeg).toInt = (gI z347.2.2 8).toInt := by rw [eo355]; exact congrArg Int32.toInt (upd_eq (g := gA z347.2.2 3) (i := p0) (v := (gI z347.2.2 8)))
              have hkpo355 : Kp [] [] [] o_me_code o355 := hkpz347_me_code.trans (by rw [eo355]; exact Kp.tA (by decide) (by decide))
              refine wp_if (fun c358 => ?_) (fun c358 => ?_)
              · have c358 := cv_eq (a := (gI z347.2.1 4).toInt) (b := 0) rfl (by decide) c358
                exfalso; omega
              · have c358z := c358
                have c358 := cv_ne (a := (gI z347.2.1 4).toInt) (b := 0) rfl (by decide) c358
                unfold bk_X6_readClause_177
                refine wp_bd (s_X6_isWord   z347.2.1 3  hz347_1 (by decide) ) (fun z359 hz359 => ?_)
                have hz359_0 := hz359
                refine wp_if (fun c360 => ?_) (fun c360 => ?_)
                · have c360 := cv_eq (a := z359.toInt) (b := 0) rfl (by decide) c360
                  unfold bk_X6_readClause_200
                  refine wp_gd (zin_of (m := 12) rfl c281 (zlt_m (c := 11) (zlt_u (c := 11) c288 (by decide)) (by decide))) ?_
                  refine wp_lt (fun o361 eo361 => ?_)
                  have hIo361 : IvX0 12 400 o361 := by rw [eo361]; exact hIo355
                  have ko361_k362 : (gA o361 1 p0.toNatClampNeg).toInt = (gA o355 1 p0.toNatClampNeg).toInt := by rw [eo361]; rfl
                  have ko361_k363 : (gA o361 3 p0.toNatClampNeg).toInt = (gA o355 3 p0.toNatClampNeg).toInt := by rw [eo361]; rfl
                  have ko361_k364 : (gI o361 8).toInt = (gI o355 8).toInt := by rw [eo361]; rfl
                  have ko361_v : (gA o361 4 p0.toNatClampNeg).toInt = (gI o355 8).toInt := by rw [eo361]; exact congrArg Int32.toInt (upd_eq (g := gA o355 4) (i := p0) (v := (gI o355 8)))
                  have hkpo361 : Kp [] [] [] o_me_code o361 := hkpo355.trans (by rw [eo361]; exact Kp.tA (by decide) (by decide))
                  have t365 : (p0 + (1 : Int32)).toInt = p0.toInt + 1 := i32_add rfl (by decide) (zk_l c281 (by decide)) (zk_u (zlt_u (c := 11) c288 (by decide)) (by decide))
                  refine wp_lt (fun o366 eo366 => ?_)
                  have hIo366 : IvX0 12 400 o366 := by rw [eo366]; exact ipX0_7 hIo361 ⟨(zl_e (zq_r (c := (-1)) t365 (by decide)) c281 (by decide)), (zu_e (Int.le_of_eq t365) (zlt_u (c := 11) c288 (by decide)) (by decide))⟩
                  have ko366_k367 : (gA o366 1 p0.toNatClampNeg).toInt = (gA o361 1 p0.toNatClampNeg).toInt := by rw [eo366]; rfl
                  have ko366_k368 : (gA o366 3 p0.toNatClampNeg).toInt = (gA o361 3 p0.toNatClampNeg).toInt := by rw [eo366]; rfl
                  have ko366_k369 : (gA o366 4 p0.toNatClampNeg).toInt = (gA o361 4 p0.toNatClampNeg).toInt := by rw [eo366]; rfl
                  have ko366_k370 : (gI o366 8).toInt = (gI o361 8).toInt := by rw [eo366]; rfl
                  have ko366_v : (gI o366 7).toInt = (p0 + (1 : Int32)).toInt := by rw [eo366]; rfl
                  have hkpo366 : Kp [] [] [] o_me_code o366 := hkpo361.trans (by rw [eo366]; exact Kp.sI (by decide))
                  refine wp_some ?_
                  have t371 := igX6_8 hz347_1
                  exact (show (0 ≤ (1 : Int32).toInt ∧ (1 : Int32).toInt ≤ 1) ∧ IvX6 z347.2.1 ∧ Kp [2, 4] [0] [] o_me z347.2.1 ∧ IvX0 12 400 o366 ∧ Kp [] [] [] o_me_code o366 ∧ ((gI z347.2.1 8).toInt ≤ (gI z347.2.1 2).toInt + 0) from ⟨⟨by decide, by decide⟩, hz347_1, hkpz347_me, hIo366, hkpo366, hz347_5⟩)
                · have c360z := c360
                  have c360 := cv_ne (a := z359.toInt) (b := 0) rfl (by decide) c360
                  have t373 := igX6_8 hz347_1
                  refine wp_bd (s_X6_step   z347.2.1  hz347_1  hz347_5) (fun z372 hz372 => ?_)
                  obtain ⟨hz372_0, hz372_1, hz372_2⟩ := hz372
                  have hkpz372_me : Kp [2, 4] [0] [] o_me z372 := hkpz347_me.trans (hz372_1.mono (by decide) (by decide) (by decide))
                  have kz372_k374 : (gI z372 2).toInt = (gI z347.2.1 2).toInt := congrArg Int32.toInt (hz372_1.1 2 (by decide))
                  have kz372_k375 : (gI z372 4).toInt = (gI z347.2.1 4).toInt := congrArg Int32.toInt (hz372_1.1 4 (by decide))
                  have t377 := igX6_8 hz372_0
                  refine wp_bd (sx_X6_readTest   z372 o355 (0 : Int32)  hz372_0 hIo355  ⟨by decide, by decide⟩ hz372_2) (fun z376 hz376 => ?_)
                  obtain ⟨hz376_0, hz376_1, hz376_2, hz376_3, hz376_4, hz376_5⟩ := hz376
                  have hkpz376_me : Kp [2, 4] [0] [] o_me z376.2.1 := hkpz372_me.trans (hz376_2.mono (by decide) (by decide) (by decide))
                  have kz376_k378 : (gI z376.2.1 2).toInt = (gI z372 2).toInt := congrArg Int32.toInt (hz376_2.1 2 (by decide))
                  have kz376_k379 : (gI z376.2.1 4).toInt = (gI z372 4).toInt := congrArg Int32.toInt (hz376_2.1 4 (by decide))
                  have hkpz376_me_code : Kp [] [] [] o_me_code z376.2.2 := hkpo355.trans (hz376_4.mono (by decide) (by decide) (by decide))
                  have kz376_k380 : (gA z376.2.2 1 p0.toNatClampNeg).toInt = (gA o355 1 p0.toNatClampNeg).toInt := congrArg (fun g => (g p0.toNatClampNeg).toInt) (hz376_4.2.1 1 (by decide))
                  refine wp_if (fun c381 => ?_) (fun c381 => ?_)
                  · have c381 := cv_eq (a := z376.1.toInt) (b := 0) rfl (by decide) c381
                    refine wp_some ?_
                    have t382 := igX6_8 hz376_1
                    exact (show (0 ≤ (0 : Int32).toInt ∧ (0 : Int32).toInt ≤ 1) ∧ IvX6 z376.2.1 ∧ Kp [2, 4] [0] [] o_me z376.2.1 ∧ IvX0 12 400 z376.2.2 ∧ Kp [] [] [] o_me_code z376.2.2 ∧ ((gI z376.2.1 8).toInt ≤ (gI z376.2.1 2).toInt + 0) from ⟨⟨by decide, by decide⟩, hz376_1, hkpz376_me, hz376_3, hkpz376_me_code, hz376_5⟩)
                  · have c381z := c381
                    have c381 := cv_ne (a := z376.1.toInt) (b := 0) rfl (by decide) c381
                    unfold bk_X6_readClause_200
                    have t383 := igX0_8 hz376_3
                    refine wp_gd (zin_of (m := 12) rfl c281 (zlt_m (c := 11) (zlt_u (c := 11) c288 (by decide)) (by decide))) ?_
                    refine wp_lt (fun o384 eo384 => ?_)
                    have hIo384 : IvX0 12 400 o384 := by rw [eo384]; exact hz376_3
                    have ko384_k385 : (gA o384 1 p0.toNatClampNeg).toInt = (gA z376.2.2 1 p0.toNatClampNeg).toInt := by rw [eo384]; rfl
                    have ko384_k386 : (gI o384 8).toInt = (gI z376.2.2 8).toInt := by rw [eo384]; rfl
                    have ko384_v : (gA o384 4 p0.toNatClampNeg).toInt = (gI z376.2.2 8).toInt := by rw [eo384]; exact congrArg Int32.toInt (upd_eq (g := gA z376.2.2 4) (i := p0) (v := (gI z376.2.2 8)))
                    have hkpo384 : Kp [] [] [] o_me_code o384 := hkpz376_me_code.trans (by rw [eo384]; exact Kp.tA (by decide) (by decide))
                    have t387 : (p0 + (1 : Int32)).toInt = p0.toInt + 1 := i32_add rfl (by decide) (zk_l c281 (by decide)) (zk_u (zlt_u (c := 11) c288 (by decide)) (by decide))
                    refine wp_lt (fun o388 eo388 => ?_)
                    have hIo388 : IvX0 12 400 o388 := by rw [eo388]; exact ipX0_7 hIo384 ⟨(zl_e (zq_r (c := (-1)) t387 (by decide)) c281 (by decide)), (zu_e (Int.le_of_eq t387) (zlt_u (c := 11) c288 (by decide)) (by decide))⟩
                    have ko388_k389 : (gA o388 1 p0.toNatClampNeg).toInt = (gA o384 1 p0.toNatClampNeg).toInt := by rw [eo388]; rfl
                    have ko388_k390 : (gA o388 4 p0.toNatClampNeg).toInt = (gA o384 4 p0.toNatClampNeg).toInt := by rw [eo388]; rfl
                    have ko388_k391 : (gI o388 8).toInt = (gI o384 8).toInt := by rw [eo388]; rfl
                    have ko388_v : (gI o388 7).toInt = (p0 + (1 : Int32)).toInt := by rw [eo388]; rfl
                    have hkpo388 : Kp [] [] [] o_me_code o388 := hkpo384.trans (by rw [eo388]; exact Kp.sI (by decide))
                    refine wp_some ?_
                    have t392 := igX6_8 hz376_1
                    exact (show (0 ≤ (1 : Int32).toInt ∧ (1 : Int32).toInt ≤ 1) ∧ IvX6 z376.2.1 ∧ Kp [2, 4] [0] [] o_me z376.2.1 ∧ IvX0 12 400 o388 ∧ Kp [] [] [] o_me_code o388 ∧ ((gI z376.2.1 8).toInt ≤ (gI z376.2.1 2).toInt + 0) from ⟨⟨by decide, by decide⟩, hz376_1, hkpz376_me, hIo388, hkpo388, hz376_5⟩)
        · have c288 := cv_nlt (a := p0.toInt) (b := 12) rfl (by decide) c288
          unfold bk_X6_readClause_34
          refine wp_bd (s_X6_stop   o_me  hI_me  ) (fun z393 hz393 => ?_)
          obtain ⟨hz393_0, hz393_1, hz393_2⟩ := hz393
          have hkpz393_me : Kp [2, 4] [0] [] o_me z393.2 := Kp.rf.trans (hz393_2.mono (by decide) (by decide) (by decide))
          have kz393_k394 : (gI z393.2 2).toInt = (gI o_me 2).toInt := congrArg Int32.toInt (hz393_2.1 2 (by decide))
          have kz393_k395 : (gI z393.2 4).toInt = (gI o_me 4).toInt := congrArg Int32.toInt (hz393_2.1 4 (by decide))
          have kz393_k396 : (gI z393.2 8).toInt = (gI o_me 8).toInt := congrArg Int32.toInt (hz393_2.1 8 (by decide))
          refine wp_gd (zbo_of hz393_0.1 (Int.le_trans hz393_0.2 (by decide))) ?_
          refine wp_some ?_
          have t397 := igX6_8 hz393_1
          have t398 := igX6_2 hz393_1
          exact (show (0 ≤ z393.1.toInt ∧ z393.1.toInt ≤ 1) ∧ IvX6 z393.2 ∧ Kp [2, 4] [0] [] o_me z393.2 ∧ IvX0 12 400 o_me_code ∧ Kp [] [] [] o_me_code o_me_code ∧ ((gI z393.2 8).toInt ≤ (gI z393.2 2).toInt + 0) from ⟨⟨hz393_0.1, (Int.le_trans hz393_0.2 (by decide))⟩, hz393_1, hkpz393_me, hI_me_code, Kp.rf, (zd_e (c := 0) (zd_e (c := 0) (zq_0 kz393_k396) r0 (by decide)) (zq_0 kz393_k394.symm) (by decide))⟩)

set_option maxHeartbeats 4000000 in
set_option maxRecDepth 100000 in
theorem s_X6_readText (o_me : Ob) (o_me_code : Ob) (p0 : Int32) (hI_me : IvX6 o_me) (hI_me_code : IvX0 12 400 o_me_code) (q0 : 0 ≤ p0.toInt ∧ p0.toInt ≤ 1) : wp (f_X6_readText  12 400 o_me o_me_code p0) (fun (y : Int32 × Ob × Ob) => (0 ≤ y.1.toInt ∧ y.1.toInt ≤ 1) ∧ IvX6 y.2.1 ∧ Kp [2] [0] [] o_me y.2.1 ∧ IvX0 12 400 y.2.2 ∧ Kp [] [] [] o_me_code y.2.2) := by
  unfold f_X6_readText
  refine wp_gd (zbo_of q0.1 q0.2) ?_
  refine wp_lt (fun o1 eo1 => ?_)
  have hIo1 : IvX6 o1 := by rw [eo1]; exact ipX6_4 hI_me ⟨q0.1, q0.2⟩
  have hkpo1 : Kp [2] [0] [] o_me o1 := Kp.rf.trans (by rw [eo1]; exact Kp.sI (by decide))
  refine wp_bd (s_X0_clear  12 400 o_me_code  hI_me_code  ) (fun z2 hz2 => ?_)
  obtain ⟨hz2_0, hz2_1⟩ := hz2
  have hkpz2_me_code : Kp [] [] [] o_me_code z2 := Kp.rf.trans (hz2_1.mono (by decide) (by decide) (by decide))
  refine wp_lt (fun o3 eo3 => ?_)
  have hIo3 : IvX6 o3 := by rw [eo3]; exact ipX6_5 hIo1 ⟨by decide, by decide⟩
  have hkpo3 : Kp [2] [0] [] o_me o3 := hkpo1.trans (by rw [eo3]; exact Kp.sI (by decide))
  refine wp_lt (fun o5 eo5 => ?_)
  have hIo5 : IvX6 o5 := by rw [eo5]; exact hIo3
  have hkpo5 : Kp [2] [0] [] o_me o5 := hkpo3.trans (by rw [eo5]; exact Kp.sI (by decide))
  refine wp_lt (fun o8 eo8 => ?_)
  have hIo8 : IvX6 o8 := by rw [eo8]; exact ipX6_8 hIo5 ⟨by decide, by decide⟩
  have ko8_v : (gI o8 8).toInt = 0 := by rw [eo8]; exact (show ((0 : Int32)).toInt = _ from by decide)
  have hkpo8 : Kp [2] [0] [] o_me o8 := hkpo5.trans (by rw [eo8]; exact Kp.sI (by decide))
  have t13 := igX6_2 hIo8
  refine wp_bd (s_X6_step   o8  hIo8  (zd_b (Int.le_of_eq ko8_v) t13.1 (by decide))) (fun z12 hz12 => ?_)
  obtain ⟨hz12_0, hz12_1, hz12_2⟩ := hz12
  have hkpz12_me : Kp [2] [0] [] o_me z12 := hkpo8.trans (hz12_1.mono (by decide) (by decide) (by decide))
  have lp1 : ∀ (N1 : Nat) (v2_1 : Int32) (o_me_1 : Ob) (o_me_code_1 : Ob), IvX6 o_me_1 → Kp [2] [0] [] o_me o_me_1 → IvX0 12 400 o_me_code_1 → Kp [] [] [] o_me_code o_me_code_1 → (0 ≤ v2_1.toInt ∧ v2_1.toInt ≤ 12) → ((gI o_me_1 8).toInt ≤ (gI o_me_1 2).toInt + 0) → (12 - v2_1.toInt).toNat < N1 → wp (lp_X6_readText_33 12 400  N1 (v2_1, o_me_1, o_me_code_1)) (fun (y : Int32 × Ob × Ob) => (0 ≤ y.1.toInt ∧ y.1.toInt ≤ 1) ∧ IvX6 y.2.1 ∧ Kp [2] [0] [] o_me y.2.1 ∧ IvX0 12 400 y.2.2 ∧ Kp [] [] [] o_me_code y.2.2) := by
    intro N1
    induction N1 with
    | zero =>
      intro v2_1 o_me_1 o_me_code_1 hI_me_1 hkp_me_1 hI_me_code_1 hkp_me_code_1 hh21 hh22 hN1
      exact absurd hN1 (Nat.not_lt_zero _)
    | succ N1 ihx =>
      have ih1 := ihx
      intro v2_1 o_me_1 o_me_code_1 hI_me_1 hkp_me_1 hI_me_code_1 hkp_me_code_1 hh21 hh22 hN1
      show wp (lb_X6_readText_33 12 400  (lp_X6_readText_33 12 400  N1) v2_1 o_me_1 o_me_code_1) (fun (y : Int32 × Ob × Ob) => (0 ≤ y.1.toInt ∧ y.1.toInt ≤ 1) ∧ IvX6 y.2.1 ∧ Kp [2] [0] [] o_me y.2.1 ∧ IvX0 12 400 y.2.2 ∧ Kp [] [] [] o_me_code y.2.2)
      unfold lb_X6_readText_33
      refine wp_if (fun c25 => ?_) (fun c25 => ?_)
      · have c25 := cv_ge (a := v2_1.toInt) (b := 12) rfl (by decide) c25
        refine wp_bd (s_X6_stop   o_me_1  hI_me_1  ) (fun z26 hz26 => ?_)
        obtain ⟨hz26_0, hz26_1, hz26_2⟩ := hz26
        have hkpz26_me : Kp [2] [0] [] o_me z26.2 := hkp_me_1.trans (hz26_2.mono (by decide) (by decide) (by decide))
        refine wp_gd (zbo_of hz26_0.1 (Int.le_trans hz26_0.2 (by decide))) ?_
        refine wp_some ?_
        exact (show (0 ≤ z26.1.toInt ∧ z26.1.toInt ≤ 1) ∧ IvX6 z26.2 ∧ Kp [2] [0] [] o_me z26.2 ∧ IvX0 12 400 o_me_code_1 ∧ Kp [] [] [] o_me_code o_me_code_1 from ⟨⟨hz26_0.1, (Int.le_trans hz26_0.2 (by decide))⟩, hz26_1, hkpz26_me, hI_me_code_1, hkp_me_code_1⟩)
      · have c25 := cv_nge (a := v2_1.toInt) (b := 12) rfl (by decide) c25
        refine wp_bd (s_X6_readClause   o_me_1 o_me_code_1 v2_1  hI_me_1 hI_me_code_1  hh22) (fun z29 hz29 => ?_)
        obtain ⟨hz29_0, hz29_1, hz29_2, hz29_3, hz29_4, hz29_5⟩ := hz29
        have hkpz29_me : Kp [2] [0] [] o_me z29.2.1 := hkp_me_1.trans (hz29_2.mono (by decide) (by decide) (by decide))
        have hkpz29_me_code : Kp [] [] [] o_me_code z29.2.2 := hkp_me_code_1.trans (hz29_4.mono (by decide) (by decide) (by decide))
        refine wp_if (fun c33 => ?_) (fun c33 => ?_)
        · refine wp_some ?_
          exact (show (0 ≤ (0 : Int32).toInt ∧ (0 : Int32).toInt ≤ 1) ∧ IvX6 z29.2.1 ∧ Kp [2] [0] [] o_me z29.2.1 ∧ IvX0 12 400 z29.2.2 ∧ Kp [] [] [] o_me_code z29.2.2 from ⟨⟨by decide, by decide⟩, hz29_1, hkpz29_me, hz29_3, hkpz29_me_code⟩)
        · refine wp_if (fun c35 => ?_) (fun c35 => ?_)
          · refine wp_some ?_
            exact (show (0 ≤ (1 : Int32).toInt ∧ (1 : Int32).toInt ≤ 1) ∧ IvX6 z29.2.1 ∧ Kp [2] [0] [] o_me z29.2.1 ∧ IvX0 12 400 z29.2.2 ∧ Kp [] [] [] o_me_code z29.2.2 from ⟨⟨by decide, by decide⟩, hz29_1, hkpz29_me, hz29_3, hkpz29_me_code⟩)
          · refine wp_bd (s_X6_isSign   z29.2.1 (59 : Int32)  hz29_1  ) (fun z36 hz36 => ?_)
            refine wp_if (fun c37 => ?_) (fun c37 => ?_)
            · refine wp_bd (s_X6_stop   z29.2.1  hz29_1  ) (fun z38 hz38 => ?_)
              obtain ⟨hz38_0, hz38_1, hz38_2⟩ := hz38
              have hkpz38_me : Kp [2] [0] [] o_me z38.2 := hkpz29_me.trans (hz38_2.mono (by decide) (by decide) (by decide))
              refine wp_gd (zbo_of hz38_0.1 (Int.le_trans hz38_0.2 (by decide))) ?_
              refine wp_some ?_
              exact (show (0 ≤ z38.1.toInt ∧ z38.1.toInt ≤ 1) ∧ IvX6 z38.2 ∧ Kp [2] [0] [] o_me z38.2 ∧ IvX0 12 400 z29.2.2 ∧ Kp [] [] [] o_me_code z29.2.2 from ⟨⟨hz38_0.1, (Int.le_trans hz38_0.2 (by decide))⟩, hz38_1, hkpz38_me, hz29_3, hkpz29_me_code⟩)
            · refine wp_bd (s_X6_step   z29.2.1  hz29_1  hz29_5) (fun z42 hz42 => ?_)
              obtain ⟨hz42_0, hz42_1, hz42_2⟩ := hz42
              have hkpz42_me : Kp [2] [0] [] o_me z42 := hkpz29_me.trans (hz42_1.mono (by decide) (by decide) (by decide))
              refine wp_lt (fun x45 ex45 => ?_)
              have tx45 : x45.toInt = v2_1.toInt + 1 := by rw [ex45]; exact i32_add rfl (by decide) (zk_l hh21.1 (by decide)) (zk_u (zlt_u (c := 11) c25 (by decide)) (by decide))
              exact ih1 x45 z42 z29.2.2 hz42_0 hkpz42_me hz29_3 hkpz29_me_code ⟨(zl_e (zq_r (c := (-1)) tx45 (by decide)) hh21.1 (by decide)), (zu_e (Int.le_of_eq tx45) (zlt_u (c := 11) c25 (by decide)) (by decide))⟩ hz42_2 (zms_u (c := 11) hN1 (zq_r (c := (-1)) tx45 (by decide)) (zlt_u (c := 11) c25 (by decide)) (by decide))
  exact lp1 zfu (0 : Int32) z12 z2 hz12_0 hkpz12_me hz2_0 hkpz2_me_code ⟨by decide, by decide⟩ hz12_2 (zme_u (l := 0) (Int.le_of_eq tz0.symm) (by decide))

set_option maxHeartbeats 4000000 in
set_option maxRecDepth 100000 in
theorem s_X5_set_O (o_me : Ob) (o_a0 : Ob) (hI_me : IvX5 o_me) (hI_a0 : IvX5 o_a0)  : wp (f_X5_set_O   o_me o_a0) (fun (y : Ob) => IvX5 y ∧ Kp [] [] [] o_me y) := by
  unfold f_X5_set_O
  refine wp_lt (fun o1 e1 => ?_)
  refine wp_lt (fun o2 e2 => ?_)
  refine wp_gd (by decide) ?_
  refine wp_lt (fun o4 e4 => ?_)
  refine wp_gd (by decide) ?_
  refine wp_lt (fun o6 e6 => ?_)
  refine wp_some ⟨?_, Kp.nil⟩
  subst e6 e4 e2 e1
  refine ⟨hI_a0.1, hI_a0.2.1, fun k j hk hj => ?_⟩
  have n0 : (0 : Int32).toNatClampNeg = 0 := by decide
  have n2 : (272 : Int32).toNatClampNeg = 272 := by decide
  show 0 ≤ (va_cpy (gA o_a0 1) (gA o_me 1) (0 : Int32).toNatClampNeg (0 : Int32).toNatClampNeg (272 : Int32).toNatClampNeg (17 * k + j)).toInt ∧ (va_cpy (gA o_a0 1) (gA o_me 1) (0 : Int32).toNatClampNeg (0 : Int32).toNatClampNeg (272 : Int32).toNatClampNeg (17 * k + j)).toInt ≤ 9
  rw [n0, n2]
  unfold va_cpy
  rw [if_pos ⟨Nat.zero_le _, by omega⟩]
  have e : 0 + (17 * k + j - 0) = 17 * k + j := by omega
  rw [e]
  exact hI_a0.2.2 k j hk hj

set_option maxHeartbeats 4000000 in
set_option maxRecDepth 100000 in
theorem s_X3_setOrderWords_O {pl : List CR} (o_me : Ob) (o_a0 : Ob) (o_a0_now : Ob) (p1 : Int32) (p2 : Int32) (hI_me : IvX3 o_me) (hI_a0 : IvX2 pl o_a0) (hI_a0_now : IvX4 o_a0_now)  : wp (f_X3_setOrderWords_O   o_me o_a0 o_a0_now p1 p2) (fun (y : Ob) => IvX3 y ∧ Kp [] [] [] o_me y) := by
  unfold f_X3_setOrderWords_O
  refine wp_lt (fun o1 eo1 => ?_)
  have hIo1 : IvX3 o1 := by rw [eo1]; exact hI_me
  have hkpo1 : Kp [] [] [] o_me o1 := Kp.rf.trans (by rw [eo1]; exact Kp.tA (by decide) (by decide))
  refine wp_lt (fun o2 eo2 => ?_)
  have hIo2 : IvX3 o2 := by rw [eo2]; exact hIo1
  have hkpo2 : Kp [] [] [] o_me o2 := hkpo1.trans (by rw [eo2]; exact Kp.tA (by decide) (by decide))
  refine wp_lt (fun o4 eo4 => ?_)
  have hIo4 : IvX3 o4 := by rw [eo4]; exact hIo2
  have hkpo4 : Kp [] [] [] o_me o4 := hkpo2.trans (by rw [eo4]; exact Kp.tA (by decide) (by decide))
  refine wp_lt (fun o7 eo7 => ?_)
  have hIo7 : IvX3 o7 := by rw [eo7]; exact hIo4
  have hkpo7 : Kp [] [] [] o_me o7 := hkpo4.trans (by rw [eo7]; exact Kp.tA (by decide) (by decide))
  refine wp_bd (s_J6_bitCount_0f7a4   (gI o_a0_now 2)    ) (fun z11 hz11 => ?_)
  refine wp_lt (fun o12 eo12 => ?_)
  have hIo12 : IvX3 o12 := by rw [eo12]; exact hIo7
  have hkpo12 : Kp [] [] [] o_me o12 := hkpo7.trans (by rw [eo12]; exact Kp.tA (by decide) (by decide))
  have lp1 : ∀ (N1 : Nat) (v4_1 : Int32) (o_me_1 : Ob), IvX3 o_me_1 → Kp [] [] [] o_me o_me_1 → (0 ≤ v4_1.toInt ∧ v4_1.toInt ≤ 7) → (7 - v4_1.toInt).toNat < N1 → wp (lp_X3_setOrderWords_O_59 o_a0 o_a0_now  N1 (v4_1, o_me_1)) (fun (y : Ob) => IvX3 y ∧ Kp [] [] [] o_me y) := by
    intro N1
    induction N1 with
    | zero =>
      intro v4_1 o_me_1 hI_me_1 hkp_me_1 hh17 hN1
      exact absurd hN1 (Nat.not_lt_zero _)
    | succ N1 ihx =>
      have ih1 := ihx
      intro v4_1 o_me_1 hI_me_1 hkp_me_1 hh17 hN1
      show wp (lb_X3_setOrderWords_O_59 o_a0 o_a0_now  (lp_X3_setOrderWords_O_59 o_a0 o_a0_now  N1) v4_1 o_me_1) (fun (y : Ob) => IvX3 y ∧ Kp [] [] [] o_me y)
      unfold lb_X3_setOrderWords_O_59
      refine wp_if (fun c18 => ?_) (fun c18 => ?_)
      · have c18 := cv_ge (a := v4_1.toInt) (b := 7) rfl (by decide) c18
        refine wp_some ?_
        exact (show IvX3 o_me_1 ∧ Kp [] [] [] o_me o_me_1 from ⟨hI_me_1, hkp_me_1⟩)
      · have c18 := cv_nge (a := v4_1.toInt) (b := 7) rfl (by decide) c18
        have t19 : ((5 : Int32) + v4_1).toInt = 5 + v4_1.toInt := i32_add (by decide) rfl (zk_cl hh17.1 (by decide)) (zk_cu (zlt_u (c := 6) c18 (by decide)) (by decide))
        refine wp_bd (s_X2_isPerson   o_a0 v4_1  hI_a0  ) (fun z20 hz20 => ?_)
        refine wp_if (fun c21 => ?_) (fun c21 => ?_)
        · obtain ⟨w22, ew22⟩ : ∃ z : Int32, z = (-1 : Int32) := ⟨_, rfl⟩
          obtain ⟨w23, ew23⟩ : ∃ z : Int32, z = (5 : Int32) + v4_1 := ⟨_, rfl⟩
          have tw23 : w23.toInt = ((5 : Int32) + v4_1).toInt := by rw [ew23]
          rw [show bk_X3_setOrderWords_O_97 o_a0 o_a0_now (lp_X3_setOrderWords_O_59 o_a0 o_a0_now  N1) v4_1 (-1 : Int32) ((5 : Int32) + v4_1) o_me_1 = bk_X3_setOrderWords_O_97 o_a0 o_a0_now (lp_X3_setOrderWords_O_59 o_a0 o_a0_now  N1) v4_1 w22 w23 o_me_1 from by rw [ew22, ew23]]
          unfold bk_X3_setOrderWords_O_97
          refine wp_gd (zin_of (m := 19) rfl (zl_e (zq_0 tw23.symm) (zaqc_l (c := 5) t19 hh17.1 (by decide)) (by decide)) (zlt_m (c := 18) (zu_e (zq_0 tw23) (zaqc_u (c := 11) t19 (zlt_u (c := 6) c18 (by decide)) (by decide)) (by decide)) (by decide))) ?_
          refine wp_lt (fun o24 eo24 => ?_)
          have hIo24 : IvX3 o24 := by rw [eo24]; exact hI_me_1
          have hkpo24 : Kp [] [] [] o_me o24 := hkp_me_1.trans (by rw [eo24]; exact Kp.tA (by decide) (by decide))
          have t25 : ((12 : Int32) + v4_1).toInt = 12 + v4_1.toInt := i32_add (by decide) rfl (zk_cl hh17.1 (by decide)) (zk_cu (zlt_u (c := 6) c18 (by decide)) (by decide))
          refine wp_bd (s_X2_isPerson   o_a0 v4_1  hI_a0  ) (fun z26 hz26 => ?_)
          refine wp_if (fun c27 => ?_) (fun c27 => ?_)
          · obtain ⟨w28, ew28⟩ : ∃ z : Int32, z = (-1 : Int32) := ⟨_, rfl⟩
            obtain ⟨w29, ew29⟩ : ∃ z : Int32, z = (12 : Int32) + v4_1 := ⟨_, rfl⟩
            have tw29 : w29.toInt = ((12 : Int32) + v4_1).toInt := by rw [ew29]
            rw [show bk_X3_setOrderWords_O_130 o_a0 o_a0_now (lp_X3_setOrderWords_O_59 o_a0 o_a0_now  N1) v4_1 (-1 : Int32) ((12 : Int32) + v4_1) o24 = bk_X3_setOrderWords_O_130 o_a0 o_a0_now (lp_X3_setOrderWords_O_59 o_a0 o_a0_now  N1) v4_1 w28 w29 o24 from by rw [ew28, ew29]]
            unfold bk_X3_setOrderWords_O_130
            refine wp_gd (zin_of (m := 19) rfl (zl_e (zq_0 tw29.symm) (zaqc_l (c := 12) t25 hh17.1 (by decide)) (by decide)) (zlt_m (c := 18) (zu_e (zq_0 tw29) (zaqc_u (c := 18) t25 (zlt_u (c := 6) c18 (by decide)) (by decide)) (by decide)) (by decide))) ?_
            refine wp_lt (fun o30 eo30 => ?_)
            have hIo30 : IvX3 o30 := by rw [eo30]; exact hIo24
            have hkpo30 : Kp [] [] [] o_me o30 := hkpo24.trans (by rw [eo30]; exact Kp.tA (by decide) (by decide))
            refine wp_lt (fun x32 ex32 => ?_)
            have tx32 : x32.toInt = v4_1.toInt + 1 := by rw [ex32]; exact i32_add rfl (by decide) (zk_l hh17.1 (by decide)) (zk_u (zlt_u (c := 6) c18 (by decide)) (by decide))
            exact ih1 x32 o30 hIo30 hkpo30 ⟨(zl_e (zq_r (c := (-1)) tx32 (by decide)) hh17.1 (by decide)), (zu_e (Int.le_of_eq tx32) (zlt_u (c := 6) c18 (by decide)) (by decide))⟩ (zms_u (c := 6) hN1 (zq_r (c := (-1)) tx32 (by decide)) (zlt_u (c := 6) c18 (by decide)) (by decide))
          · refine wp_gd (zin_of (m := 7) rfl hh17.1 (zlt_m (c := 6) (zlt_u (c := 6) c18 (by decide)) (by decide))) ?_
            obtain ⟨w34, ew34⟩ : ∃ z : Int32, z = gA o_a0_now 0 v4_1.toNatClampNeg := ⟨_, rfl⟩
            obtain ⟨w35, ew35⟩ : ∃ z : Int32, z = (12 : Int32) + v4_1 := ⟨_, rfl⟩
            have tw35 : w35.toInt = ((12 : Int32) + v4_1).toInt := by rw [ew35]
            rw [show bk_X3_setOrderWords_O_130 o_a0 o_a0_now (lp_X3_setOrderWords_O_59 o_a0 o_a0_now  N1) v4_1 (gA o_a0_now 0 v4_1.toNatClampNeg) ((12 : Int32) + v4_1) o24 = bk_X3_setOrderWords_O_130 o_a0 o_a0_now (lp_X3_setOrderWords_O_59 o_a0 o_a0_now  N1) v4_1 w34 w35 o24 from by rw [ew34, ew35]]
            unfold bk_X3_setOrderWords_O_130
            refine wp_gd (zin_of (m := 19) rfl (zl_e (zq_0 tw35.symm) (zaqc_l (c := 12) t25 hh17.1 (by decide)) (by decide)) (zlt_m (c := 18) (zu_e (zq_0 tw35) (zaqc_u (c := 18) t25 (zlt_u (c := 6) c18 (by decide)) (by decide)) (by decide)) (by decide))) ?_
            refine wp_lt (fun o36 eo36 => ?_)
            have hIo36 : IvX3 o36 := by rw [eo36]; exact hIo24
            have hkpo36 : Kp [] [] [] o_me o36 := hkpo24.trans (by rw [eo36]; exact Kp.tA (by decide) (by decide))
            refine wp_lt (fun x38 ex38 => ?_)
            have tx38 : x38.toInt = v4_1.toInt + 1 := by rw [ex38]; exact i32_add rfl (by decide) (zk_l hh17.1 (by decide)) (zk_u (zlt_u (c := 6) c18 (by decide)) (by decide))
            exact ih1 x38 o36 hIo36 hkpo36 ⟨(zl_e (zq_r (c := (-1)) tx38 (by decide)) hh17.1 (by decide)), (zu_e (Int.le_of_eq tx38) (zlt_u (c := 6) c18 (by decide)) (by decide))⟩ (zms_u (c := 6) hN1 (zq_r (c := (-1)) tx38 (by decide)) (zlt_u (c := 6) c18 (by decide)) (by decide))
        · refine wp_gd (zin_of (m := 7) rfl hh17.1 (zlt_m (c := 6) (zlt_u (c := 6) c18 (by decide)) (by decide))) ?_
          obtain ⟨w39, ew39⟩ : ∃ z : Int32, z = gA o_a0_now 1 v4_1.toNatClampNeg := ⟨_, rfl⟩
          obtain ⟨w40, ew40⟩ : ∃ z : Int32, z = (5 : Int32) + v4_1 := ⟨_, rfl⟩
          have tw40 : w40.toInt = ((5 : Int32) + v4_1).toInt := by rw [ew40]
          rw [show bk_X3_setOrderWords_O_97 o_a0 o_a0_now (lp_X3_setOrderWords_O_59 o_a0 o_a0_now  N1) v4_1 (gA o_a0_now 1 v4_1.toNatClampNeg) ((5 : Int32) + v4_1) o_me_1 = bk_X3_setOrderWords_O_97 o_a0 o_a0_now (lp_X3_setOrderWords_O_59 o_a0 o_a0_now  N1) v4_1 w39 w40 o_me_1 from by rw [ew39, ew40]]
          unfold bk_X3_setOrderWords_O_97
          refine wp_gd (zin_of (m := 19) rfl (zl_e (zq_0 tw40.symm) (zaqc_l (c := 5) t19 hh17.1 (by decide)) (by decide)) (zlt_m (c := 18) (zu_e (zq_0 tw40) (zaqc_u (c := 11) t19 (zlt_u (c := 6) c18 (by decide)) (by decide)) (by decide)) (by decide))) ?_
          refine wp_lt (fun o41 eo41 => ?_)
          have hIo41 : IvX3 o41 := by rw [eo41]; exact hI_me_1
          have hkpo41 : Kp [] [] [] o_me o41 := hkp_me_1.trans (by rw [eo41]; exact Kp.tA (by decide) (by decide))
          have t42 : ((12 : Int32) + v4_1).toInt = 12 + v4_1.toInt := i32_add (by decide) rfl (zk_cl hh17.1 (by decide)) (zk_cu (zlt_u (c := 6) c18 (by decide)) (by decide))
          refine wp_bd (s_X2_isPerson   o_a0 v4_1  hI_a0  ) (fun z43 hz43 => ?_)
          refine wp_if (fun c44 => ?_) (fun c44 => ?_)
          · obtain ⟨w45, ew45⟩ : ∃ z : Int32, z = (-1 : Int32) := ⟨_, rfl⟩
            obtain ⟨w46, ew46⟩ : ∃ z : Int32, z = (12 : Int32) + v4_1 := ⟨_, rfl⟩
            have tw46 : w46.toInt = ((12 : Int32) + v4_1).toInt := by rw [ew46]
            rw [show bk_X3_setOrderWords_O_130 o_a0 o_a0_now (lp_X3_setOrderWords_O_59 o_a0 o_a0_now  N1) v4_1 (-1 : Int32) ((12 : Int32) + v4_1) o41 = bk_X3_setOrderWords_O_130 o_a0 o_a0_now (lp_X3_setOrderWords_O_59 o_a0 o_a0_now  N1) v4_1 w45 w46 o41 from by rw [ew45, ew46]]
            unfold bk_X3_setOrderWords_O_130
            refine wp_gd (zin_of (m := 19) rfl (zl_e (zq_0 tw46.symm) (zaqc_l (c := 12) t42 hh17.1 (by decide)) (by decide)) (zlt_m (c := 18) (zu_e (zq_0 tw46) (zaqc_u (c := 18) t42 (zlt_u (c := 6) c18 (by decide)) (by decide)) (by decide)) (by decide))) ?_
            refine wp_lt (fun o47 eo47 => ?_)
            have hIo47 : IvX3 o47 := by rw [eo47]; exact hIo41
            have hkpo47 : Kp [] [] [] o_me o47 := hkpo41.trans (by rw [eo47]; exact Kp.tA (by decide) (by decide))
            refine wp_lt (fun x49 ex49 => ?_)
            have tx49 : x49.toInt = v4_1.toInt + 1 := by rw [ex49]; exact i32_add rfl (by decide) (zk_l hh17.1 (by decide)) (zk_u (zlt_u (c := 6) c18 (by decide)) (by decide))
            exact ih1 x49 o47 hIo47 hkpo47 ⟨(zl_e (zq_r (c := (-1)) tx49 (by decide)) hh17.1 (by decide)), (zu_e (Int.le_of_eq tx49) (zlt_u (c := 6) c18 (by decide)) (by decide))⟩ (zms_u (c := 6) hN1 (zq_r (c := (-1)) tx49 (by decide)) (zlt_u (c := 6) c18 (by decide)) (by decide))
          · refine wp_gd (zin_of (m := 7) rfl hh17.1 (zlt_m (c := 6) (zlt_u (c := 6) c18 (by decide)) (by decide))) ?_
            obtain ⟨w51, ew51⟩ : ∃ z : Int32, z = gA o_a0_now 0 v4_1.toNatClampNeg := ⟨_, rfl⟩
            obtain ⟨w52, ew52⟩ : ∃ z : Int32, z = (12 : Int32) + v4_1 := ⟨_, rfl⟩
            have tw52 : w52.toInt = ((12 : Int32) + v4_1).toInt := by rw [ew52]
            rw [show bk_X3_setOrderWords_O_130 o_a0 o_a0_now (lp_X3_setOrderWords_O_59 o_a0 o_a0_now  N1) v4_1 (gA o_a0_now 0 v4_1.toNatClampNeg) ((12 : Int32) + v4_1) o41 = bk_X3_setOrderWords_O_130 o_a0 o_a0_now (lp_X3_setOrderWords_O_59 o_a0 o_a0_now  N1) v4_1 w51 w52 o41 from by rw [ew51, ew52]]
            unfold bk_X3_setOrderWords_O_130
            refine wp_gd (zin_of (m := 19) rfl (zl_e (zq_0 tw52.symm) (zaqc_l (c := 12) t42 hh17.1 (by decide)) (by decide)) (zlt_m (c := 18) (zu_e (zq_0 tw52) (zaqc_u (c := 18) t42 (zlt_u (c := 6) c18 (by decide)) (by decide)) (by decide)) (by decide))) ?_
            refine wp_lt (fun o53 eo53 => ?_)
            have hIo53 : IvX3 o53 := by rw [eo53]; exact hIo41
            have hkpo53 : Kp [] [] [] o_me o53 := hkpo41.trans (by rw [eo53]; exact Kp.tA (by decide) (by decide))
            refine wp_lt (fun x55 ex55 => ?_)
            have tx55 : x55.toInt = v4_1.toInt + 1 := by rw [ex55]; exact i32_add rfl (by decide) (zk_l hh17.1 (by decide)) (zk_u (zlt_u (c := 6) c18 (by decide)) (by decide))
            exact ih1 x55 o53 hIo53 hkpo53 ⟨(zl_e (zq_r (c := (-1)) tx55 (by decide)) hh17.1 (by decide)), (zu_e (Int.le_of_eq tx55) (zlt_u (c := 6) c18 (by decide)) (by decide))⟩ (zms_u (c := 6) hN1 (zq_r (c := (-1)) tx55 (by decide)) (zlt_u (c := 6) c18 (by decide)) (by decide))
  exact lp1 zfu (0 : Int32) o12 hIo12 hkpo12 ⟨by decide, by decide⟩ (zme_u (l := 0) (Int.le_of_eq tz0.symm) (by decide))

set_option maxHeartbeats 4000000 in
set_option maxRecDepth 100000 in
theorem s_X8_obey_O {rI : Nat → Option Nat} (nc_a0 : Nat) (ns_a0 : Nat) (o_me : Ob) (o_me_machine : Ob) (o_me_isles : Ob) (o_me_isles_now : Ob) (o_me_court : Ob) (o_me_past : Ob) (o_pool : List CR) (o_a0 : Ob) (p1 : Int32) (hI_me : IvX8 rI o_me) (hI_me_machine : IvX3 o_me_machine) (hI_me_isles : IvX2 o_pool o_me_isles) (hI_me_isles_now : IvX4 o_me_isles_now) (hI_me_court : IvX1 o_me_court) (hI_me_past : IvX5 o_me_past) (hI_pool : PLok o_pool) (hI_a0 : IvX0 nc_a0 ns_a0 o_a0) (q0 : 0 ≤ p1.toInt ∧ p1.toInt ≤ 11) (r0 : p1.toInt ≤ (gI o_a0 7).toInt + (-1)) : wp (f_X8_obey_O  nc_a0 ns_a0 o_me o_me_machine o_me_isles o_me_isles_now o_me_court o_me_past o_pool o_a0 p1) (fun (y : Int32 × Ob × Ob × Ob × Ob × Ob) => (0 ≤ y.1.toInt ∧ y.1.toInt ≤ 1) ∧ IvX8 rI y.2.1 ∧ Kp [12, 13, 14] [11] [] o_me y.2.1 ∧ IvX3 y.2.2.1 ∧ Kp [] [] [] o_me_machine y.2.2.1 ∧ IvX4 y.2.2.2.1 ∧ Kp [] [] [] o_me_isles_now y.2.2.2.1 ∧ IvX1 y.2.2.2.2.1 ∧ Kp [] [] [] o_me_court y.2.2.2.2.1 ∧ IvX5 y.2.2.2.2.2 ∧ Kp [] [] [] o_me_past y.2.2.2.2.2) := by
  unfold f_X8_obey_O
  have t9nc := igX0_7 hI_a0
  refine wp_bd (s_X3_setOrderWords_O   o_me_machine o_me_isles o_me_isles_now (gI o_me 15) (gI o_me 16)  hI_me_machine hI_me_isles hI_me_isles_now  ) (fun z1 hz1 => ?_)
  obtain ⟨hz1_0, hz1_1⟩ := hz1
  have hkpz1_me_machine : Kp [] [] [] o_me_machine z1 := Kp.rf.trans (hz1_1.mono (by decide) (by decide) (by decide))
  refine wp_gd (zin_of (m := (nc_a0 : Int)) rfl q0.1 (zz_l (zd_e (c := (-1)) r0 (zl_0 t9nc.2.1) (by decide)))) ?_
  refine wp_gd (zin_of (m := (nc_a0 : Int)) rfl q0.1 (zz_l (zd_e (c := (-1)) r0 (zl_0 t9nc.2.1) (by decide)))) ?_
  refine wp_bd (s_X3_worth_O  nc_a0 ns_a0 z1 o_a0 (gA o_a0 3 p1.toNatClampNeg) (gA o_a0 4 p1.toNatClampNeg)  hz1_0 hI_a0  ) (fun z2 hz2 => ?_)
  obtain ⟨hz2_0, hz2_1⟩ := hz2
  have hkpz2_me_machine : Kp [] [] [] o_me_machine z2.2 := hkpz1_me_machine.trans (hz2_1.mono (by decide) (by decide) (by decide))
  refine wp_if (fun c3 => ?_) (fun c3 => ?_)
  · refine wp_gd (zin_of (m := (nc_a0 : Int)) rfl q0.1 (zz_l (zd_e (c := (-1)) r0 (zl_0 t9nc.2.1) (by decide)))) ?_
    refine wp_gd (zin_of (m := (nc_a0 : Int)) rfl q0.1 (zz_l (zd_e (c := (-1)) r0 (zl_0 t9nc.2.1) (by decide)))) ?_
    refine wp_bd (s_X3_worth_O  nc_a0 ns_a0 z2.2 o_a0 (gA o_a0 2 p1.toNatClampNeg) (gA o_a0 3 p1.toNatClampNeg)  hz2_0 hI_a0  ) (fun z4 hz4 => ?_)
    obtain ⟨hz4_0, hz4_1⟩ := hz4
    have hkpz4_me_machine : Kp [] [] [] o_me_machine z4.2 := hkpz2_me_machine.trans (hz4_1.mono (by decide) (by decide) (by decide))
    refine wp_if (fun c5 => ?_) (fun c5 => ?_)
    · refine wp_some ?_
      exact (show (0 ≤ (0 : Int32).toInt ∧ (0 : Int32).toInt ≤ 1) ∧ IvX8 rI o_me ∧ Kp [12, 13, 14] [11] [] o_me o_me ∧ IvX3 z4.2 ∧ Kp [] [] [] o_me_machine z4.2 ∧ IvX4 o_me_isles_now ∧ Kp [] [] [] o_me_isles_now o_me_isles_now ∧ IvX1 o_me_court ∧ Kp [] [] [] o_me_court o_me_court ∧ IvX5 o_me_past ∧ Kp [] [] [] o_me_past o_me_past from ⟨⟨by decide, by decide⟩, hI_me, Kp.rf, hz4_0, hkpz4_me_machine, hI_me_isles_now, Kp.rf, hI_me_court, Kp.rf, hI_me_past, Kp.rf⟩)
    · refine wp_gd (zin_of (m := (nc_a0 : Int)) rfl q0.1 (zz_l (zd_e (c := (-1)) r0 (zl_0 t9nc.2.1) (by decide)))) ?_
      refine wp_lt (fun x6 ex6 => ?_)
      refine wp_bd (s_X1_moved_O   o_me_court o_me_isles o_me_isles_now z4.2 o_pool o_me_past x6 z4.1.toInt32  hI_me_court hI_me_isles hI_me_isles_now hz4_0 hI_pool hI_me_past  ) (fun z7 hz7 => ?_)
      obtain ⟨hz7_0, hz7_1, hz7_2, hz7_3, hz7_4, hz7_5, hz7_6, hz7_7⟩ := hz7
      have hkpz7_me_court : Kp [] [] [] o_me_court z7.2.1 := Kp.rf.trans (hz7_1.mono (by decide) (by decide) (by decide))
      have hkpz7_me_isles_now : Kp [] [] [] o_me_isles_now z7.2.2.1 := Kp.rf.trans (hz7_3.mono (by decide) (by decide) (by decide))
      have hkpz7_me_machine : Kp [] [] [] o_me_machine z7.2.2.2.1 := hkpz4_me_machine.trans (hz7_5.mono (by decide) (by decide) (by decide))
      have hkpz7_me_past : Kp [] [] [] o_me_past z7.2.2.2.2 := Kp.rf.trans (hz7_7.mono (by decide) (by decide) (by decide))
      refine wp_if (fun c8 => ?_) (fun c8 => ?_)
      · refine wp_lt (fun o9 eo9 => ?_)
        have hIo9 : IvX8 rI o9 := by rw [eo9]; exact hI_me
        have hkpo9 : Kp [12, 13, 14] [11] [] o_me o9 := Kp.rf.trans (by rw [eo9]; exact Kp.sI (by decide))
        refine wp_if (fun c10 => ?_) (fun c10 => ?_)
        · refine wp_lt (fun o11 eo11 => ?_)
          have hIo11 : IvX8 rI o11 := by rw [eo11]; exact hIo9
          have hkpo11 : Kp [12, 13, 14] [11] [] o_me o11 := hkpo9.trans (by rw [eo11]; exact Kp.sI (by decide))
          refine wp_some ?_
          exact (show (0 ≤ (1 : Int32).toInt ∧ (1 : Int32).toInt ≤ 1) ∧ IvX8 rI o11 ∧ Kp [12, 13, 14] [11] [] o_me o11 ∧ IvX3 z7.2.2.2.1 ∧ Kp [] [] [] o_me_machine z7.2.2.2.1 ∧ IvX4 z7.2.2.1 ∧ Kp [] [] [] o_me_isles_now z7.2.2.1 ∧ IvX1 z7.2.1 ∧ Kp [] [] [] o_me_court z7.2.1 ∧ IvX5 z7.2.2.2.2 ∧ Kp [] [] [] o_me_past z7.2.2.2.2 from ⟨⟨by decide, by decide⟩, hIo11, hkpo11, hz7_4, hkpz7_me_machine, hz7_2, hkpz7_me_isles_now, hz7_0, hkpz7_me_court, hz7_6, hkpz7_me_past⟩)
        · refine wp_some ?_
          exact (show (0 ≤ (1 : Int32).toInt ∧ (1 : Int32).toInt ≤ 1) ∧ IvX8 rI o9 ∧ Kp [12, 13, 14] [11] [] o_me o9 ∧ IvX3 z7.2.2.2.1 ∧ Kp [] [] [] o_me_machine z7.2.2.2.1 ∧ IvX4 z7.2.2.1 ∧ Kp [] [] [] o_me_isles_now z7.2.2.1 ∧ IvX1 z7.2.1 ∧ Kp [] [] [] o_me_court z7.2.1 ∧ IvX5 z7.2.2.2.2 ∧ Kp [] [] [] o_me_past z7.2.2.2.2 from ⟨⟨by decide, by decide⟩, hIo9, hkpo9, hz7_4, hkpz7_me_machine, hz7_2, hkpz7_me_isles_now, hz7_0, hkpz7_me_court, hz7_6, hkpz7_me_past⟩)
      · refine wp_some ?_
        exact (show (0 ≤ (0 : Int32).toInt ∧ (0 : Int32).toInt ≤ 1) ∧ IvX8 rI o_me ∧ Kp [12, 13, 14] [11] [] o_me o_me ∧ IvX3 z7.2.2.2.1 ∧ Kp [] [] [] o_me_machine z7.2.2.2.1 ∧ IvX4 z7.2.2.1 ∧ Kp [] [] [] o_me_isles_now z7.2.2.1 ∧ IvX1 z7.2.1 ∧ Kp [] [] [] o_me_court z7.2.1 ∧ IvX5 z7.2.2.2.2 ∧ Kp [] [] [] o_me_past z7.2.2.2.2 from ⟨⟨by decide, by decide⟩, hI_me, Kp.rf, hz7_4, hkpz7_me_machine, hz7_2, hkpz7_me_isles_now, hz7_0, hkpz7_me_court, hz7_6, hkpz7_me_past⟩)
  · refine wp_some ?_
    exact (show (0 ≤ (1 : Int32).toInt ∧ (1 : Int32).toInt ≤ 1) ∧ IvX8 rI o_me ∧ Kp [12, 13, 14] [11] [] o_me o_me ∧ IvX3 z2.2 ∧ Kp [] [] [] o_me_machine z2.2 ∧ IvX4 o_me_isles_now ∧ Kp [] [] [] o_me_isles_now o_me_isles_now ∧ IvX1 o_me_court ∧ Kp [] [] [] o_me_court o_me_court ∧ IvX5 o_me_past ∧ Kp [] [] [] o_me_past o_me_past from ⟨⟨by decide, by decide⟩, hI_me, Kp.rf, hz2_0, hkpz2_me_machine, hI_me_isles_now, Kp.rf, hI_me_court, Kp.rf, hI_me_past, Kp.rf⟩)

set_option maxHeartbeats 4000000 in
set_option maxRecDepth 100000 in
theorem s_X8_orders {rI : Nat → Option Nat} (o_me : Ob) (o_me_reader : Ob) (o_me_reader_code : Ob) (o_me_machine : Ob) (o_me_isles : Ob) (o_me_isles_now : Ob) (o_me_court : Ob) (o_me_past : Ob) (o_me_pastAhead : Ob) (o_me_movingAhead : Ob) (o_pool : List CR) (hI_me : IvX8 rI o_me) (hI_me_reader : IvX6 o_me_reader) (hI_me_reader_code : IvX0 12 400 o_me_reader_code) (hI_me_machine : IvX3 o_me_machine) (hI_me_isles : IvX2 o_pool o_me_isles) (hI_me_isles_now : IvX4 o_me_isles_now) (hI_me_court : IvX1 o_me_court) (hI_me_past : IvX5 o_me_past) (hI_me_pastAhead : IvX5 o_me_pastAhead) (hI_me_movingAhead : IvX4 o_me_movingAhead) (hI_pool : PLok o_pool)  : wp (f_X8_orders  12 400 o_me o_me_reader o_me_reader_code o_me_machine o_me_isles o_me_isles_now o_me_court o_me_past o_me_pastAhead o_me_movingAhead o_pool) (fun (y : Int32 × Ob × Ob × Ob × Ob × Ob × Ob × Ob × Ob × Ob) => IvX8 rI y.2.1 ∧ Kp [13] [] [] o_me y.2.1 ∧ IvX6 y.2.2.1 ∧ Kp [] [0] [] o_me_reader y.2.2.1 ∧ IvX0 12 400 y.2.2.2.1 ∧ Kp [] [] [] o_me_reader_code y.2.2.2.1 ∧ IvX3 y.2.2.2.2.1 ∧ Kp [] [] [] o_me_machine y.2.2.2.2.1 ∧ IvX4 y.2.2.2.2.2.1 ∧ Kp [] [] [] o_me_isles_now y.2.2.2.2.2.1 ∧ IvX1 y.2.2.2.2.2.2.1 ∧ Kp [] [] [] o_me_court y.2.2.2.2.2.2.1 ∧ IvX5 y.2.2.2.2.2.2.2.1 ∧ Kp [] [] [] o_me_past y.2.2.2.2.2.2.2.1 ∧ IvX5 y.2.2.2.2.2.2.2.2.1 ∧ Kp [] [] [] o_me_pastAhead y.2.2.2.2.2.2.2.2.1 ∧ IvX4 y.2.2.2.2.2.2.2.2.2 ∧ Kp [] [] [] o_me_movingAhead y.2.2.2.2.2.2.2.2.2) := by
  unfold f_X8_orders
  refine wp_lt (fun o1 eo1 => ?_)
  have hIo1 : IvX8 rI o1 := by rw [eo1]; exact hI_me
  have hkpo1 : Kp [13] [] [] o_me o1 := Kp.rf.trans (by rw [eo1]; exact Kp.sI (by decide))
  refine wp_bd (s_X6_readText   o_me_reader o_me_reader_code (0 : Int32)  hI_me_reader hI_me_reader_code  ⟨by decide, by decide⟩) (fun z2 hz2 => ?_)
  obtain ⟨hz2_0, hz2_1, hz2_2, hz2_3, hz2_4⟩ := hz2
  have hkpz2_me_reader : Kp [] [0] [] o_me_reader z2.2.1 := Kp.rf.trans (hz2_2.mono (by decide) (by decide) (by decide))
  have hkpz2_me_reader_code : Kp [] [] [] o_me_reader_code z2.2.2 := Kp.rf.trans (hz2_4.mono (by decide) (by decide) (by decide))
  refine wp_lt (fun o3 eo3 => ?_)
  have hIo3 : IvX6 o3 := by rw [eo3]; exact ipX6_2 hz2_1 ⟨by decide, by decide⟩
  have hkpo3 : Kp [] [0] [] o_me_reader o3 := hkpz2_me_reader.trans (by rw [eo3]; exact Kp.sI (by decide))
  refine wp_if (fun c4 => ?_) (fun c4 => ?_)
  · refine wp_bd (s_X8_refuse   o1 (-6 : Int32)  hIo1  ) (fun z5 hz5 => ?_)
    obtain ⟨hz5_0, hz5_1⟩ := hz5
    have hkpz5_me : Kp [13] [] [] o_me z5.2 := hkpo1.trans (hz5_1.mono (by decide) (by decide) (by decide))
    refine wp_some ?_
    exact (show IvX8 rI z5.2 ∧ Kp [13] [] [] o_me z5.2 ∧ IvX6 o3 ∧ Kp [] [0] [] o_me_reader o3 ∧ IvX0 12 400 z2.2.2 ∧ Kp [] [] [] o_me_reader_code z2.2.2 ∧ IvX3 o_me_machine ∧ Kp [] [] [] o_me_machine o_me_machine ∧ IvX4 o_me_isles_now ∧ Kp [] [] [] o_me_isles_now o_me_isles_now ∧ IvX1 o_me_court ∧ Kp [] [] [] o_me_court o_me_court ∧ IvX5 o_me_past ∧ Kp [] [] [] o_me_past o_me_past ∧ IvX5 o_me_pastAhead ∧ Kp [] [] [] o_me_pastAhead o_me_pastAhead ∧ IvX4 o_me_movingAhead ∧ Kp [] [] [] o_me_movingAhead o_me_movingAhead from ⟨hz5_0, hkpz5_me, hIo3, hkpo3, hz2_3, hkpz2_me_reader_code, hI_me_machine, Kp.rf, hI_me_isles_now, Kp.rf, hI_me_court, Kp.rf, hI_me_past, Kp.rf, hI_me_pastAhead, Kp.rf, hI_me_movingAhead, Kp.rf⟩)
  · refine wp_bd (s_X4_set_O   o_me_movingAhead o_me_isles_now  hI_me_movingAhead hI_me_isles_now  ) (fun z7 hz7 => ?_)
    obtain ⟨hz7_0, hz7_1⟩ := hz7
    have hkpz7_me_movingAhead : Kp [] [] [] o_me_movingAhead z7 := Kp.rf.trans (hz7_1.mono (by decide) (by decide) (by decide))
    refine wp_bd (s_X5_set_O   o_me_pastAhead o_me_past  hI_me_pastAhead hI_me_past  ) (fun z8 hz8 => ?_)
    obtain ⟨hz8_0, hz8_1⟩ := hz8
    have hkpz8_me_pastAhead : Kp [] [] [] o_me_pastAhead z8 := Kp.rf.trans (hz8_1.mono (by decide) (by decide) (by decide))
    refine wp_lt (fun o9 eo9 => ?_)
    have hIo9 : IvX8 rI o9 := by rw [eo9]; exact hIo1
    have hkpo9 : Kp [13] [] [] o_me o9 := hkpo1.trans (by rw [eo9]; exact Kp.sI (by decide))
    refine wp_lt (fun o11 eo11 => ?_)
    have hIo11 : IvX8 rI o11 := by rw [eo11]; exact hIo9
    have hkpo11 : Kp [13] [] [] o_me o11 := hkpo9.trans (by rw [eo11]; exact Kp.sI (by decide))
    have lp1 : ∀ (N1 : Nat) (v3_1 : Int32) (o_me_1 : Ob) (o_me_reader_1 : Ob) (o_me_reader_code_1 : Ob) (o_me_machine_1 : Ob) (o_me_isles_now_1 : Ob) (o_me_court_1 : Ob) (o_me_past_1 : Ob) (o_me_pastAhead_1 : Ob) (o_me_movingAhead_1 : Ob), IvX8 rI o_me_1 → Kp [13] [] [] o_me o_me_1 → IvX6 o_me_reader_1 → Kp [] [0] [] o_me_reader o_me_reader_1 → IvX0 12 400 o_me_reader_code_1 → Kp [] [] [] o_me_reader_code o_me_reader_code_1 → IvX3 o_me_machine_1 → Kp [] [] [] o_me_machine o_me_machine_1 → IvX4 o_me_isles_now_1 → Kp [] [] [] o_me_isles_now o_me_isles_now_1 → IvX1 o_me_court_1 → Kp [] [] [] o_me_court o_me_court_1 → IvX5 o_me_past_1 → Kp [] [] [] o_me_past o_me_past_1 → IvX5 o_me_pastAhead_1 → Kp [] [] [] o_me_pastAhead o_me_pastAhead_1 → IvX4 o_me_movingAhead_1 → Kp [] [] [] o_me_movingAhead o_me_movingAhead_1 → (0 ≤ v3_1.toInt ∧ v3_1.toInt ≤ 12) → (12 - v3_1.toInt).toNat < N1 → wp (lp_X8_orders_78 12 400 o_me_isles o_pool  N1 (v3_1, o_me_1, o_me_reader_1, o_me_reader_code_1, o_me_machine_1, o_me_isles_now_1, o_me_court_1, o_me_past_1, o_me_pastAhead_1, o_me_movingAhead_1)) (fun (y : Int32 × Ob × Ob × Ob × Ob × Ob × Ob × Ob × Ob × Ob) => IvX8 rI y.2.1 ∧ Kp [13] [] [] o_me y.2.1 ∧ IvX6 y.2.2.1 ∧ Kp [] [0] [] o_me_reader y.2.2.1 ∧ IvX0 12 400 y.2.2.2.1 ∧ Kp [] [] [] o_me_reader_code y.2.2.2.1 ∧ IvX3 y.2.2.2.2.1 ∧ Kp [] [] [] o_me_machine y.2.2.2.2.1 ∧ IvX4 y.2.2.2.2.2.1 ∧ Kp [] [] [] o_me_isles_now y.2.2.2.2.2.1 ∧ IvX1 y.2.2.2.2.2.2.1 ∧ Kp [] [] [] o_me_court y.2.2.2.2.2.2.1 ∧ IvX5 y.2.2.2.2.2.2.2.1 ∧ Kp [] [] [] o_me_past y.2.2.2.2.2.2.2.1 ∧ IvX5 y.2.2.2.2.2.2.2.2.1 ∧ Kp [] [] [] o_me_pastAhead y.2.2.2.2.2.2.2.2.1 ∧ IvX4 y.2.2.2.2.2.2.2.2.2 ∧ Kp [] [] [] o_me_movingAhead y.2.2.2.2.2.2.2.2.2) := by
      intro N1
      induction N1 with
      | zero =>
        intro v3_1 o_me_1 o_me_reader_1 o_me_reader_code_1 o_me_machine_1 o_me_isles_now_1 o_me_court_1 o_me_past_1 o_me_pastAhead_1 o_me_movingAhead_1 hI_me_1 hkp_me_1 hI_me_reader_1 hkp_me_reader_1 hI_me_reader_code_1 hkp_me_reader_code_1 hI_me_machine_1 hkp_me_machine_1 hI_me_isles_now_1 hkp_me_isles_now_1 hI_me_court_1 hkp_me_court_1 hI_me_past_1 hkp_me_past_1 hI_me_pastAhead_1 hkp_me_pastAhead_1 hI_me_movingAhead_1 hkp_me_movingAhead_1 hh14 hN1
        exact absurd hN1 (Nat.not_lt_zero _)
      | succ N1 ihx =>
        have ih1 := ihx
        intro v3_1 o_me_1 o_me_reader_1 o_me_reader_code_1 o_me_machine_1 o_me_isles_now_1 o_me_court_1 o_me_past_1 o_me_pastAhead_1 o_me_movingAhead_1 hI_me_1 hkp_me_1 hI_me_reader_1 hkp_me_reader_1 hI_me_reader_code_1 hkp_me_reader_code_1 hI_me_machine_1 hkp_me_machine_1 hI_me_isles_now_1 hkp_me_isles_now_1 hI_me_court_1 hkp_me_court_1 hI_me_past_1 hkp_me_past_1 hI_me_pastAhead_1 hkp_me_pastAhead_1 hI_me_movingAhead_1 hkp_me_movingAhead_1 hh14 hN1
        show wp (lb_X8_orders_78 12 400 o_me_isles o_pool  (lp_X8_orders_78 12 400 o_me_isles o_pool  N1) v3_1 o_me_1 o_me_reader_1 o_me_reader_code_1 o_me_machine_1 o_me_isles_now_1 o_me_court_1 o_me_past_1 o_me_pastAhead_1 o_me_movingAhead_1) (fun (y : Int32 × Ob × Ob × Ob × Ob × Ob × Ob × Ob × Ob × Ob) => IvX8 rI y.2.1 ∧ Kp [13] [] [] o_me y.2.1 ∧ IvX6 y.2.2.1 ∧ Kp [] [0] [] o_me_reader y.2.2.1 ∧ IvX0 12 400 y.2.2.2.1 ∧ Kp [] [] [] o_me_reader_code y.2.2.2.1 ∧ IvX3 y.2.2.2.2.1 ∧ Kp [] [] [] o_me_machine y.2.2.2.2.1 ∧ IvX4 y.2.2.2.2.2.1 ∧ Kp [] [] [] o_me_isles_now y.2.2.2.2.2.1 ∧ IvX1 y.2.2.2.2.2.2.1 ∧ Kp [] [] [] o_me_court y.2.2.2.2.2.2.1 ∧ IvX5 y.2.2.2.2.2.2.2.1 ∧ Kp [] [] [] o_me_past y.2.2.2.2.2.2.2.1 ∧ IvX5 y.2.2.2.2.2.2.2.2.1 ∧ Kp [] [] [] o_me_pastAhead y.2.2.2.2.2.2.2.2.1 ∧ IvX4 y.2.2.2.2.2.2.2.2.2 ∧ Kp [] [] [] o_me_movingAhead y.2.2.2.2.2.2.2.2.2)
        unfold lb_X8_orders_78
        have t15 := igX0_7 hI_me_reader_code_1
        refine wp_if (fun c16 => ?_) (fun c16 => ?_)
        · have c16 := cv_ge (a := v3_1.toInt) (b := (gI o_me_reader_code_1 7).toInt) rfl rfl c16
          refine wp_bd (s_X8_grant   o_me_1 (gI o_me_1 15)  hI_me_1  ) (fun z17 hz17 => ?_)
          obtain ⟨hz17_0, hz17_1⟩ := hz17
          have hkpz17_me : Kp [13] [] [] o_me z17.2 := hkp_me_1.trans (hz17_1.mono (by decide) (by decide) (by decide))
          refine wp_some ?_
          exact (show IvX8 rI z17.2 ∧ Kp [13] [] [] o_me z17.2 ∧ IvX6 o_me_reader_1 ∧ Kp [] [0] [] o_me_reader o_me_reader_1 ∧ IvX0 12 400 o_me_reader_code_1 ∧ Kp [] [] [] o_me_reader_code o_me_reader_code_1 ∧ IvX3 o_me_machine_1 ∧ Kp [] [] [] o_me_machine o_me_machine_1 ∧ IvX4 o_me_isles_now_1 ∧ Kp [] [] [] o_me_isles_now o_me_isles_now_1 ∧ IvX1 o_me_court_1 ∧ Kp [] [] [] o_me_court o_me_court_1 ∧ IvX5 o_me_past_1 ∧ Kp [] [] [] o_me_past o_me_past_1 ∧ IvX5 o_me_pastAhead_1 ∧ Kp [] [] [] o_me_pastAhead o_me_pastAhead_1 ∧ IvX4 o_me_movingAhead_1 ∧ Kp [] [] [] o_me_movingAhead o_me_movingAhead_1 from ⟨hz17_0, hkpz17_me, hI_me_reader_1, hkp_me_reader_1, hI_me_reader_code_1, hkp_me_reader_code_1, hI_me_machine_1, hkp_me_machine_1, hI_me_isles_now_1, hkp_me_isles_now_1, hI_me_court_1, hkp_me_court_1, hI_me_past_1, hkp_me_past_1, hI_me_pastAhead_1, hkp_me_pastAhead_1, hI_me_movingAhead_1, hkp_me_movingAhead_1⟩)
        · have c16 := cv_nge (a := v3_1.toInt) (b := (gI o_me_reader_code_1 7).toInt) rfl rfl c16
          have lp2 : ∀ (N2 : Nat) (v3_2 : Int32) (v4_2 : Int32) (o_me_2 : Ob) (o_me_reader_2 : Ob) (o_me_reader_code_2 : Ob) (o_me_machine_2 : Ob) (o_me_isles_now_2 : Ob) (o_me_court_2 : Ob) (o_me_past_2 : Ob) (o_me_pastAhead_2 : Ob) (o_me_movingAhead_2 : Ob), IvX8 rI o_me_2 → Kp [13] [] [] o_me o_me_2 → IvX6 o_me_reader_2 → Kp [] [0] [] o_me_reader o_me_reader_2 → IvX0 12 400 o_me_reader_code_2 → Kp [] [] [] o_me_reader_code o_me_reader_code_2 → IvX3 o_me_machine_2 → Kp [] [] [] o_me_machine o_me_machine_2 → IvX4 o_me_isles_now_2 → Kp [] [] [] o_me_isles_now o_me_isles_now_2 → IvX1 o_me_court_2 → Kp [] [] [] o_me_court o_me_court_2 → IvX5 o_me_past_2 → Kp [] [] [] o_me_past o_me_past_2 → IvX5 o_me_pastAhead_2 → Kp [] [] [] o_me_pastAhead o_me_pastAhead_2 → IvX4 o_me_movingAhead_2 → Kp [] [] [] o_me_movingAhead o_me_movingAhead_2 → (0 ≤ v3_2.toInt ∧ v3_2.toInt ≤ 11) → (0 ≤ v4_2.toInt ∧ v4_2.toInt ≤ 20) → (v3_2.toInt ≤ (gI o_me_reader_code_2 7).toInt + (-1)) → (v3_1.toInt ≤ v3_2.toInt + 0) → (20 - v4_2.toInt).toNat < N2 → wp (lp_X8_orders_89 12 400 o_me_isles o_pool (lp_X8_orders_78 12 400 o_me_isles o_pool  N1) N2 (v3_2, v4_2, o_me_2, o_me_reader_2, o_me_reader_code_2, o_me_machine_2, o_me_isles_now_2, o_me_court_2, o_me_past_2, o_me_pastAhead_2, o_me_movingAhead_2)) (fun (y : Int32 × Ob × Ob × Ob × Ob × Ob × Ob × Ob × Ob × Ob) => IvX8 rI y.2.1 ∧ Kp [13] [] [] o_me y.2.1 ∧ IvX6 y.2.2.1 ∧ Kp [] [0] [] o_me_reader y.2.2.1 ∧ IvX0 12 400 y.2.2.2.1 ∧ Kp [] [] [] o_me_reader_code y.2.2.2.1 ∧ IvX3 y.2.2.2.2.1 ∧ Kp [] [] [] o_me_machine y.2.2.2.2.1 ∧ IvX4 y.2.2.2.2.2.1 ∧ Kp [] [] [] o_me_isles_now y.2.2.2.2.2.1 ∧ IvX1 y.2.2.2.2.2.2.1 ∧ Kp [] [] [] o_me_court y.2.2.2.2.2.2.1 ∧ IvX5 y.2.2.2.2.2.2.2.1 ∧ Kp [] [] [] o_me_past y.2.2.2.2.2.2.2.1 ∧ IvX5 y.2.2.2.2.2.2.2.2.1 ∧ Kp [] [] [] o_me_pastAhead y.2.2.2.2.2.2.2.2.1 ∧ IvX4 y.2.2.2.2.2.2.2.2.2 ∧ Kp [] [] [] o_me_movingAhead y.2.2.2.2.2.2.2.2.2) := by
            intro N2
            induction N2 with
            | zero =>
              intro v3_2 v4_2 o_me_2 o_me_reader_2 o_me_reader_code_2 o_me_machine_2 o_me_isles_now_2 o_me_court_2 o_me_past_2 o_me_pastAhead_2 o_me_movingAhead_2 hI_me_2 hkp_me_2 hI_me_reader_2 hkp_me_reader_2 hI_me_reader_code_2 hkp_me_reader_code_2 hI_me_machine_2 hkp_me_machine_2 hI_me_isles_now_2 hkp_me_isles_now_2 hI_me_court_2 hkp_me_court_2 hI_me_past_2 hkp_me_past_2 hI_me_pastAhead_2 hkp_me_pastAhead_2 hI_me_movingAhead_2 hkp_me_movingAhead_2 hh19 hh20 hh21 hh22 hN2
              exact absurd hN2 (Nat.not_lt_zero _)
            | succ N2 ihx =>
              have ih2 := ihx
              intro v3_2 v4_2 o_me_2 o_me_reader_2 o_me_reader_code_2 o_me_machine_2 o_me_isles_now_2 o_me_court_2 o_me_past_2 o_me_pastAhead_2 o_me_movingAhead_2 hI_me_2 hkp_me_2 hI_me_reader_2 hkp_me_reader_2 hI_me_reader_code_2 hkp_me_reader_code_2 hI_me_machine_2 hkp_me_machine_2 hI_me_isles_now_2 hkp_me_isles_now_2 hI_me_court_2 hkp_me_court_2 hI_me_past_2 hkp_me_past_2 hI_me_pastAhead_2 hkp_me_pastAhead_2 hI_me_movingAhead_2 hkp_me_movingAhead_2 hh19 hh20 hh21 hh22 hN2
              show wp (lb_X8_orders_89 12 400 o_me_isles o_pool (lp_X8_orders_78 12 400 o_me_isles o_pool  N1) (lp_X8_orders_89 12 400 o_me_isles o_pool (lp_X8_orders_78 12 400 o_me_isles o_pool  N1) N2) v3_2 v4_2 o_me_2 o_me_reader_2 o_me_reader_code_2 o_me_machine_2 o_me_isles_now_2 o_me_court_2 o_me_past_2 o_me_pastAhead_2 o_me_movingAhead_2) (fun (y : Int32 × Ob × Ob × Ob × Ob × Ob × Ob × Ob × Ob × Ob) => IvX8 rI y.2.1 ∧ Kp [13] [] [] o_me y.2.1 ∧ IvX6 y.2.2.1 ∧ Kp [] [0] [] o_me_reader y.2.2.1 ∧ IvX0 12 400 y.2.2.2.1 ∧ Kp [] [] [] o_me_reader_code y.2.2.2.1 ∧ IvX3 y.2.2.2.2.1 ∧ Kp [] [] [] o_me_machine y.2.2.2.2.1 ∧ IvX4 y.2.2.2.2.2.1 ∧ Kp [] [] [] o_me_isles_now y.2.2.2.2.2.1 ∧ IvX1 y.2.2.2.2.2.2.1 ∧ Kp [] [] [] o_me_court y.2.2.2.2.2.2.1 ∧ IvX5 y.2.2.2.2.2.2.2.1 ∧ Kp [] [] [] o_me_past y.2.2.2.2.2.2.2.1 ∧ IvX5 y.2.2.2.2.2.2.2.2.1 ∧ Kp [] [] [] o_me_pastAhead y.2.2.2.2.2.2.2.2.1 ∧ IvX4 y.2.2.2.2.2.2.2.2.2 ∧ Kp [] [] [] o_me_movingAhead y.2.2.2.2.2.2.2.2.2)
              unfold lb_X8_orders_89
              refine wp_gd (zin_of (m := 12) rfl hh19.1 (zlt_m (c := 11) hh19.2 (by decide))) ?_
              have t24 := iaX0_1_0 hI_me_reader_code_2 (j := v3_2) hh19.1 hh19.2
              refine wp_if (fun c25 => ?_) (fun c25 => ?_)
              · have c25 := cv_ge (a := v4_2.toInt) (b := (gA o_me_reader_code_2 1 v3_2.toNatClampNeg).toInt) rfl rfl c25
                refine wp_lt (fun x26 ex26 => ?_)
                have tx26 : x26.toInt = v3_2.toInt + 1 := by rw [ex26]; exact i32_add rfl (by decide) (zk_l hh19.1 (by decide)) (zk_u hh19.2 (by decide))
                exact ih1 x26 o_me_2 o_me_reader_2 o_me_reader_code_2 o_me_machine_2 o_me_isles_now_2 o_me_court_2 o_me_past_2 o_me_pastAhead_2 o_me_movingAhead_2 hI_me_2 hkp_me_2 hI_me_reader_2 hkp_me_reader_2 hI_me_reader_code_2 hkp_me_reader_code_2 hI_me_machine_2 hkp_me_machine_2 hI_me_isles_now_2 hkp_me_isles_now_2 hI_me_court_2 hkp_me_court_2 hI_me_past_2 hkp_me_past_2 hI_me_pastAhead_2 hkp_me_pastAhead_2 hI_me_movingAhead_2 hkp_me_movingAhead_2 ⟨(zl_e (zq_r (c := (-1)) tx26 (by decide)) hh19.1 (by decide)), (zu_e (Int.le_of_eq tx26) hh19.2 (by decide))⟩ (zms_u (c := 11) hN1 (zd_e (c := (-1)) hh22 (zq_r (c := (-1)) tx26 (by decide)) (by decide)) (zu_e (zl_d c16) t15.2.1 (by decide)) (by decide))
              · have c25 := cv_nge (a := v4_2.toInt) (b := (gA o_me_reader_code_2 1 v3_2.toNatClampNeg).toInt) rfl rfl c25
                refine wp_bd (s_X8_obey_O  12 400 o_me_2 o_me_machine_2 o_me_isles o_me_isles_now_2 o_me_court_2 o_me_past_2 o_pool o_me_reader_code_2 v3_2  hI_me_2 hI_me_machine_2 hI_me_isles hI_me_isles_now_2 hI_me_court_2 hI_me_past_2 hI_pool hI_me_reader_code_2  ⟨hh19.1, hh19.2⟩ hh21) (fun z27 hz27 => ?_)
                obtain ⟨hz27_0, hz27_1, hz27_2, hz27_3, hz27_4, hz27_5, hz27_6, hz27_7, hz27_8, hz27_9, hz27_10⟩ := hz27
                have hkpz27_me : Kp [13] [] [] o_me z27.2.1 := hkp_me_2.trans (hz27_2.mono (by decide) (by decide) (by decide))
                have hkpz27_me_machine : Kp [] [] [] o_me_machine z27.2.2.1 := hkp_me_machine_2.trans (hz27_4.mono (by decide) (by decide) (by decide))
                have hkpz27_me_isles_now : Kp [] [] [] o_me_isles_now z27.2.2.2.1 := hkp_me_isles_now_2.trans (hz27_6.mono (by decide) (by decide) (by decide))
                have hkpz27_me_court : Kp [] [] [] o_me_court z27.2.2.2.2.1 := hkp_me_court_2.trans (hz27_8.mono (by decide) (by decide) (by decide))
                have hkpz27_me_past : Kp [] [] [] o_me_past z27.2.2.2.2.2 := hkp_me_past_2.trans (hz27_10.mono (by decide) (by decide) (by decide))
                refine wp_if (fun c29 => ?_) (fun c29 => ?_)
                · refine wp_lt (fun o30 eo30 => ?_)
                  have hIo30 : IvX8 rI o30 := by rw [eo30]; exact hz27_1
                  have hkpo30 : Kp [13] [] [] o_me o30 := hkpz27_me.trans (by rw [eo30]; exact Kp.sI (by decide))
                  refine wp_bd (s_X4_set_O   z27.2.2.2.1 o_me_movingAhead_2  hz27_5 hI_me_movingAhead_2  ) (fun z31 hz31 => ?_)
                  obtain ⟨hz31_0, hz31_1⟩ := hz31
                  have hkpz31_me_isles_now : Kp [] [] [] o_me_isles_now z31 := hkpz27_me_isles_now.trans (hz31_1.mono (by decide) (by decide) (by decide))
                  refine wp_bd (s_X5_set_O   z27.2.2.2.2.2 o_me_pastAhead_2  hz27_9 hI_me_pastAhead_2  ) (fun z32 hz32 => ?_)
                  obtain ⟨hz32_0, hz32_1⟩ := hz32
                  have hkpz32_me_past : Kp [] [] [] o_me_past z32 := hkpz27_me_past.trans (hz32_1.mono (by decide) (by decide) (by decide))
                  refine wp_bd (s_X8_refuse   o30 (-3 : Int32)  hIo30  ) (fun z33 hz33 => ?_)
                  obtain ⟨hz33_0, hz33_1⟩ := hz33
                  have hkpz33_me : Kp [13] [] [] o_me z33.2 := hkpo30.trans (hz33_1.mono (by decide) (by decide) (by decide))
                  refine wp_some ?_
                  exact (show IvX8 rI z33.2 ∧ Kp [13] [] [] o_me z33.2 ∧ IvX6 o_me_reader_2 ∧ Kp [] [0] [] o_me_reader o_me_reader_2 ∧ IvX0 12 400 o_me_reader_code_2 ∧ Kp [] [] [] o_me_reader_code o_me_reader_code_2 ∧ IvX3 z27.2.2.1 ∧ Kp [] [] [] o_me_machine z27.2.2.1 ∧ IvX4 z31 ∧ Kp [] [] [] o_me_isles_now z31 ∧ IvX1 z27.2.2.2.2.1 ∧ Kp [] [] [] o_me_court z27.2.2.2.2.1 ∧ IvX5 z32 ∧ Kp [] [] [] o_me_past z32 ∧ IvX5 o_me_pastAhead_2 ∧ Kp [] [] [] o_me_pastAhead o_me_pastAhead_2 ∧ IvX4 o_me_movingAhead_2 ∧ Kp [] [] [] o_me_movingAhead o_me_movingAhead_2 from ⟨hz33_0, hkpz33_me, hI_me_reader_2, hkp_me_reader_2, hI_me_reader_code_2, hkp_me_reader_code_2, hz27_3, hkpz27_me_machine, hz31_0, hkpz31_me_isles_now, hz27_7, hkpz27_me_court, hz32_0, hkpz32_me_past, hI_me_pastAhead_2, hkp_me_pastAhead_2, hI_me_movingAhead_2, hkp_me_movingAhead_2⟩)
                · refine wp_lt (fun x35 ex35 => ?_)
                  have tx35 : x35.toInt = v4_2.toInt + 1 := by rw [ex35]; exact i32_add rfl (by decide) (zk_l hh20.1 (by decide)) (zk_u (zu_e (k := 19) (zl_d c25) t24.2 (by decide)) (by decide))
                  exact ih2 v3_2 x35 z27.2.1 o_me_reader_2 o_me_reader_code_2 z27.2.2.1 z27.2.2.2.1 z27.2.2.2.2.1 z27.2.2.2.2.2 o_me_pastAhead_2 o_me_movingAhead_2 hz27_1 hkpz27_me hI_me_reader_2 hkp_me_reader_2 hI_me_reader_code_2 hkp_me_reader_code_2 hz27_3 hkpz27_me_machine hz27_5 hkpz27_me_isles_now hz27_7 hkpz27_me_court hz27_9 hkpz27_me_past hI_me_pastAhead_2 hkp_me_pastAhead_2 hI_me_movingAhead_2 hkp_me_movingAhead_2 ⟨hh19.1, hh19.2⟩ ⟨(zl_e (zq_r (c := (-1)) tx35 (by decide)) hh20.1 (by decide)), (zu_e (zd_e (c := 0) (Int.le_of_eq tx35) (zl_d c25) (by decide)) t24.2 (by decide))⟩ hh21 hh22 (zms_u (c := 19) hN2 (zq_r (c := (-1)) tx35 (by decide)) (zu_e (zl_d c25) t24.2 (by decide)) (by decide))
          exact lp2 zfu v3_1 (0 : Int32) o_me_1 o_me_reader_1 o_me_reader_code_1 o_me_machine_1 o_me_isles_now_1 o_me_court_1 o_me_past_1 o_me_pastAhead_1 o_me_movingAhead_1 hI_me_1 hkp_me_1 hI_me_reader_1 hkp_me_reader_1 hI_me_reader_code_1 hkp_me_reader_code_1 hI_me_machine_1 hkp_me_machine_1 hI_me_isles_now_1 hkp_me_isles_now_1 hI_me_court_1 hkp_me_court_1 hI_me_past_1 hkp_me_past_1 hI_me_pastAhead_1 hkp_me_pastAhead_1 hI_me_movingAhead_1 hkp_me_movingAhead_1 ⟨hh14.1, (zu_e (zl_d c16) t15.2.1 (by decide))⟩ ⟨by decide, by decide⟩ (zl_d c16) (zd_r (by decide)) (zme_u (l := 0) (Int.le_of_eq tz0.symm) (by decide))
    exact lp1 zfu (0 : Int32) o11 o3 z2.2.2 o_me_machine o_me_isles_now o_me_court o_me_past z8 z7 hIo11 hkpo11 hIo3 hkpo3 hz2_3 hkpz2_me_reader_code hI_me_machine Kp.rf hI_me_isles_now Kp.rf hI_me_court Kp.rf hI_me_past Kp.rf hz8_0 hkpz8_me_pastAhead hz7_0 hkpz7_me_movingAhead ⟨by decide, by decide⟩ (zme_u (l := 0) (Int.le_of_eq tz0.symm) (by decide))

