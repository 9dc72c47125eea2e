set_option maxHeartbeats 4000000 in
set_option maxRecDepth 100000 in
theorem s_X6_readSum (rS : Ob → Ob → Int32 → Option (Int32 × Ob × Ob)) (o_me : Ob) (o_me_code : Ob) (p0 : Int32) (hrS : ∀ (o9 c9 : Ob) (p9 : Int32), IvX6 o9 → IvX0 12 400 c9 → p0.toInt < p9.toInt → 0 ≤ p9.toInt ∧ p9.toInt ≤ 8 → (gI o9 8).toInt ≤ (gI o9 2).toInt + 0 → wp (rS o9 c9 p9) (fun (y : Int32 × Ob × Ob) => (0 ≤ y.1.toInt ∧ y.1.toInt ≤ 1) ∧ IvX6 y.2.1 ∧ Kp [2, 4] [] [] o9 y.2.1 ∧ IvX0 12 400 y.2.2 ∧ Kp [7] [] [] c9 y.2.2 ∧ ((gI y.2.1 8).toInt ≤ (gI y.2.1 2).toInt + 0))) (hI_me : IvX6 o_me) (hI_me_code : IvX0 12 400 o_me_code) (q0 : 0 ≤ p0.toInt ∧ p0.toInt ≤ 8) (r0 : (gI o_me 8).toInt ≤ (gI o_me 2).toInt + 0) : wp (f_X6_readSum rS 12 400 o_me o_me_code p0) (fun (y : Int32 × Ob × Ob) => (0 ≤ y.1.toInt ∧ y.1.toInt ≤ 1) ∧ IvX6 y.2.1 ∧ Kp [2, 4] [] [] o_me y.2.1 ∧ IvX0 12 400 y.2.2 ∧ Kp [7] [] [] o_me_code y.2.2 ∧ ((gI y.2.1 8).toInt ≤ (gI y.2.1 2).toInt + 0)) := by
  have li0 : (0 : Int32).toInt = 0 := by decide
  have li1 : (1 : Int32).toInt = 1 := by decide
  have li2 : (400 : Int32).toInt = 400 := by decide
  have li3 : (43 : Int32).toInt = 43 := by decide
  have li4 : (45 : Int32).toInt = 45 := by decide
  have li5 : (5 : Int32).toInt = 5 := by decide
  have li6 : (6 : Int32).toInt = 6 := by decide
  unfold f_X6_readSum
  have t2 := igX6_8 hI_me
  have t3 := igX6_2 hI_me
  refine wp_bd (s_X6_readTerm rS  o_me o_me_code p0 (fun o c p h1 h2 h3 h4 h5 => hrS o c p h1 h2 (by omega) h4 h5) hI_me hI_me_code  ⟨by omega, by omega⟩ (by omega)) (fun z1 hz1 => ?_)
  obtain ⟨hz1_0, hz1_1, hz1_2, hz1_3, hz1_4, hz1_5⟩ := hz1
  have hkpz1_me : Kp [2, 4] [] [] o_me z1.2.1 := Kp.rf.trans (hz1_2.mono (by decide) (by decide) (by decide))
  have kz1_k4 : (gI z1.2.1 2).toInt = (gI o_me 2).toInt := congrArg Int32.toInt (hz1_2.1 2 (by decide))
  have hkpz1_me_code : Kp [7] [] [] o_me_code z1.2.2 := Kp.rf.trans (hz1_4.mono (by decide) (by decide) (by decide))
  refine wp_if (fun c5 => ?_) (fun c5 => ?_)
  · have c5 := cv_eq (a := z1.1.toInt) (b := 0) rfl (by decide) c5
    refine wp_some ?_
    have t6 := igX6_8 hz1_1
    exact (show (0 ≤ (0 : Int32).toInt ∧ (0 : Int32).toInt ≤ 1) ∧ IvX6 z1.2.1 ∧ Kp [2, 4] [] [] o_me z1.2.1 ∧ IvX0 12 400 z1.2.2 ∧ Kp [7] [] [] o_me_code z1.2.2 ∧ ((gI z1.2.1 8).toInt ≤ (gI z1.2.1 2).toInt + 0) from ⟨⟨by decide, by decide⟩, hz1_1, hkpz1_me, hz1_3, hkpz1_me_code, (by omega)⟩)
  · have c5z := c5
    have c5 := cv_ne (a := z1.1.toInt) (b := 0) rfl (by decide) c5
    have t7 := igX6_8 hz1_1
    have lp1 : ∀ (N1 : Nat) (v1_1 : Int32) (v2_1 : Int32) (o_me_1 : Ob) (o_me_code_1 : Ob), IvX6 o_me_1 → Kp [2, 4] [] [] o_me o_me_1 → IvX0 12 400 o_me_code_1 → Kp [7] [] [] o_me_code o_me_code_1 → (0 ≤ v1_1.toInt ∧ v1_1.toInt ≤ 8) → (0 ≤ v2_1.toInt ∧ v2_1.toInt ≤ 400) → (0 ≤ (gI o_me_1 2).toInt ∧ (gI o_me_1 2).toInt ≤ 400) → (0 ≤ (gI o_me_1 8).toInt ∧ (gI o_me_1 8).toInt ≤ 400) → ((gI o_me_1 8).toInt ≤ (gI o_me_1 2).toInt + 0) → (v1_1.toInt ≤ p0.toInt + 0) → (p0.toInt ≤ v1_1.toInt + 0) → (400 - v2_1.toInt).toNat < N1 → wp (lp_X6_readSum_12 rS 12 400  N1 (v1_1, v2_1, o_me_1, o_me_code_1)) (fun (y : Int32 × Ob × Ob) => (0 ≤ y.1.toInt ∧ y.1.toInt ≤ 1) ∧ IvX6 y.2.1 ∧ Kp [2, 4] [] [] o_me y.2.1 ∧ IvX0 12 400 y.2.2 ∧ Kp [7] [] [] o_me_code y.2.2 ∧ ((gI y.2.1 8).toInt ≤ (gI y.2.1 2).toInt + 0)) := by
      intro N1
      induction N1 with
      | zero =>
        intro v1_1 v2_1 o_me_1 o_me_code_1 hI_me_1 hkp_me_1 hI_me_code_1 hkp_me_code_1 hh10 hh11 hh12 hh13 hh14 hh15 hh16 hN1
        exact absurd hN1 (Nat.not_lt_zero _)
      | succ N1 ihx =>
        have ih1 := ihx
        intro v1_1 v2_1 o_me_1 o_me_code_1 hI_me_1 hkp_me_1 hI_me_code_1 hkp_me_code_1 hh10 hh11 hh12 hh13 hh14 hh15 hh16 hN1
        show wp (lb_X6_readSum_12 rS 12 400  (lp_X6_readSum_12 rS 12 400  N1) v1_1 v2_1 o_me_1 o_me_code_1) (fun (y : Int32 × Ob × Ob) => (0 ≤ y.1.toInt ∧ y.1.toInt ≤ 1) ∧ IvX6 y.2.1 ∧ Kp [2, 4] [] [] o_me y.2.1 ∧ IvX0 12 400 y.2.2 ∧ Kp [7] [] [] o_me_code y.2.2 ∧ ((gI y.2.1 8).toInt ≤ (gI y.2.1 2).toInt + 0))
        unfold lb_X6_readSum_12
        refine wp_if (fun c17 => ?_) (fun c17 => ?_)
        · have c17 := cv_ge (a := v2_1.toInt) (b := 400) rfl (by decide) c17
          refine wp_some ?_
          exact (show (0 ≤ (1 : Int32).toInt ∧ (1 : Int32).toInt ≤ 1) ∧ IvX6 o_me_1 ∧ Kp [2, 4] [] [] o_me o_me_1 ∧ IvX0 12 400 o_me_code_1 ∧ Kp [7] [] [] o_me_code o_me_code_1 ∧ ((gI o_me_1 8).toInt ≤ (gI o_me_1 2).toInt + 0) from ⟨⟨by decide, by decide⟩, hI_me_1, hkp_me_1, hI_me_code_1, hkp_me_code_1, (by omega)⟩)
        · have c17 := cv_nge (a := v2_1.toInt) (b := 400) rfl (by decide) c17
          refine wp_bd (s_X6_isSign   o_me_1 (43 : Int32)  hI_me_1  ) (fun z18 hz18 => ?_)
          have hz18_0 := hz18
          refine wp_if (fun c19 => ?_) (fun c19 => ?_)
          · have c19 := cv_eq (a := z18.toInt) (b := 0) rfl (by decide) c19
            refine wp_bd (s_X6_isSign   o_me_1 (45 : Int32)  hI_me_1  ) (fun z20 hz20 => ?_)
            have hz20_0 := hz20
            refine wp_if (fun c21 => ?_) (fun c21 => ?_)
            · have c21 := cv_eq (a := z20.toInt) (b := 0) rfl (by decide) c21
              refine wp_some ?_
              exact (show (0 ≤ (1 : Int32).toInt ∧ (1 : Int32).toInt ≤ 1) ∧ IvX6 o_me_1 ∧ Kp [2, 4] [] [] o_me o_me_1 ∧ IvX0 12 400 o_me_code_1 ∧ Kp [7] [] [] o_me_code o_me_code_1 ∧ ((gI o_me_1 8).toInt ≤ (gI o_me_1 2).toInt + 0) from ⟨⟨by decide, by decide⟩, hI_me_1, hkp_me_1, hI_me_code_1, hkp_me_code_1, (by omega)⟩)
            · have c21z := c21
              have c21 := cv_ne (a := z20.toInt) (b := 0) rfl (by decide) c21
              unfold bk_X6_readSum_37
              refine wp_bd (s_X6_isSign   o_me_1 (43 : Int32)  hI_me_1  ) (fun z22 hz22 => ?_)
              have hz22_0 := hz22
              refine wp_if (fun c23 => ?_) (fun c23 => ?_)
              · have c23 := cv_eq (a := z22.toInt) (b := 0) rfl (by decide) c23
                obtain ⟨w24, ew24⟩ : ∃ z : Int32, z = (6 : Int32) := ⟨_, rfl⟩
                have tw24 : w24.toInt = 6 := by rw [ew24]; decide
                rw [show bk_X6_readSum_52 rS 12 400 (lp_X6_readSum_12 rS 12 400  N1) v1_1 v2_1 (6 : Int32) o_me_1 o_me_code_1 = bk_X6_readSum_52 rS 12 400 (lp_X6_readSum_12 rS 12 400  N1) v1_1 v2_1 w24 o_me_1 o_me_code_1 from by rw [ew24]]
                unfold bk_X6_readSum_52
                refine wp_bd (s_X6_step   o_me_1  hI_me_1  (by omega)) (fun z25 hz25 => ?_)
                obtain ⟨hz25_0, hz25_1, hz25_2⟩ := hz25
                have hkpz25_me : Kp [2, 4] [] [] o_me z25 := hkp_me_1.trans (hz25_1.mono (by decide) (by decide) (by decide))
                have kz25_k26 : (gI z25 2).toInt = (gI o_me_1 2).toInt := congrArg Int32.toInt (hz25_1.1 2 (by decide))
                have t28 := igX6_8 hz25_0
                refine wp_bd (s_X6_readTerm rS  z25 o_me_code_1 v1_1 (fun o c p h1 h2 h3 h4 h5 => hrS o c p h1 h2 (by omega) h4 h5) hz25_0 hI_me_code_1  ⟨by omega, by omega⟩ (by omega)) (fun z27 hz27 => ?_)
                obtain ⟨hz27_0, hz27_1, hz27_2, hz27_3, hz27_4, hz27_5⟩ := hz27
                have hkpz27_me : Kp [2, 4] [] [] o_me z27.2.1 := hkpz25_me.trans (hz27_2.mono (by decide) (by decide) (by decide))
                have kz27_k29 : (gI z27.2.1 2).toInt = (gI z25 2).toInt := congrArg Int32.toInt (hz27_2.1 2 (by decide))
                have hkpz27_me_code : Kp [7] [] [] o_me_code z27.2.2 := hkp_me_code_1.trans (hz27_4.mono (by decide) (by decide) (by decide))
                refine wp_if (fun c30 => ?_) (fun c30 => ?_)
                · have c30 := cv_eq (a := z27.1.toInt) (b := 0) rfl (by decide) c30
                  refine wp_some ?_
                  have t31 := igX6_8 hz27_1
                  exact (show (0 ≤ (0 : Int32).toInt ∧ (0 : Int32).toInt ≤ 1) ∧ IvX6 z27.2.1 ∧ Kp [2, 4] [] [] o_me z27.2.1 ∧ IvX0 12 400 z27.2.2 ∧ Kp [7] [] [] o_me_code z27.2.2 ∧ ((gI z27.2.1 8).toInt ≤ (gI z27.2.1 2).toInt + 0) from ⟨⟨by decide, by decide⟩, hz27_1, hkpz27_me, hz27_3, hkpz27_me_code, (by omega)⟩)
                · have c30z := c30
                  have c30 := cv_ne (a := z27.1.toInt) (b := 0) rfl (by decide) c30
                  refine wp_bd (s_X0_add  12 400 z27.2.2 w24 (0 : Int32)  hz27_3  ) (fun z32 hz32 => ?_)
                  obtain ⟨hz32_0, hz32_1, hz32_2⟩ := hz32
                  have hkpz32_me_code : Kp [7] [] [] o_me_code z32.2 := hkpz27_me_code.trans (hz32_2.mono (by decide) (by decide) (by decide))
                  refine wp_lt (fun x33 ex33 => ?_)
                  have tx33 : x33.toInt = v2_1.toInt + 1 := by rw [ex33]; exact i32_add rfl (by decide) (by omega) (by omega)
                  have t34 := igX6_8 hz27_1
                  exact ih1 v1_1 x33 z27.2.1 z32.2 hz27_1 hkpz27_me hz32_1 hkpz32_me_code ⟨by omega, by omega⟩ ⟨by omega, by omega⟩ ⟨by omega, by omega⟩ ⟨by omega, by omega⟩ (by omega) (by omega) (by omega) (by omega)
              · have c23z := c23
                have c23 := cv_ne (a := z22.toInt) (b := 0) rfl (by decide) c23
                obtain ⟨w35, ew35⟩ : ∃ z : Int32, z = (5 : Int32) := ⟨_, rfl⟩
                have tw35 : w35.toInt = 5 := by rw [ew35]; decide
                rw [show bk_X6_readSum_52 rS 12 400 (lp_X6_readSum_12 rS 12 400  N1) v1_1 v2_1 (5 : Int32) o_me_1 o_me_code_1 = bk_X6_readSum_52 rS 12 400 (lp_X6_readSum_12 rS 12 400  N1) v1_1 v2_1 w35 o_me_1 o_me_code_1 from by rw [ew35]]
                unfold bk_X6_readSum_52
                refine wp_bd (s_X6_step   o_me_1  hI_me_1  (by omega)) (fun z36 hz36 => ?_)
                obtain ⟨hz36_0, hz36_1, hz36_2⟩ := hz36
                have hkpz36_me : Kp [2, 4] [] [] o_me z36 := hkp_me_1.trans (hz36_1.mono (by decide) (by decide) (by decide))
                have kz36_k37 : (gI z36 2).toInt = (gI o_me_1 2).toInt := congrArg Int32.toInt (hz36_1.1 2 (by decide))
                have t39 := igX6_8 hz36_0
                refine wp_bd (s_X6_readTerm rS  z36 o_me_code_1 v1_1 (fun o c p h1 h2 h3 h4 h5 => hrS o c p h1 h2 (by omega) h4 h5) hz36_0 hI_me_code_1  ⟨by omega, by omega⟩ (by omega)) (fun z38 hz38 => ?_)
                obtain ⟨hz38_0, hz38_1, hz38_2, hz38_3, hz38_4, hz38_5⟩ := hz38
                have hkpz38_me : Kp [2, 4] [] [] o_me z38.2.1 := hkpz36_me.trans (hz38_2.mono (by decide) (by decide) (by decide))
                have kz38_k40 : (gI z38.2.1 2).toInt = (gI z36 2).toInt := congrArg Int32.toInt (hz38_2.1 2 (by decide))
                have hkpz38_me_code : Kp [7] [] [] o_me_code z38.2.2 := hkp_me_code_1.trans (hz38_4.mono (by decide) (by decide) (by decide))
                refine wp_if (fun c41 => ?_) (fun c41 => ?_)
                · have c41 := cv_eq (a := z38.1.toInt) (b := 0) rfl (by decide) c41
                  refine wp_some ?_
                  have t42 := igX6_8 hz38_1
                  exact (show (0 ≤ (0 : Int32).toInt ∧ (0 : Int32).toInt ≤ 1) ∧ IvX6 z38.2.1 ∧ Kp [2, 4] [] [] o_me z38.2.1 ∧ IvX0 12 400 z38.2.2 ∧ Kp [7] [] [] o_me_code z38.2.2 ∧ ((gI z38.2.1 8).toInt ≤ (gI z38.2.1 2).toInt + 0) from ⟨⟨by decide, by decide⟩, hz38_1, hkpz38_me, hz38_3, hkpz38_me_code, (by omega)⟩)
                · have c41z := c41
                  have c41 := cv_ne (a := z38.1.toInt) (b := 0) rfl (by decide) c41
                  refine wp_bd (s_X0_add  12 400 z38.2.2 w35 (0 : Int32)  hz38_3  ) (fun z43 hz43 => ?_)
                  obtain ⟨hz43_0, hz43_1, hz43_2⟩ := hz43
                  have hkpz43_me_code : Kp [7] [] [] o_me_code z43.2 := hkpz38_me_code.trans (hz43_2.mono (by decide) (by decide) (by decide))
                  refine wp_lt (fun x44 ex44 => ?_)
                  have tx44 : x44.toInt = v2_1.toInt + 1 := by rw [ex44]; exact i32_add rfl (by decide) (by omega) (by omega)
                  have t45 := igX6_8 hz38_1
                  exact ih1 v1_1 x44 z38.2.1 z43.2 hz38_1 hkpz38_me hz43_1 hkpz43_me_code ⟨by omega, by omega⟩ ⟨by omega, by omega⟩ ⟨by omega, by omega⟩ ⟨by omega, by omega⟩ (by omega) (by omega) (by omega) (by omega)
          · have c19z := c19
            have c19 := cv_ne (a := z18.toInt) (b := 0) rfl (by decide) c19
            unfold bk_X6_readSum_37
            refine wp_bd (s_X6_isSign   o_me_1 (43 : Int32)  hI_me_1  ) (fun z46 hz46 => ?_)
            have hz46_0 := hz46
            refine wp_if (fun c47 => ?_) (fun c47 => ?_)
            · have c47 := cv_eq (a := z46.toInt) (b := 0) rfl (by decide) c47
              obtain ⟨w48, ew48⟩ : ∃ z : Int32, z = (6 : Int32) := ⟨_, rfl⟩
              have tw48 : w48.toInt = 6 := by rw [ew48]; decide
              rw [show bk_X6_readSum_52 rS 12 400 (lp_X6_readSum_12 rS 12 400  N1) v1_1 v2_1 (6 : Int32) o_me_1 o_me_code_1 = bk_X6_readSum_52 rS 12 400 (lp_X6_readSum_12 rS 12 400  N1) v1_1 v2_1 w48 o_me_1 o_me_code_1 from by rw [ew48]]
              unfold bk_X6_readSum_52
              refine wp_bd (s_X6_step   o_me_1  hI_me_1  (by omega)) (fun z49 hz49 => ?_)
              obtain ⟨hz49_0, hz49_1, hz49_2⟩ := hz49
              have hkpz49_me : Kp [2, 4] [] [] o_me z49 := hkp_me_1.trans (hz49_1.mono (by decide) (by decide) (by decide))
              have kz49_k50 : (gI z49 2).toInt = (gI o_me_1 2).toInt := congrArg Int32.toInt (hz49_1.1 2 (by decide))
              have t52 := igX6_8 hz49_0
              refine wp_bd (s_X6_readTerm rS  z49 o_me_code_1 v1_1 (fun o c p h1 h2 h3 h4 h5 => hrS o c p h1 h2 (by omega) h4 h5) hz49_0 hI_me_code_1  ⟨by omega, by omega⟩ (by omega)) (fun z51 hz51 => ?_)
              obtain ⟨hz51_0, hz51_1, hz51_2, hz51_3, hz51_4, hz51_5⟩ := hz51
              have hkpz51_me : Kp [2, 4] [] [] o_me z51.2.1 := hkpz49_me.trans (hz51_2.mono (by decide) (by decide) (by decide))
              have kz51_k53 : (gI z51.2.1 2).toInt = (gI z49 2).toInt := congrArg Int32.toInt (hz51_2.1 2 (by decide))
              have hkpz51_me_code : Kp [7] [] [] o_me_code z51.2.2 := hkp_me_code_1.trans (hz51_4.mono (by decide) (by decide) (by decide))
              refine wp_if (fun c54 => ?_) (fun c54 => ?_)
              · have c54 := cv_eq (a := z51.1.toInt) (b := 0) rfl (by decide) c54
                refine wp_some ?_
                have t55 := igX6_8 hz51_1
                exact (show (0 ≤ (0 : Int32).toInt ∧ (0 : Int32).toInt ≤ 1) ∧ IvX6 z51.2.1 ∧ Kp [2, 4] [] [] o_me z51.2.1 ∧ IvX0 12 400 z51.2.2 ∧ Kp [7] [] [] o_me_code z51.2.2 ∧ ((gI z51.2.1 8).toInt ≤ (gI z51.2.1 2).toInt + 0) from ⟨⟨by decide, by decide⟩, hz51_1, hkpz51_me, hz51_3, hkpz51_me_code, (by omega)⟩)
              · have c54z := c54
                have c54 := cv_ne (a := z51.1.toInt) (b := 0) rfl (by decide) c54
                refine wp_bd (s_X0_add  12 400 z51.2.2 w48 (0 : Int32)  hz51_3  ) (fun z56 hz56 => ?_)
                obtain ⟨hz56_0, hz56_1, hz56_2⟩ := hz56
                have hkpz56_me_code : Kp [7] [] [] o_me_code z56.2 := hkpz51_me_code.trans (hz56_2.mono (by decide) (by decide) (by decide))
                refine wp_lt (fun x57 ex57 => ?_)
                have tx57 : x57.toInt = v2_1.toInt + 1 := by rw [ex57]; exact i32_add rfl (by decide) (by omega) (by omega)
                have t58 := igX6_8 hz51_1
                exact ih1 v1_1 x57 z51.2.1 z56.2 hz51_1 hkpz51_me hz56_1 hkpz56_me_code ⟨by omega, by omega⟩ ⟨by omega, by omega⟩ ⟨by omega, by omega⟩ ⟨by omega, by omega⟩ (by omega) (by omega) (by omega) (by omega)
            · have c47z := c47
              have c47 := cv_ne (a := z46.toInt) (b := 0) rfl (by decide) c47
              obtain ⟨w59, ew59⟩ : ∃ z : Int32, z = (5 : Int32) := ⟨_, rfl⟩
              have tw59 : w59.toInt = 5 := by rw [ew59]; decide
              rw [show bk_X6_readSum_52 rS 12 400 (lp_X6_readSum_12 rS 12 400  N1) v1_1 v2_1 (5 : Int32) o_me_1 o_me_code_1 = bk_X6_readSum_52 rS 12 400 (lp_X6_readSum_12 rS 12 400  N1) v1_1 v2_1 w59 o_me_1 o_me_code_1 from by rw [ew59]]
              unfold bk_X6_readSum_52
              refine wp_bd (s_X6_step   o_me_1  hI_me_1  (by omega)) (fun z60 hz60 => ?_)
              obtain ⟨hz60_0, hz60_1, hz60_2⟩ := hz60
              have hkpz60_me : Kp [2, 4] [] [] o_me z60 := hkp_me_1.trans (hz60_1.mono (by decide) (by decide) (by decide))
              have kz60_k61 : (gI z60 2).toInt = (gI o_me_1 2).toInt := congrArg Int32.toInt (hz60_1.1 2 (by decide))
              have t63 := igX6_8 hz60_0
              refine wp_bd (s_X6_readTerm rS  z60 o_me_code_1 v1_1 (fun o c p h1 h2 h3 h4 h5 => hrS o c p h1 h2 (by omega) h4 h5) hz60_0 hI_me_code_1  ⟨by omega, by omega⟩ (by omega)) (fun z62 hz62 => ?_)
              obtain ⟨hz62_0, hz62_1, hz62_2, hz62_3, hz62_4, hz62_5⟩ := hz62
              have hkpz62_me : Kp [2, 4] [] [] o_me z62.2.1 := hkpz60_me.trans (hz62_2.mono (by decide) (by decide) (by decide))
              have kz62_k64 : (gI z62.2.1 2).toInt = (gI z60 2).toInt := congrArg Int32.toInt (hz62_2.1 2 (by decide))
              have hkpz62_me_code : Kp [7] [] [] o_me_code z62.2.2 := hkp_me_code_1.trans (hz62_4.mono (by decide) (by decide) (by decide))
              refine wp_if (fun c65 => ?_) (fun c65 => ?_)
              · have c65 := cv_eq (a := z62.1.toInt) (b := 0) rfl (by decide) c65
                refine wp_some ?_
                have t66 := igX6_8 hz62_1
                exact (show (0 ≤ (0 : Int32).toInt ∧ (0 : Int32).toInt ≤ 1) ∧ IvX6 z62.2.1 ∧ Kp [2, 4] [] [] o_me z62.2.1 ∧ IvX0 12 400 z62.2.2 ∧ Kp [7] [] [] o_me_code z62.2.2 ∧ ((gI z62.2.1 8).toInt ≤ (gI z62.2.1 2).toInt + 0) from ⟨⟨by decide, by decide⟩, hz62_1, hkpz62_me, hz62_3, hkpz62_me_code, (by omega)⟩)
              · have c65z := c65
                have c65 := cv_ne (a := z62.1.toInt) (b := 0) rfl (by decide) c65
                refine wp_bd (s_X0_add  12 400 z62.2.2 w59 (0 : Int32)  hz62_3  ) (fun z67 hz67 => ?_)
                obtain ⟨hz67_0, hz67_1, hz67_2⟩ := hz67
                have hkpz67_me_code : Kp [7] [] [] o_me_code z67.2 := hkpz62_me_code.trans (hz67_2.mono (by decide) (by decide) (by decide))
                refine wp_lt (fun x68 ex68 => ?_)
                have tx68 : x68.toInt = v2_1.toInt + 1 := by rw [ex68]; exact i32_add rfl (by decide) (by omega) (by omega)
                have t69 := igX6_8 hz62_1
                exact ih1 v1_1 x68 z62.2.1 z67.2 hz62_1 hkpz62_me hz67_1 hkpz67_me_code ⟨by omega, by omega⟩ ⟨by omega, by omega⟩ ⟨by omega, by omega⟩ ⟨by omega, by omega⟩ (by omega) (by omega) (by omega) (by omega)
    exact lp1 zfu p0 (0 : Int32) z1.2.1 z1.2.2 hz1_1 hkpz1_me hz1_3 hkpz1_me_code ⟨by omega, by omega⟩ ⟨by decide, by decide⟩ ⟨by omega, by omega⟩ ⟨by omega, by omega⟩ (by omega) (by omega) (by omega) (by show _ < 100000; omega)

theorem sy_X6_readSum : ∀ (d : Nat) (o_me : Ob) (o_me_code : Ob) (p0 : Int32), IvX6 o_me → IvX0 12 400 o_me_code → 0 ≤ p0.toInt ∧ p0.toInt ≤ 8 → (gI o_me 8).toInt ≤ (gI o_me 2).toInt + 0 → 9 ≤ p0.toInt + (d : Int) → wp (fx_X6_readSum 12 400 d o_me o_me_code p0) (fun (y : Int32 × Ob × Ob) => (0 ≤ y.1.toInt ∧ y.1.toInt ≤ 1) ∧ IvX6 y.2.1 ∧ Kp [2, 4] [] [] o_me y.2.1 ∧ IvX0 12 400 y.2.2 ∧ Kp [7] [] [] o_me_code y.2.2 ∧ ((gI y.2.1 8).toInt ≤ (gI y.2.1 2).toInt + 0)) := by
  intro d
  induction d with
  | zero =>
    intro o_me o_me_code p0 h1 h2 h3 h4 h5
    exfalso; omega
  | succ d ih =>
    intro o_me o_me_code p0 h1 h2 h3 h4 h5
    exact s_X6_readSum (fx_X6_readSum 12 400 d) o_me o_me_code p0 (fun o c p g1 g2 g3 g4 g5 => (ih o c p g1 g2 g4 g5 (by omega))) h1 h2 h3 h4
theorem sx_X6_readSum (o_me : Ob) (o_me_code : Ob) (p0 : Int32) (hI_me : IvX6 o_me) (hI_me_code : IvX0 12 400 o_me_code) (q0 : 0 ≤ p0.toInt ∧ p0.toInt ≤ 8) (r0 : (gI o_me 8).toInt ≤ (gI o_me 2).toInt + 0) : wp (fx_X6_readSum 12 400 10 o_me o_me_code p0) (fun (y : Int32 × Ob × Ob) => (0 ≤ y.1.toInt ∧ y.1.toInt ≤ 1) ∧ IvX6 y.2.1 ∧ Kp [2, 4] [] [] o_me y.2.1 ∧ IvX0 12 400 y.2.2 ∧ Kp [7] [] [] o_me_code y.2.2 ∧ ((gI y.2.1 8).toInt ≤ (gI y.2.1 2).toInt + 0)) := sy_X6_readSum 10 o_me o_me_code p0 hI_me hI_me_code q0 r0 (by omega)


set_option maxHeartbeats 4000000 in
set_option maxRecDepth 100000 in
theorem s_X6_readPlain (rT : Ob → Ob → Int32 → Option (Int32 × Ob × Ob)) (o_me : Ob) (o_me_code : Ob) (p0 : Int32) (hrT : ∀ (o9 c9 : Ob) (p9 : Int32), IvX6 o9 → IvX0 12 400 c9 → p0.toInt < p9.toInt → 0 ≤ p9.toInt ∧ p9.toInt ≤ 8 → (gI o9 8).toInt ≤ (gI o9 2).toInt + 0 → wp (rT o9 c9 p9) (fun (y : Int32 × Ob × Ob) => (0 ≤ y.1.toInt ∧ y.1.toInt ≤ 1) ∧ IvX6 y.2.1 ∧ Kp [2, 4] [] [] o9 y.2.1 ∧ IvX0 12 400 y.2.2 ∧ Kp [7] [] [] c9 y.2.2 ∧ ((gI y.2.1 8).toInt ≤ (gI y.2.1 2).toInt + 0))) (hI_me : IvX6 o_me) (hI_me_code : IvX0 12 400 o_me_code) (q0 : 0 ≤ p0.toInt ∧ p0.toInt ≤ 8) (r0 : (gI o_me 8).toInt ≤ (gI o_me 2).toInt + 0) : wp (f_X6_readPlain rT 12 400 o_me o_me_code p0) (fun (y : Int32 × Ob × Ob) => (0 ≤ y.1.toInt ∧ y.1.toInt ≤ 1) ∧ IvX6 y.2.1 ∧ Kp [2, 4] [] [] o_me y.2.1 ∧ IvX0 12 400 y.2.2 ∧ Kp [7] [] [] o_me_code y.2.2 ∧ ((gI y.2.1 8).toInt ≤ (gI y.2.1 2).toInt + 0)) := by
  have li0 : (-1 : Int32).toInt = (-1) := by decide
  have li1 : (0 : Int32).toInt = 0 := by decide
  have li2 : (1 : Int32).toInt = 1 := by decide
  have li3 : (10 : Int32).toInt = 10 := by decide
  have li4 : (11 : Int32).toInt = 11 := by decide
  have li5 : (12 : Int32).toInt = 12 := by decide
  have li6 : (2 : Int32).toInt = 2 := by decide
  have li7 : (40 : Int32).toInt = 40 := by decide
  have li8 : (400 : Int32).toInt = 400 := by decide
  have li9 : (41 : Int32).toInt = 41 := by decide
  have li10 : (60 : Int32).toInt = 60 := by decide
  have li11 : (61 : Int32).toInt = 61 := by decide
  have li12 : (62 : Int32).toInt = 62 := by decide
  have li13 : (8 : Int32).toInt = 8 := by decide
  unfold f_X6_readPlain
  have t1 := igX6_2 hI_me
  have t2 := igX6_8 hI_me
  have lp1 : ∀ (N1 : Nat) (v1_1 : Int32) (v2_1 : Int32) (v3_1 : Int32) (o_me_1 : Ob) (o_me_code_1 : Ob), IvX6 o_me_1 → Kp [2, 4] [] [] o_me o_me_1 → IvX0 12 400 o_me_code_1 → Kp [7] [] [] o_me_code o_me_code_1 → (0 ≤ v1_1.toInt ∧ v1_1.toInt ≤ 8) → (0 ≤ v2_1.toInt ∧ v2_1.toInt ≤ 1) → (0 ≤ v3_1.toInt ∧ v3_1.toInt ≤ 400) → (0 ≤ (gI o_me_1 2).toInt ∧ (gI o_me_1 2).toInt ≤ 400) → (0 ≤ (gI o_me_1 8).toInt ∧ (gI o_me_1 8).toInt ≤ 400) → (v2_1.toInt ≤ v3_1.toInt + 0) → ((gI o_me_1 8).toInt ≤ (gI o_me_1 2).toInt + 0) → (v1_1.toInt ≤ p0.toInt + 0) → (p0.toInt ≤ v1_1.toInt + 0) → (400 - v3_1.toInt).toNat < N1 → wp (lp_X6_readPlain_4 rT 12 400  N1 (v1_1, v2_1, v3_1, o_me_1, o_me_code_1)) (fun (y : Int32 × Ob × Ob) => (0 ≤ y.1.toInt ∧ y.1.toInt ≤ 1) ∧ IvX6 y.2.1 ∧ Kp [2, 4] [] [] o_me y.2.1 ∧ IvX0 12 400 y.2.2 ∧ Kp [7] [] [] o_me_code y.2.2 ∧ ((gI y.2.1 8).toInt ≤ (gI y.2.1 2).toInt + 0)) := by
    intro N1
    induction N1 with
    | zero =>
      intro v1_1 v2_1 v3_1 o_me_1 o_me_code_1 hI_me_1 hkp_me_1 hI_me_code_1 hkp_me_code_1 hh5 hh6 hh7 hh8 hh9 hh10 hh11 hh12 hh13 hN1
      exact absurd hN1 (Nat.not_lt_zero _)
    | succ N1 ihx =>
      have ih1 := ihx
      intro v1_1 v2_1 v3_1 o_me_1 o_me_code_1 hI_me_1 hkp_me_1 hI_me_code_1 hkp_me_code_1 hh5 hh6 hh7 hh8 hh9 hh10 hh11 hh12 hh13 hN1
      show wp (lb_X6_readPlain_4 rT 12 400  (lp_X6_readPlain_4 rT 12 400  N1) v1_1 v2_1 v3_1 o_me_1 o_me_code_1) (fun (y : Int32 × Ob × Ob) => (0 ≤ y.1.toInt ∧ y.1.toInt ≤ 1) ∧ IvX6 y.2.1 ∧ Kp [2, 4] [] [] o_me y.2.1 ∧ IvX0 12 400 y.2.2 ∧ Kp [7] [] [] o_me_code y.2.2 ∧ ((gI y.2.1 8).toInt ≤ (gI y.2.1 2).toInt + 0))
      unfold lb_X6_readPlain_4
      refine wp_if (fun c14 => ?_) (fun c14 => ?_)
      · have c14 := cv_ge (a := v3_1.toInt) (b := 400) rfl (by decide) c14
        unfold bk_X6_readPlain_40
        refine wp_bd (s_X6_isSign   o_me_1 (40 : Int32)  hI_me_1  ) (fun z15 hz15 => ?_)
        have hz15_0 := hz15
        refine wp_if (fun c16 => ?_) (fun c16 => ?_)
        · have c16 := cv_eq (a := z15.toInt) (b := 0) rfl (by decide) c16
          refine wp_bd (sx_X6_readSum   o_me_1 o_me_code_1 v1_1  hI_me_1 hI_me_code_1  ⟨by omega, by omega⟩ (by omega)) (fun z17 hz17 => ?_)
          obtain ⟨hz17_0, hz17_1, hz17_2, hz17_3, hz17_4, hz17_5⟩ := hz17
          have hkpz17_me : Kp [2, 4] [] [] o_me z17.2.1 := hkp_me_1.trans (hz17_2.mono (by decide) (by decide) (by decide))
          have kz17_k18 : (gI z17.2.1 2).toInt = (gI o_me_1 2).toInt := congrArg Int32.toInt (hz17_2.1 2 (by decide))
          have hkpz17_me_code : Kp [7] [] [] o_me_code z17.2.2 := hkp_me_code_1.trans (hz17_4.mono (by decide) (by decide) (by decide))
          refine wp_if (fun c19 => ?_) (fun c19 => ?_)
          · have c19 := cv_eq (a := z17.1.toInt) (b := 0) rfl (by decide) c19
            refine wp_some ?_
            have t20 := igX6_8 hz17_1
            exact (show (0 ≤ (0 : Int32).toInt ∧ (0 : Int32).toInt ≤ 1) ∧ IvX6 z17.2.1 ∧ Kp [2, 4] [] [] o_me z17.2.1 ∧ IvX0 12 400 z17.2.2 ∧ Kp [7] [] [] o_me_code z17.2.2 ∧ ((gI z17.2.1 8).toInt ≤ (gI z17.2.1 2).toInt + 0) from ⟨⟨by decide, by decide⟩, hz17_1, hkpz17_me, hz17_3, hkpz17_me_code, (by omega)⟩)
          · have c19z := c19
            have c19 := cv_ne (a := z17.1.toInt) (b := 0) rfl (by decide) c19
            refine wp_bd (s_X6_isSign   z17.2.1 (60 : Int32)  hz17_1  ) (fun z21 hz21 => ?_)
            have hz21_0 := hz21
            refine wp_if (fun c22 => ?_) (fun c22 => ?_)
            · have c22 := cv_eq (a := z21.toInt) (b := 0) rfl (by decide) c22
              refine wp_bd (s_X6_isSign   z17.2.1 (62 : Int32)  hz17_1  ) (fun z23 hz23 => ?_)
              have hz23_0 := hz23
              refine wp_if (fun c24 => ?_) (fun c24 => ?_)
              · have c24 := cv_eq (a := z23.toInt) (b := 0) rfl (by decide) c24
                refine wp_bd (s_X6_isSign   z17.2.1 (61 : Int32)  hz17_1  ) (fun z25 hz25 => ?_)
                have hz25_0 := hz25
                refine wp_if (fun c26 => ?_) (fun c26 => ?_)
                · have c26 := cv_eq (a := z25.toInt) (b := 0) rfl (by decide) c26
                  obtain ⟨w27, ew27⟩ : ∃ z : Int32, z = (-1 : Int32) := ⟨_, rfl⟩
                  have tw27 : w27.toInt = (-1) := by rw [ew27]; decide
                  rw [show bk_X6_readPlain_150 rT 12 400  v1_1 v2_1 (-1 : Int32) z17.2.1 z17.2.2 = bk_X6_readPlain_150 rT 12 400  v1_1 v2_1 w27 z17.2.1 z17.2.2 from by rw [ew27]]
                  unfold bk_X6_readPlain_150
                  refine wp_if (fun c28 => ?_) (fun c28 => ?_)
                  · have c28 := cv_eq (a := w27.toInt) (b := (-1)) rfl (by decide) c28
                    refine wp_bd (s_X6_stop   z17.2.1  hz17_1  ) (fun z29 hz29 => ?_)
                    obtain ⟨hz29_0, hz29_1, hz29_2⟩ := hz29
                    have hkpz29_me : Kp [2, 4] [] [] o_me z29.2 := hkpz17_me.trans (hz29_2.mono (by decide) (by decide) (by decide))
                    have kz29_k30 : (gI z29.2 2).toInt = (gI z17.2.1 2).toInt := congrArg Int32.toInt (hz29_2.1 2 (by decide))
                    have kz29_k31 : (gI z29.2 8).toInt = (gI z17.2.1 8).toInt := congrArg Int32.toInt (hz29_2.1 8 (by decide))
                    refine wp_gd (zbo_of (by omega) (by omega)) ?_
                    refine wp_some ?_
                    have t32 := igX6_8 hz29_1
                    exact (show (0 ≤ z29.1.toInt ∧ z29.1.toInt ≤ 1) ∧ IvX6 z29.2 ∧ Kp [2, 4] [] [] o_me z29.2 ∧ IvX0 12 400 z17.2.2 ∧ Kp [7] [] [] o_me_code z17.2.2 ∧ ((gI z29.2 8).toInt ≤ (gI z29.2 2).toInt + 0) from ⟨⟨by omega, by omega⟩, hz29_1, hkpz29_me, hz17_3, hkpz17_me_code, (by omega)⟩)
                  · have c28 := cv_ne (a := w27.toInt) (b := (-1)) rfl (by decide) c28
                    exfalso; omega
                · have c26z := c26
                  have c26 := cv_ne (a := z25.toInt) (b := 0) rfl (by decide) c26
                  obtain ⟨w33, ew33⟩ : ∃ z : Int32, z = (12 : Int32) := ⟨_, rfl⟩
                  have tw33 : w33.toInt = 12 := by rw [ew33]; decide
                  rw [show bk_X6_readPlain_150 rT 12 400  v1_1 v2_1 (12 : Int32) z17.2.1 z17.2.2 = bk_X6_readPlain_150 rT 12 400  v1_1 v2_1 w33 z17.2.1 z17.2.2 from by rw [ew33]]
                  unfold bk_X6_readPlain_150
                  refine wp_if (fun c34 => ?_) (fun c34 => ?_)
                  · have c34 := cv_eq (a := w33.toInt) (b := (-1)) rfl (by decide) c34
                    exfalso; omega
                  · have c34 := cv_ne (a := w33.toInt) (b := (-1)) rfl (by decide) c34
                    have t36 := igX6_8 hz17_1
                    refine wp_bd (s_X6_step   z17.2.1  hz17_1  (by omega)) (fun z35 hz35 => ?_)
                    obtain ⟨hz35_0, hz35_1, hz35_2⟩ := hz35
                    have hkpz35_me : Kp [2, 4] [] [] o_me z35 := hkpz17_me.trans (hz35_1.mono (by decide) (by decide) (by decide))
                    have kz35_k37 : (gI z35 2).toInt = (gI z17.2.1 2).toInt := congrArg Int32.toInt (hz35_1.1 2 (by decide))
                    have t39 := igX6_8 hz35_0
                    refine wp_bd (sx_X6_readSum   z35 z17.2.2 v1_1  hz35_0 hz17_3  ⟨by omega, by omega⟩ (by omega)) (fun z38 hz38 => ?_)
                    obtain ⟨hz38_0, hz38_1, hz38_2, hz38_3, hz38_4, hz38_5⟩ := hz38
                    have hkpz38_me : Kp [2, 4] [] [] o_me z38.2.1 := hkpz35_me.trans (hz38_2.mono (by decide) (by decide) (by decide))
                    have kz38_k40 : (gI z38.2.1 2).toInt = (gI z35 2).toInt := congrArg Int32.toInt (hz38_2.1 2 (by decide))
                    have hkpz38_me_code : Kp [7] [] [] o_me_code z38.2.2 := hkpz17_me_code.trans (hz38_4.mono (by decide) (by decide) (by decide))
                    refine wp_if (fun c41 => ?_) (fun c41 => ?_)
                    · have c41 := cv_eq (a := z38.1.toInt) (b := 0) rfl (by decide) c41
                      refine wp_some ?_
                      have t42 := igX6_8 hz38_1
                      exact (show (0 ≤ (0 : Int32).toInt ∧ (0 : Int32).toInt ≤ 1) ∧ IvX6 z38.2.1 ∧ Kp [2, 4] [] [] o_me z38.2.1 ∧ IvX0 12 400 z38.2.2 ∧ Kp [7] [] [] o_me_code z38.2.2 ∧ ((gI z38.2.1 8).toInt ≤ (gI z38.2.1 2).toInt + 0) from ⟨⟨by decide, by decide⟩, hz38_1, hkpz38_me, hz38_3, hkpz38_me_code, (by omega)⟩)
                    · have c41z := c41
                      have c41 := cv_ne (a := z38.1.toInt) (b := 0) rfl (by decide) c41
                      refine wp_bd (s_X0_add  12 400 z38.2.2 w33 (0 : Int32)  hz38_3  ) (fun z43 hz43 => ?_)
                      obtain ⟨hz43_0, hz43_1, hz43_2⟩ := hz43
                      have hkpz43_me_code : Kp [7] [] [] o_me_code z43.2 := hkpz38_me_code.trans (hz43_2.mono (by decide) (by decide) (by decide))
                      unfold bk_X6_readPlain_185
                      refine wp_if (fun c44 => ?_) (fun c44 => ?_)
                      · have c44 := cv_eq (a := v2_1.toInt) (b := 0) rfl (by decide) c44
                        refine wp_some ?_
                        have t45 := igX6_8 hz38_1
                        exact (show (0 ≤ (1 : Int32).toInt ∧ (1 : Int32).toInt ≤ 1) ∧ IvX6 z38.2.1 ∧ Kp [2, 4] [] [] o_me z38.2.1 ∧ IvX0 12 400 z43.2 ∧ Kp [7] [] [] o_me_code z43.2 ∧ ((gI z38.2.1 8).toInt ≤ (gI z38.2.1 2).toInt + 0) from ⟨⟨by decide, by decide⟩, hz38_1, hkpz38_me, hz43_1, hkpz43_me_code, (by omega)⟩)
                      · have c44z := c44
                        have c44 := cv_ne (a := v2_1.toInt) (b := 0) rfl (by decide) c44
                        refine wp_bd (s_X0_add  12 400 z43.2 (2 : Int32) (0 : Int32)  hz43_1  ) (fun z46 hz46 => ?_)
                        obtain ⟨hz46_0, hz46_1, hz46_2⟩ := hz46
                        have hkpz46_me_code : Kp [7] [] [] o_me_code z46.2 := hkpz43_me_code.trans (hz46_2.mono (by decide) (by decide) (by decide))
                        refine wp_some ?_
                        have t47 := igX6_8 hz38_1
                        exact (show (0 ≤ (1 : Int32).toInt ∧ (1 : Int32).toInt ≤ 1) ∧ IvX6 z38.2.1 ∧ Kp [2, 4] [] [] o_me z38.2.1 ∧ IvX0 12 400 z46.2 ∧ Kp [7] [] [] o_me_code z46.2 ∧ ((gI z38.2.1 8).toInt ≤ (gI z38.2.1 2).toInt + 0) from ⟨⟨by decide, by decide⟩, hz38_1, hkpz38_me, hz46_1, hkpz46_me_code, (by omega)⟩)
              · have c24z := c24
                have c24 := cv_ne (a := z23.toInt) (b := 0) rfl (by decide) c24
                obtain ⟨w48, ew48⟩ : ∃ z : Int32, z = (11 : Int32) := ⟨_, rfl⟩
                have tw48 : w48.toInt = 11 := by rw [ew48]; decide
                rw [show bk_X6_readPlain_150 rT 12 400  v1_1 v2_1 (11 : Int32) z17.2.1 z17.2.2 = bk_X6_readPlain_150 rT 12 400  v1_1 v2_1 w48 z17.2.1 z17.2.2 from by rw [ew48]]
                unfold bk_X6_readPlain_150
                refine wp_if (fun c49 => ?_) (fun c49 => ?_)
                · have c49 := cv_eq (a := w48.toInt) (b := (-1)) rfl (by decide) c49
                  exfalso; omega
                · have c49 := cv_ne (a := w48.toInt) (b := (-1)) rfl (by decide) c49
                  have t51 := igX6_8 hz17_1
                  refine wp_bd (s_X6_step   z17.2.1  hz17_1  (by omega)) (fun z50 hz50 => ?_)
                  obtain ⟨hz50_0, hz50_1, hz50_2⟩ := hz50
                  have hkpz50_me : Kp [2, 4] [] [] o_me z50 := hkpz17_me.trans (hz50_1.mono (by decide) (by decide) (by decide))
                  have kz50_k52 : (gI z50 2).toInt = (gI z17.2.1 2).toInt := congrArg Int32.toInt (hz50_1.1 2 (by decide))
                  have t54 := igX6_8 hz50_0
                  refine wp_bd (sx_X6_readSum   z50 z17.2.2 v1_1  hz50_0 hz17_3  ⟨by omega, by omega⟩ (by omega)) (fun z53 hz53 => ?_)
                  obtain ⟨hz53_0, hz53_1, hz53_2, hz53_3, hz53_4, hz53_5⟩ := hz53
                  have hkpz53_me : Kp [2, 4] [] [] o_me z53.2.1 := hkpz50_me.trans (hz53_2.mono (by decide) (by decide) (by decide))
                  have kz53_k55 : (gI z53.2.1 2).toInt = (gI z50 2).toInt := congrArg Int32.toInt (hz53_2.1 2 (by decide))
                  have hkpz53_me_code : Kp [7] [] [] o_me_code z53.2.2 := hkpz17_me_code.trans (hz53_4.mono (by decide) (by decide) (by decide))
                  refine wp_if (fun c56 => ?_) (fun c56 => ?_)
                  · have c56 := cv_eq (a := z53.1.toInt) (b := 0) rfl (by decide) c56
                    refine wp_some ?_
                    have t57 := igX6_8 hz53_1
                    exact (show (0 ≤ (0 : Int32).toInt ∧ (0 : Int32).toInt ≤ 1) ∧ IvX6 z53.2.1 ∧ Kp [2, 4] [] [] o_me z53.2.1 ∧ IvX0 12 400 z53.2.2 ∧ Kp [7] [] [] o_me_code z53.2.2 ∧ ((gI z53.2.1 8).toInt ≤ (gI z53.2.1 2).toInt + 0) from ⟨⟨by decide, by decide⟩, hz53_1, hkpz53_me, hz53_3, hkpz53_me_code, (by omega)⟩)
                  · have c56z := c56
                    have c56 := cv_ne (a := z53.1.toInt) (b := 0) rfl (by decide) c56
                    refine wp_bd (s_X0_add  12 400 z53.2.2 w48 (0 : Int32)  hz53_3  ) (fun z58 hz58 => ?_)
                    obtain ⟨hz58_0, hz58_1, hz58_2⟩ := hz58
                    have hkpz58_me_code : Kp [7] [] [] o_me_code z58.2 := hkpz53_me_code.trans (hz58_2.mono (by decide) (by decide) (by decide))
                    unfold bk_X6_readPlain_185
                    refine wp_if (fun c59 => ?_) (fun c59 => ?_)
                    · have c59 := cv_eq (a := v2_1.toInt) (b := 0) rfl (by decide) c59
                      refine wp_some ?_
                      have t60 := igX6_8 hz53_1
                      exact (show (0 ≤ (1 : Int32).toInt ∧ (1 : Int32).toInt ≤ 1) ∧ IvX6 z53.2.1 ∧ Kp [2, 4] [] [] o_me z53.2.1 ∧ IvX0 12 400 z58.2 ∧ Kp [7] [] [] o_me_code z58.2 ∧ ((gI z53.2.1 8).toInt ≤ (gI z53.2.1 2).toInt + 0) from ⟨⟨by decide, by decide⟩, hz53_1, hkpz53_me, hz58_1, hkpz58_me_code, (by omega)⟩)
                    · have c59z := c59
                      have c59 := cv_ne (a := v2_1.toInt) (b := 0) rfl (by decide) c59
                      refine wp_bd (s_X0_add  12 400 z58.2 (2 : Int32) (0 : Int32)  hz58_1  ) (fun z61 hz61 => ?_)
                      obtain ⟨hz61_0, hz61_1, hz61_2⟩ := hz61
                      have hkpz61_me_code : Kp [7] [] [] o_me_code z61.2 := hkpz58_me_code.trans (hz61_2.mono (by decide) (by decide) (by decide))
                      refine wp_some ?_
                      have t62 := igX6_8 hz53_1
                      exact (show (0 ≤ (1 : Int32).toInt ∧ (1 : Int32).toInt ≤ 1) ∧ IvX6 z53.2.1 ∧ Kp [2, 4] [] [] o_me z53.2.1 ∧ IvX0 12 400 z61.2 ∧ Kp [7] [] [] o_me_code z61.2 ∧ ((gI z53.2.1 8).toInt ≤ (gI z53.2.1 2).toInt + 0) from ⟨⟨by decide, by decide⟩, hz53_1, hkpz53_me, hz61_1, hkpz61_me_code, (by omega)⟩)
            · have c22z := c22
              have c22 := cv_ne (a := z21.toInt) (b := 0) rfl (by decide) c22
              obtain ⟨w63, ew63⟩ : ∃ z : Int32, z = (10 : Int32) := ⟨_, rfl⟩
              have tw63 : w63.toInt = 10 := by rw [ew63]; decide
              rw [show bk_X6_readPlain_150 rT 12 400  v1_1 v2_1 (10 : Int32) z17.2.1 z17.2.2 = bk_X6_readPlain_150 rT 12 400  v1_1 v2_1 w63 z17.2.1 z17.2.2 from by rw [ew63]]
              unfold bk_X6_readPlain_150
              refine wp_if (fun c64 => ?_) (fun c64 => ?_)
              · have c64 := cv_eq (a := w63.toInt) (b := (-1)) rfl (by decide) c64
                exfalso; omega
              · have c64 := cv_ne (a := w63.toInt) (b := (-1)) rfl (by decide) c64
                have t66 := igX6_8 hz17_1
                refine wp_bd (s_X6_step   z17.2.1  hz17_1  (by omega)) (fun z65 hz65 => ?_)
                obtain ⟨hz65_0, hz65_1, hz65_2⟩ := hz65
                have hkpz65_me : Kp [2, 4] [] [] o_me z65 := hkpz17_me.trans (hz65_1.mono (by decide) (by decide) (by decide))
                have kz65_k67 : (gI z65 2).toInt = (gI z17.2.1 2).toInt := congrArg Int32.toInt (hz65_1.1 2 (by decide))
                have t69 := igX6_8 hz65_0
                refine wp_bd (sx_X6_readSum   z65 z17.2.2 v1_1  hz65_0 hz17_3  ⟨by omega, by omega⟩ (by omega)) (fun z68 hz68 => ?_)
                obtain ⟨hz68_0, hz68_1, hz68_2, hz68_3, hz68_4, hz68_5⟩ := hz68
                have hkpz68_me : Kp [2, 4] [] [] o_me z68.2.1 := hkpz65_me.trans (hz68_2.mono (by decide) (by decide) (by decide))
                have kz68_k70 : (gI z68.2.1 2).toInt = (gI z65 2).toInt := congrArg Int32.toInt (hz68_2.1 2 (by decide))
                have hkpz68_me_code : Kp [7] [] [] o_me_code z68.2.2 := hkpz17_me_code.trans (hz68_4.mono (by decide) (by decide) (by decide))
                refine wp_if (fun c71 => ?_) (fun c71 => ?_)
                · have c71 := cv_eq (a := z68.1.toInt) (b := 0) rfl (by decide) c71
                  refine wp_some ?_
                  have t72 := igX6_8 hz68_1
                  exact (show (0 ≤ (0 : Int32).toInt ∧ (0 : Int32).toInt ≤ 1) ∧ IvX6 z68.2.1 ∧ Kp [2, 4] [] [] o_me z68.2.1 ∧ IvX0 12 400 z68.2.2 ∧ Kp [7] [] [] o_me_code z68.2.2 ∧ ((gI z68.2.1 8).toInt ≤ (gI z68.2.1 2).toInt + 0) from ⟨⟨by decide, by decide⟩, hz68_1, hkpz68_me, hz68_3, hkpz68_me_code, (by omega)⟩)
                · have c71z := c71
                  have c71 := cv_ne (a := z68.1.toInt) (b := 0) rfl (by decide) c71
                  refine wp_bd (s_X0_add  12 400 z68.2.2 w63 (0 : Int32)  hz68_3  ) (fun z73 hz73 => ?_)
                  obtain ⟨hz73_0, hz73_1, hz73_2⟩ := hz73
                  have hkpz73_me_code : Kp [7] [] [] o_me_code z73.2 := hkpz68_me_code.trans (hz73_2.mono (by decide) (by decide) (by decide))
                  unfold bk_X6_readPlain_185
                  refine wp_if (fun c74 => ?_) (fun c74 => ?_)
                  · have c74 := cv_eq (a := v2_1.toInt) (b := 0) rfl (by decide) c74
                    refine wp_some ?_
                    have t75 := igX6_8 hz68_1
                    exact (show (0 ≤ (1 : Int32).toInt ∧ (1 : Int32).toInt ≤ 1) ∧ IvX6 z68.2.1 ∧ Kp [2, 4] [] [] o_me z68.2.1 ∧ IvX0 12 400 z73.2 ∧ Kp [7] [] [] o_me_code z73.2 ∧ ((gI z68.2.1 8).toInt ≤ (gI z68.2.1 2).toInt + 0) from ⟨⟨by decide, by decide⟩, hz68_1, hkpz68_me, hz73_1, hkpz73_me_code, (by omega)⟩)
                  · have c74z := c74
                    have c74 := cv_ne (a := v2_1.toInt) (b := 0) rfl (by decide) c74
                    refine wp_bd (s_X0_add  12 400 z73.2 (2 : Int32) (0 : Int32)  hz73_1  ) (fun z76 hz76 => ?_)
                    obtain ⟨hz76_0, hz76_1, hz76_2⟩ := hz76
                    have hkpz76_me_code : Kp [7] [] [] o_me_code z76.2 := hkpz73_me_code.trans (hz76_2.mono (by decide) (by decide) (by decide))
                    refine wp_some ?_
                    have t77 := igX6_8 hz68_1
                    exact (show (0 ≤ (1 : Int32).toInt ∧ (1 : Int32).toInt ≤ 1) ∧ IvX6 z68.2.1 ∧ Kp [2, 4] [] [] o_me z68.2.1 ∧ IvX0 12 400 z76.2 ∧ Kp [7] [] [] o_me_code z76.2 ∧ ((gI z68.2.1 8).toInt ≤ (gI z68.2.1 2).toInt + 0) from ⟨⟨by decide, by decide⟩, hz68_1, hkpz68_me, hz76_1, hkpz76_me_code, (by omega)⟩)
        · have c16z := c16
          have c16 := cv_ne (a := z15.toInt) (b := 0) rfl (by decide) c16
          refine wp_if (fun c78 => ?_) (fun c78 => ?_)
          · have c78 := cv_lt (a := v1_1.toInt) (b := 8) rfl (by decide) c78
            refine wp_bd (s_X6_step   o_me_1  hI_me_1  (by omega)) (fun z79 hz79 => ?_)
            obtain ⟨hz79_0, hz79_1, hz79_2⟩ := hz79
            have hkpz79_me : Kp [2, 4] [] [] o_me z79 := hkp_me_1.trans (hz79_1.mono (by decide) (by decide) (by decide))
            have kz79_k80 : (gI z79 2).toInt = (gI o_me_1 2).toInt := congrArg Int32.toInt (hz79_1.1 2 (by decide))
            have t81 : (v1_1 + (1 : Int32)).toInt = v1_1.toInt + 1 := i32_add rfl (by decide) (by omega) (by omega)
            have t83 := igX6_8 hz79_0
            refine wp_bd (hrT   z79 o_me_code_1 (v1_1 + (1 : Int32))  hz79_0 hI_me_code_1 (by omega) ⟨by omega, by omega⟩ (by omega)) (fun z82 hz82 => ?_)
            obtain ⟨hz82_0, hz82_1, hz82_2, hz82_3, hz82_4, hz82_5⟩ := hz82
            have hkpz82_me : Kp [2, 4] [] [] o_me z82.2.1 := hkpz79_me.trans (hz82_2.mono (by decide) (by decide) (by decide))
            have kz82_k84 : (gI z82.2.1 2).toInt = (gI z79 2).toInt := congrArg Int32.toInt (hz82_2.1 2 (by decide))
            have hkpz82_me_code : Kp [7] [] [] o_me_code z82.2.2 := hkp_me_code_1.trans (hz82_4.mono (by decide) (by decide) (by decide))
            refine wp_if (fun c85 => ?_) (fun c85 => ?_)
            · have c85 := cv_eq (a := z82.1.toInt) (b := 0) rfl (by decide) c85
              refine wp_some ?_
              have t86 := igX6_8 hz82_1
              exact (show (0 ≤ (0 : Int32).toInt ∧ (0 : Int32).toInt ≤ 1) ∧ IvX6 z82.2.1 ∧ Kp [2, 4] [] [] o_me z82.2.1 ∧ IvX0 12 400 z82.2.2 ∧ Kp [7] [] [] o_me_code z82.2.2 ∧ ((gI z82.2.1 8).toInt ≤ (gI z82.2.1 2).toInt + 0) from ⟨⟨by decide, by decide⟩, hz82_1, hkpz82_me, hz82_3, hkpz82_me_code, (by omega)⟩)
            · have c85z := c85
              have c85 := cv_ne (a := z82.1.toInt) (b := 0) rfl (by decide) c85
              refine wp_bd (s_X6_isSign   z82.2.1 (41 : Int32)  hz82_1  ) (fun z87 hz87 => ?_)
              have hz87_0 := hz87
              refine wp_if (fun c88 => ?_) (fun c88 => ?_)
              · have c88 := cv_eq (a := z87.toInt) (b := 0) rfl (by decide) c88
                refine wp_bd (s_X6_stop   z82.2.1  hz82_1  ) (fun z89 hz89 => ?_)
                obtain ⟨hz89_0, hz89_1, hz89_2⟩ := hz89
                have hkpz89_me : Kp [2, 4] [] [] o_me z89.2 := hkpz82_me.trans (hz89_2.mono (by decide) (by decide) (by decide))
                have kz89_k90 : (gI z89.2 2).toInt = (gI z82.2.1 2).toInt := congrArg Int32.toInt (hz89_2.1 2 (by decide))
                have kz89_k91 : (gI z89.2 8).toInt = (gI z82.2.1 8).toInt := congrArg Int32.toInt (hz89_2.1 8 (by decide))
                refine wp_gd (zbo_of (by omega) (by omega)) ?_
                refine wp_some ?_
                have t92 := igX6_8 hz89_1
                exact (show (0 ≤ z89.1.toInt ∧ z89.1.toInt ≤ 1) ∧ IvX6 z89.2 ∧ Kp [2, 4] [] [] o_me z89.2 ∧ IvX0 12 400 z82.2.2 ∧ Kp [7] [] [] o_me_code z82.2.2 ∧ ((gI z89.2 8).toInt ≤ (gI z89.2 2).toInt + 0) from ⟨⟨by omega, by omega⟩, hz89_1, hkpz89_me, hz82_3, hkpz82_me_code, (by omega)⟩)
              · have c88z := c88
                have c88 := cv_ne (a := z87.toInt) (b := 0) rfl (by decide) c88
                have t94 := igX6_8 hz82_1
                refine wp_bd (s_X6_step   z82.2.1  hz82_1  (by omega)) (fun z93 hz93 => ?_)
                obtain ⟨hz93_0, hz93_1, hz93_2⟩ := hz93
                have hkpz93_me : Kp [2, 4] [] [] o_me z93 := hkpz82_me.trans (hz93_1.mono (by decide) (by decide) (by decide))
                have kz93_k95 : (gI z93 2).toInt = (gI z82.2.1 2).toInt := congrArg Int32.toInt (hz93_1.1 2 (by decide))
                unfold bk_X6_readPlain_185
                refine wp_if (fun c96 => ?_) (fun c96 => ?_)
                · have c96 := cv_eq (a := v2_1.toInt) (b := 0) rfl (by decide) c96
                  refine wp_some ?_
                  have t97 := igX6_8 hz93_0
                  exact (show (0 ≤ (1 : Int32).toInt ∧ (1 : Int32).toInt ≤ 1) ∧ IvX6 z93 ∧ Kp [2, 4] [] [] o_me z93 ∧ IvX0 12 400 z82.2.2 ∧ Kp [7] [] [] o_me_code z82.2.2 ∧ ((gI z93 8).toInt ≤ (gI z93 2).toInt + 0) from ⟨⟨by decide, by decide⟩, hz93_0, hkpz93_me, hz82_3, hkpz82_me_code, (by omega)⟩)
                · have c96z := c96
                  have c96 := cv_ne (a := v2_1.toInt) (b := 0) rfl (by decide) c96
                  refine wp_bd (s_X0_add  12 400 z82.2.2 (2 : Int32) (0 : Int32)  hz82_3  ) (fun z98 hz98 => ?_)
                  obtain ⟨hz98_0, hz98_1, hz98_2⟩ := hz98
                  have hkpz98_me_code : Kp [7] [] [] o_me_code z98.2 := hkpz82_me_code.trans (hz98_2.mono (by decide) (by decide) (by decide))
                  refine wp_some ?_
                  have t99 := igX6_8 hz93_0
                  exact (show (0 ≤ (1 : Int32).toInt ∧ (1 : Int32).toInt ≤ 1) ∧ IvX6 z93 ∧ Kp [2, 4] [] [] o_me z93 ∧ IvX0 12 400 z98.2 ∧ Kp [7] [] [] o_me_code z98.2 ∧ ((gI z93 8).toInt ≤ (gI z93 2).toInt + 0) from ⟨⟨by decide, by decide⟩, hz93_0, hkpz93_me, hz98_1, hkpz98_me_code, (by omega)⟩)
          · have c78 := cv_nlt (a := v1_1.toInt) (b := 8) rfl (by decide) c78
            refine wp_bd (s_X6_stop   o_me_1  hI_me_1  ) (fun z100 hz100 => ?_)
            obtain ⟨hz100_0, hz100_1, hz100_2⟩ := hz100
            have hkpz100_me : Kp [2, 4] [] [] o_me z100.2 := hkp_me_1.trans (hz100_2.mono (by decide) (by decide) (by decide))
            have kz100_k101 : (gI z100.2 2).toInt = (gI o_me_1 2).toInt := congrArg Int32.toInt (hz100_2.1 2 (by decide))
            have kz100_k102 : (gI z100.2 8).toInt = (gI o_me_1 8).toInt := congrArg Int32.toInt (hz100_2.1 8 (by decide))
            refine wp_gd (zbo_of (by omega) (by omega)) ?_
            refine wp_some ?_
            exact (show (0 ≤ z100.1.toInt ∧ z100.1.toInt ≤ 1) ∧ IvX6 z100.2 ∧ Kp [2, 4] [] [] o_me z100.2 ∧ IvX0 12 400 o_me_code_1 ∧ Kp [7] [] [] o_me_code o_me_code_1 ∧ ((gI z100.2 8).toInt ≤ (gI z100.2 2).toInt + 0) from ⟨⟨by omega, by omega⟩, hz100_1, hkpz100_me, hI_me_code_1, hkp_me_code_1, (by omega)⟩)
      · have c14 := cv_nge (a := v3_1.toInt) (b := 400) rfl (by decide) c14
        refine wp_bd (s_X6_isWord   o_me_1 6  hI_me_1 (by decide) ) (fun z103 hz103 => ?_)
        have hz103_0 := hz103
        refine wp_if (fun c104 => ?_) (fun c104 => ?_)
        · have c104 := cv_eq (a := z103.toInt) (b := 0) rfl (by decide) c104
          unfold bk_X6_readPlain_40
          refine wp_bd (s_X6_isSign   o_me_1 (40 : Int32)  hI_me_1  ) (fun z105 hz105 => ?_)
          have hz105_0 := hz105
          refine wp_if (fun c106 => ?_) (fun c106 => ?_)
          · have c106 := cv_eq (a := z105.toInt) (b := 0) rfl (by decide) c106
            refine wp_bd (sx_X6_readSum   o_me_1 o_me_code_1 v1_1  hI_me_1 hI_me_code_1  ⟨by omega, by omega⟩ (by omega)) (fun z107 hz107 => ?_)
            obtain ⟨hz107_0, hz107_1, hz107_2, hz107_3, hz107_4, hz107_5⟩ := hz107
            have hkpz107_me : Kp [2, 4] [] [] o_me z107.2.1 := hkp_me_1.trans (hz107_2.mono (by decide) (by decide) (by decide))
            have kz107_k108 : (gI z107.2.1 2).toInt = (gI o_me_1 2).toInt := congrArg Int32.toInt (hz107_2.1 2 (by decide))
            have hkpz107_me_code : Kp [7] [] [] o_me_code z107.2.2 := hkp_me_code_1.trans (hz107_4.mono (by decide) (by decide) (by decide))
            refine wp_if (fun c109 => ?_) (fun c109 => ?_)
            · have c109 := cv_eq (a := z107.1.toInt) (b := 0) rfl (by decide) c109
              refine wp_some ?_
              have t110 := igX6_8 hz107_1
              exact (show (0 ≤ (0 : Int32).toInt ∧ (0 : Int32).toInt ≤ 1) ∧ IvX6 z107.2.1 ∧ Kp [2, 4] [] [] o_me z107.2.1 ∧ IvX0 12 400 z107.2.2 ∧ Kp [7] [] [] o_me_code z107.2.2 ∧ ((gI z107.2.1 8).toInt ≤ (gI z107.2.1 2).toInt + 0) from ⟨⟨by decide, by decide⟩, hz107_1, hkpz107_me, hz107_3, hkpz107_me_code, (by omega)⟩)
            · have c109z := c109
              have c109 := cv_ne (a := z107.1.toInt) (b := 0) rfl (by decide) c109
              refine wp_bd (s_X6_isSign   z107.2.1 (60 : Int32)  hz107_1  ) (fun z111 hz111 => ?_)
              have hz111_0 := hz111
              refine wp_if (fun c112 => ?_) (fun c112 => ?_)
              · have c112 := cv_eq (a := z111.toInt) (b := 0) rfl (by decide) c112
                refine wp_bd (s_X6_isSign   z107.2.1 (62 : Int32)  hz107_1  ) (fun z113 hz113 => ?_)
                have hz113_0 := hz113
                refine wp_if (fun c114 => ?_) (fun c114 => ?_)
                · have c114 := cv_eq (a := z113.toInt) (b := 0) rfl (by decide) c114
                  refine wp_bd (s_X6_isSign   z107.2.1 (61 : Int32)  hz107_1  ) (fun z115 hz115 => ?_)
                  have hz115_0 := hz115
                  refine wp_if (fun c116 => ?_) (fun c116 => ?_)
                  · have c116 := cv_eq (a := z115.toInt) (b := 0) rfl (by decide) c116
                    obtain ⟨w117, ew117⟩ : ∃ z : Int32, z = (-1 : Int32) := ⟨_, rfl⟩
                    have tw117 : w117.toInt = (-1) := by rw [ew117]; decide
                    rw [show bk_X6_readPlain_150 rT 12 400  v1_1 v2_1 (-1 : Int32) z107.2.1 z107.2.2 = bk_X6_readPlain_150 rT 12 400  v1_1 v2_1 w117 z107.2.1 z107.2.2 from by rw [ew117]]
                    unfold bk_X6_readPlain_150
                    refine wp_if (fun c118 => ?_) (fun c118 => ?_)
                    · have c118 := cv_eq (a := w117.toInt) (b := (-1)) rfl (by decide) c118
                      refine wp_bd (s_X6_stop   z107.2.1  hz107_1  ) (fun z119 hz119 => ?_)
                      obtain ⟨hz119_0, hz119_1, hz119_2⟩ := hz119
                      have hkpz119_me : Kp [2, 4] [] [] o_me z119.2 := hkpz107_me.trans (hz119_2.mono (by decide) (by decide) (by decide))
                      have kz119_k120 : (gI z119.2 2).toInt = (gI z107.2.1 2).toInt := congrArg Int32.toInt (hz119_2.1 2 (by decide))
                      have kz119_k121 : (gI z119.2 8).toInt = (gI z107.2.1 8).toInt := congrArg Int32.toInt (hz119_2.1 8 (by decide))
                      refine wp_gd (zbo_of (by omega) (by omega)) ?_
                      refine wp_some ?_
                      have t122 := igX6_8 hz119_1
                      exact (show (0 ≤ z119.1.toInt ∧ z119.1.toInt ≤ 1) ∧ IvX6 z119.2 ∧ Kp [2, 4] [] [] o_me z119.2 ∧ IvX0 12 400 z107.2.2 ∧ Kp [7] [] [] o_me_code z107.2.2 ∧ ((gI z119.2 8).toInt ≤ (gI z119.2 2).toInt + 0) from ⟨⟨by omega, by omega⟩, hz119_1, hkpz119_me, hz107_3, hkpz107_me_code, (by omega)⟩)
                    · have c118 := cv_ne (a := w117.toInt) (b := (-1)) rfl (by decide) c118
                      exfalso; omega
                  · have c116z := c116
                    have c116 := cv_ne (a := z115.toInt) (b := 0) rfl (by decide) c116
                    obtain ⟨w123, ew123⟩ : ∃ z : Int32, z = (12 : Int32) := ⟨_, rfl⟩
                    have tw123 : w123.toInt = 12 := by rw [ew123]; decide
                    rw [show bk_X6_readPlain_150 rT 12 400  v1_1 v2_1 (12 : Int32) z107.2.1 z107.2.2 = bk_X6_readPlain_150 rT 12 400  v1_1 v2_1 w123 z107.2.1 z107.2.2 from by rw [ew123]]
                    unfold bk_X6_readPlain_150
                    refine wp_if (fun c124 => ?_) (fun c124 => ?_)
                    · have c124 := cv_eq (a := w123.toInt) (b := (-1)) rfl (by decide) c124
                      exfalso; omega
                    · have c124 := cv_ne (a := w123.toInt) (b := (-1)) rfl (by decide) c124
                      have t126 := igX6_8 hz107_1
                      refine wp_bd (s_X6_step   z107.2.1  hz107_1  (by omega)) (fun z125 hz125 => ?_)
                      obtain ⟨hz125_0, hz125_1, hz125_2⟩ := hz125
                      have hkpz125_me : Kp [2, 4] [] [] o_me z125 := hkpz107_me.trans (hz125_1.mono (by decide) (by decide) (by decide))
                      have kz125_k127 : (gI z125 2).toInt = (gI z107.2.1 2).toInt := congrArg Int32.toInt (hz125_1.1 2 (by decide))
                      have t129 := igX6_8 hz125_0
                      refine wp_bd (sx_X6_readSum   z125 z107.2.2 v1_1  hz125_0 hz107_3  ⟨by omega, by omega⟩ (by omega)) (fun z128 hz128 => ?_)
                      obtain ⟨hz128_0, hz128_1, hz128_2, hz128_3, hz128_4, hz128_5⟩ := hz128
                      have hkpz128_me : Kp [2, 4] [] [] o_me z128.2.1 := hkpz125_me.trans (hz128_2.mono (by decide) (by decide) (by decide))
                      have kz128_k130 : (gI z128.2.1 2).toInt = (gI z125 2).toInt := congrArg Int32.toInt (hz128_2.1 2 (by decide))
                      have hkpz128_me_code : Kp [7] [] [] o_me_code z128.2.2 := hkpz107_me_code.trans (hz128_4.mono (by decide) (by decide) (by decide))
                      refine wp_if (fun c131 => ?_) (fun c131 => ?_)
                      · have c131 := cv_eq (a := z128.1.toInt) (b := 0) rfl (by decide) c131
                        refine wp_some ?_
                        have t132 := igX6_8 hz128_1
                        exact (show (0 ≤ (0 : Int32).toInt ∧ (0 : Int32).toInt ≤ 1) ∧ IvX6 z128.2.1 ∧ Kp [2, 4] [] [] o_me z128.2.1 ∧ IvX0 12 400 z128.2.2 ∧ Kp [7] [] [] o_me_code z128.2.2 ∧ ((gI z128.2.1 8).toInt ≤ (gI z128.2.1 2).toInt + 0) from ⟨⟨by decide, by decide⟩, hz128_1, hkpz128_me, hz128_3, hkpz128_me_code, (by omega)⟩)
                      · have c131z := c131
                        have c131 := cv_ne (a := z128.1.toInt) (b := 0) rfl (by decide) c131
                        refine wp_bd (s_X0_add  12 400 z128.2.2 w123 (0 : Int32)  hz128_3  ) (fun z133 hz133 => ?_)
                        obtain ⟨hz133_0, hz133_1, hz133_2⟩ := hz133
                        have hkpz133_me_code : Kp [7] [] [] o_me_code z133.2 := hkpz128_me_code.trans (hz133_2.mono (by decide) (by decide) (by decide))
                        unfold bk_X6_readPlain_185
                        refine wp_if (fun c134 => ?_) (fun c134 => ?_)
                        · have c134 := cv_eq (a := v2_1.toInt) (b := 0) rfl (by decide) c134
                          refine wp_some ?_
                          have t135 := igX6_8 hz128_1
                          exact (show (0 ≤ (1 : Int32).toInt ∧ (1 : Int32).toInt ≤ 1) ∧ IvX6 z128.2.1 ∧ Kp [2, 4] [] [] o_me z128.2.1 ∧ IvX0 12 400 z133.2 ∧ Kp [7] [] [] o_me_code z133.2 ∧ ((gI z128.2.1 8).toInt ≤ (gI z128.2.1 2).toInt + 0) from ⟨⟨by decide, by decide⟩, hz128_1, hkpz128_me, hz133_1, hkpz133_me_code, (by omega)⟩)
                        · have c134z := c134
                          have c134 := cv_ne (a := v2_1.toInt) (b := 0) rfl (by decide) c134
                          refine wp_bd (s_X0_add  12 400 z133.2 (2 : Int32) (0 : Int32)  hz133_1  ) (fun z136 hz136 => ?_)
                          obtain ⟨hz136_0, hz136_1, hz136_2⟩ := hz136
                          have hkpz136_me_code : Kp [7] [] [] o_me_code z136.2 := hkpz133_me_code.trans (hz136_2.mono (by decide) (by decide) (by decide))
                          refine wp_some ?_
                          have t137 := igX6_8 hz128_1
                          exact (show (0 ≤ (1 : Int32).toInt ∧ (1 : Int32).toInt ≤ 1) ∧ IvX6 z128.2.1 ∧ Kp [2, 4] [] [] o_me z128.2.1 ∧ IvX0 12 400 z136.2 ∧ Kp [7] [] [] o_me_code z136.2 ∧ ((gI z128.2.1 8).toInt ≤ (gI z128.2.1 2).toInt + 0) from ⟨⟨by decide, by decide⟩, hz128_1, hkpz128_me, hz136_1, hkpz136_me_code, (by omega)⟩)
                · have c114z := c114
                  have c114 := cv_ne (a := z113.toInt) (b := 0) rfl (by decide) c114
                  obtain ⟨w138, ew138⟩ : ∃ z : Int32, z = (11 : Int32) := ⟨_, rfl⟩
                  have tw138 : w138.toInt = 11 := by rw [ew138]; decide
                  rw [show bk_X6_readPlain_150 rT 12 400  v1_1 v2_1 (11 : Int32) z107.2.1 z107.2.2 = bk_X6_readPlain_150 rT 12 400  v1_1 v2_1 w138 z107.2.1 z107.2.2 from by rw [ew138]]
                  unfold bk_X6_readPlain_150
                  refine wp_if (fun c139 => ?_) (fun c139 => ?_)
                  · have c139 := cv_eq (a := w138.toInt) (b := (-1)) rfl (by decide) c139
                    exfalso; omega
                  · have c139 := cv_ne (a := w138.toInt) (b := (-1)) rfl (by decide) c139
                    have t141 := igX6_8 hz107_1
                    refine wp_bd (s_X6_step   z107.2.1  hz107_1  (by omega)) (fun z140 hz140 => ?_)
                    obtain ⟨hz140_0, hz140_1, hz140_2⟩ := hz140
                    have hkpz140_me : Kp [2, 4] [] [] o_me z140 := hkpz107_me.trans (hz140_1.mono (by decide) (by decide) (by decide))
                    have kz140_k142 : (gI z140 2).toInt = (gI z107.2.1 2).toInt := congrArg Int32.toInt (hz140_1.1 2 (by decide))
                    have t144 := igX6_8 hz140_0
                    refine wp_bd (sx_X6_readSum   z140 z107.2.2 v1_1  hz140_0 hz107_3  ⟨by omega, by omega⟩ (by omega)) (fun z143 hz143 => ?_)
                    obtain ⟨hz143_0, hz143_1, hz143_2, hz143_3, hz143_4, hz143_5⟩ := hz143
                    have hkpz143_me : Kp [2, 4] [] [] o_me z143.2.1 := hkpz140_me.trans (hz143_2.mono (by decide) (by decide) (by decide))
                    have kz143_k145 : (gI z143.2.1 2).toInt = (gI z140 2).toInt := congrArg Int32.toInt (hz143_2.1 2 (by decide))
                    have hkpz143_me_code : Kp [7] [] [] o_me_code z143.2.2 := hkpz107_me_code.trans (hz143_4.mono (by decide) (by decide) (by decide))
                    refine wp_if (fun c146 => ?_) (fun c146 => ?_)
                    · have c146 := cv_eq (a := z143.1.toInt) (b := 0) rfl (by decide) c146
                      refine wp_some ?_
                      have t147 := igX6_8 hz143_1
                      exact (show (0 ≤ (0 : Int32).toInt ∧ (0 : Int32).toInt ≤ 1) ∧ IvX6 z143.2.1 ∧ Kp [2, 4] [] [] o_me z143.2.1 ∧ IvX0 12 400 z143.2.2 ∧ Kp [7] [] [] o_me_code z143.2.2 ∧ ((gI z143.2.1 8).toInt ≤ (gI z143.2.1 2).toInt + 0) from ⟨⟨by decide, by decide⟩, hz143_1, hkpz143_me, hz143_3, hkpz143_me_code, (by omega)⟩)
                    · have c146z := c146
                      have c146 := cv_ne (a := z143.1.toInt) (b := 0) rfl (by decide) c146
                      refine wp_bd (s_X0_add  12 400 z143.2.2 w138 (0 : Int32)  hz143_3  ) (fun z148 hz148 => ?_)
                      obtain ⟨hz148_0, hz148_1, hz148_2⟩ := hz148
                      have hkpz148_me_code : Kp [7] [] [] o_me_code z148.2 := hkpz143_me_code.trans (hz148_2.mono (by decide) (by decide) (by decide))
                      unfold bk_X6_readPlain_185
                      refine wp_if (fun c149 => ?_) (fun c149 => ?_)
                      · have c149 := cv_eq (a := v2_1.toInt) (b := 0) rfl (by decide) c149
                        refine wp_some ?_
                        have t150 := igX6_8 hz143_1
                        exact (show (0 ≤ (1 : Int32).toInt ∧ (1 : Int32).toInt ≤ 1) ∧ IvX6 z143.2.1 ∧ Kp [2, 4] [] [] o_me z143.2.1 ∧ IvX0 12 400 z148.2 ∧ Kp [7] [] [] o_me_code z148.2 ∧ ((gI z143.2.1 8).toInt ≤ (gI z143.2.1 2).toInt + 0) from ⟨⟨by decide, by decide⟩, hz143_1, hkpz143_me, hz148_1, hkpz148_me_code, (by omega)⟩)
                      · have c149z := c149
                        have c149 := cv_ne (a := v2_1.toInt) (b := 0) rfl (by decide) c149
                        refine wp_bd (s_X0_add  12 400 z148.2 (2 : Int32) (0 : Int32)  hz148_1  ) (fun z151 hz151 => ?_)
                        obtain ⟨hz151_0, hz151_1, hz151_2⟩ := hz151
                        have hkpz151_me_code : Kp [7] [] [] o_me_code z151.2 := hkpz148_me_code.trans (hz151_2.mono (by decide) (by decide) (by decide))
                        refine wp_some ?_
                        have t152 := igX6_8 hz143_1
                        exact (show (0 ≤ (1 : Int32).toInt ∧ (1 : Int32).toInt ≤ 1) ∧ IvX6 z143.2.1 ∧ Kp [2, 4] [] [] o_me z143.2.1 ∧ IvX0 12 400 z151.2 ∧ Kp [7] [] [] o_me_code z151.2 ∧ ((gI z143.2.1 8).toInt ≤ (gI z143.2.1 2).toInt + 0) from ⟨⟨by decide, by decide⟩, hz143_1, hkpz143_me, hz151_1, hkpz151_me_code, (by omega)⟩)
              · have c112z := c112
                have c112 := cv_ne (a := z111.toInt) (b := 0) rfl (by decide) c112
                obtain ⟨w153, ew153⟩ : ∃ z : Int32, z = (10 : Int32) := ⟨_, rfl⟩
                have tw153 : w153.toInt = 10 := by rw [ew153]; decide
                rw [show bk_X6_readPlain_150 rT 12 400  v1_1 v2_1 (10 : Int32) z107.2.1 z107.2.2 = bk_X6_readPlain_150 rT 12 400  v1_1 v2_1 w153 z107.2.1 z107.2.2 from by rw [ew153]]
                unfold bk_X6_readPlain_150
                refine wp_if (fun c154 => ?_) (fun c154 => ?_)
                · have c154 := cv_eq (a := w153.toInt) (b := (-1)) rfl (by decide) c154
                  exfalso; omega
                · have c154 := cv_ne (a := w153.toInt) (b := (-1)) rfl (by decide) c154
                  have t156 := igX6_8 hz107_1
                  refine wp_bd (s_X6_step   z107.2.1  hz107_1  (by omega)) (fun z155 hz155 => ?_)
                  obtain ⟨hz155_0, hz155_1, hz155_2⟩ := hz155
                  have hkpz155_me : Kp [2, 4] [] [] o_me z155 := hkpz107_me.trans (hz155_1.mono (by decide) (by decide) (by decide))
                  have kz155_k157 : (gI z155 2).toInt = (gI z107.2.1 2).toInt := congrArg Int32.toInt (hz155_1.1 2 (by decide))
                  have t159 := igX6_8 hz155_0
                  refine wp_bd (sx_X6_readSum   z155 z107.2.2 v1_1  hz155_0 hz107_3  ⟨by omega, by omega⟩ (by omega)) (fun z158 hz158 => ?_)
                  obtain ⟨hz158_0, hz158_1, hz158_2, hz158_3, hz158_4, hz158_5⟩ := hz158
                  have hkpz158_me : Kp [2, 4] [] [] o_me z158.2.1 := hkpz155_me.trans (hz158_2.mono (by decide) (by decide) (by decide))
                  have kz158_k160 : (gI z158.2.1 2).toInt = (gI z155 2).toInt := congrArg Int32.toInt (hz158_2.1 2 (by decide))
                  have hkpz158_me_code : Kp [7] [] [] o_me_code z158.2.2 := hkpz107_me_code.trans (hz158_4.mono (by decide) (by decide) (by decide))
                  refine wp_if (fun c161 => ?_) (fun c161 => ?_)
                  · have c161 := cv_eq (a := z158.1.toInt) (b := 0) rfl (by decide) c161
                    refine wp_some ?_
                    have t162 := igX6_8 hz158_1
                    exact (show (0 ≤ (0 : Int32).toInt ∧ (0 : Int32).toInt ≤ 1) ∧ IvX6 z158.2.1 ∧ Kp [2, 4] [] [] o_me z158.2.1 ∧ IvX0 12 400 z158.2.2 ∧ Kp [7] [] [] o_me_code z158.2.2 ∧ ((gI z158.2.1 8).toInt ≤ (gI z158.2.1 2).toInt + 0) from ⟨⟨by decide, by decide⟩, hz158_1, hkpz158_me, hz158_3, hkpz158_me_code, (by omega)⟩)
                  · have c161z := c161
                    have c161 := cv_ne (a := z158.1.toInt) (b := 0) rfl (by decide) c161
                    refine wp_bd (s_X0_add  12 400 z158.2.2 w153 (0 : Int32)  hz158_3  ) (fun z163 hz163 => ?_)
                    obtain ⟨hz163_0, hz163_1, hz163_2⟩ := hz163
                    have hkpz163_me_code : Kp [7] [] [] o_me_code z163.2 := hkpz158_me_code.trans (hz163_2.mono (by decide) (by decide) (by decide))
                    unfold bk_X6_readPlain_185
                    refine wp_if (fun c164 => ?_) (fun c164 => ?_)
                    · have c164 := cv_eq (a := v2_1.toInt) (b := 0) rfl (by decide) c164
                      refine wp_some ?_
                      have t165 := igX6_8 hz158_1
                      exact (show (0 ≤ (1 : Int32).toInt ∧ (1 : Int32).toInt ≤ 1) ∧ IvX6 z158.2.1 ∧ Kp [2, 4] [] [] o_me z158.2.1 ∧ IvX0 12 400 z163.2 ∧ Kp [7] [] [] o_me_code z163.2 ∧ ((gI z158.2.1 8).toInt ≤ (gI z158.2.1 2).toInt + 0) from ⟨⟨by decide, by decide⟩, hz158_1, hkpz158_me, hz163_1, hkpz163_me_code, (by omega)⟩)
                    · have c164z := c164
                      have c164 := cv_ne (a := v2_1.toInt) (b := 0) rfl (by decide) c164
                      refine wp_bd (s_X0_add  12 400 z163.2 (2 : Int32) (0 : Int32)  hz163_1  ) (fun z166 hz166 => ?_)
                      obtain ⟨hz166_0, hz166_1, hz166_2⟩ := hz166
                      have hkpz166_me_code : Kp [7] [] [] o_me_code z166.2 := hkpz163_me_code.trans (hz166_2.mono (by decide) (by decide) (by decide))
                      refine wp_some ?_
                      have t167 := igX6_8 hz158_1
                      exact (show (0 ≤ (1 : Int32).toInt ∧ (1 : Int32).toInt ≤ 1) ∧ IvX6 z158.2.1 ∧ Kp [2, 4] [] [] o_me z158.2.1 ∧ IvX0 12 400 z166.2 ∧ Kp [7] [] [] o_me_code z166.2 ∧ ((gI z158.2.1 8).toInt ≤ (gI z158.2.1 2).toInt + 0) from ⟨⟨by decide, by decide⟩, hz158_1, hkpz158_me, hz166_1, hkpz166_me_code, (by omega)⟩)
          · have c106z := c106
            have c106 := cv_ne (a := z105.toInt) (b := 0) rfl (by decide) c106
            refine wp_if (fun c168 => ?_) (fun c168 => ?_)
            · have c168 := cv_lt (a := v1_1.toInt) (b := 8) rfl (by decide) c168
              refine wp_bd (s_X6_step   o_me_1  hI_me_1  (by omega)) (fun z169 hz169 => ?_)
              obtain ⟨hz169_0, hz169_1, hz169_2⟩ := hz169
              have hkpz169_me : Kp [2, 4] [] [] o_me z169 := hkp_me_1.trans (hz169_1.mono (by decide) (by decide) (by decide))
              have kz169_k170 : (gI z169 2).toInt = (gI o_me_1 2).toInt := congrArg Int32.toInt (hz169_1.1 2 (by decide))
              have t171 : (v1_1 + (1 : Int32)).toInt = v1_1.toInt + 1 := i32_add rfl (by decide) (by omega) (by omega)
              have t173 := igX6_8 hz169_0
              refine wp_bd (hrT   z169 o_me_code_1 (v1_1 + (1 : Int32))  hz169_0 hI_me_code_1 (by omega) ⟨by omega, by omega⟩ (by omega)) (fun z172 hz172 => ?_)
              obtain ⟨hz172_0, hz172_1, hz172_2, hz172_3, hz172_4, hz172_5⟩ := hz172
              have hkpz172_me : Kp [2, 4] [] [] o_me z172.2.1 := hkpz169_me.trans (hz172_2.mono (by decide) (by decide) (by decide))
              have kz172_k174 : (gI z172.2.1 2).toInt = (gI z169 2).toInt := congrArg Int32.toInt (hz172_2.1 2 (by decide))
              have hkpz172_me_code : Kp [7] [] [] o_me_code z172.2.2 := hkp_me_code_1.trans (hz172_4.mono (by decide) (by decide) (by decide))
              refine wp_if (fun c175 => ?_) (fun c175 => ?_)
              · have c175 := cv_eq (a := z172.1.toInt) (b := 0) rfl (by decide) c175
                refine wp_some ?_
                have t176 := igX6_8 hz172_1
                exact (show (0 ≤ (0 : Int32).toInt ∧ (0 : Int32).toInt ≤ 1) ∧ IvX6 z172.2.1 ∧ Kp [2, 4] [] [] o_me z172.2.1 ∧ IvX0 12 400 z172.2.2 ∧ Kp [7] [] [] o_me_code z172.2.2 ∧ ((gI z172.2.1 8).toInt ≤ (gI z172.2.1 2).toInt + 0) from ⟨⟨by decide, by decide⟩, hz172_1, hkpz172_me, hz172_3, hkpz172_me_code, (by omega)⟩)
              · have c175z := c175
                have c175 := cv_ne (a := z172.1.toInt) (b := 0) rfl (by decide) c175
                refine wp_bd (s_X6_isSign   z172.2.1 (41 : Int32)  hz172_1  ) (fun z177 hz177 => ?_)
                have hz177_0 := hz177
                refine wp_if (fun c178 => ?_) (fun c178 => ?_)
                · have c178 := cv_eq (a := z177.toInt) (b := 0) rfl (by decide) c178
                  refine wp_bd (s_X6_stop   z172.2.1  hz172_1  ) (fun z179 hz179 => ?_)
                  obtain ⟨hz179_0, hz179_1, hz179_2⟩ := hz179
                  have hkpz179_me : Kp [2, 4] [] [] o_me z179.2 := hkpz172_me.trans (hz179_2.mono (by decide) (by decide) (by decide))
                  have kz179_k180 : (gI z179.2 2).toInt = (gI z172.2.1 2).toInt := congrArg Int32.toInt (hz179_2.1 2 (by decide))
                  have kz179_k181 : (gI z179.2 8).toInt = (gI z172.2.1 8).toInt := congrArg Int32.toInt (hz179_2.1 8 (by decide))
                  refine wp_gd (zbo_of (by omega) (by omega)) ?_
                  refine wp_some ?_
                  have t182 := igX6_8 hz179_1
                  exact (show (0 ≤ z179.1.toInt ∧ z179.1.toInt ≤ 1) ∧ IvX6 z179.2 ∧ Kp [2, 4] [] [] o_me z179.2 ∧ IvX0 12 400 z172.2.2 ∧ Kp [7] [] [] o_me_code z172.2.2 ∧ ((gI z179.2 8).toInt ≤ (gI z179.2 2).toInt + 0) from ⟨⟨by omega, by omega⟩, hz179_1, hkpz179_me, hz172_3, hkpz172_me_code, (by omega)⟩)
                · have c178z := c178
                  have c178 := cv_ne (a := z177.toInt) (b := 0) rfl (by decide) c178
                  have t184 := igX6_8 hz172_1
                  refine wp_bd (s_X6_step   z172.2.1  hz172_1  (by omega)) (fun z183 hz183 => ?_)
                  obtain ⟨hz183_0, hz183_1, hz183_2⟩ := hz183
                  have hkpz183_me : Kp [2, 4] [] [] o_me z183 := hkpz172_me.trans (hz183_1.mono (by decide) (by decide) (by decide))
                  have kz183_k185 : (gI z183 2).toInt = (gI z172.2.1 2).toInt := congrArg Int32.toInt (hz183_1.1 2 (by decide))
                  unfold bk_X6_readPlain_185
                  refine wp_if (fun c186 => ?_) (fun c186 => ?_)
                  · have c186 := cv_eq (a := v2_1.toInt) (b := 0) rfl (by decide) c186
                    refine wp_some ?_
                    have t187 := igX6_8 hz183_0
                    exact (show (0 ≤ (1 : Int32).toInt ∧ (1 : Int32).toInt ≤ 1) ∧ IvX6 z183 ∧ Kp [2, 4] [] [] o_me z183 ∧ IvX0 12 400 z172.2.2 ∧ Kp [7] [] [] o_me_code z172.2.2 ∧ ((gI z183 8).toInt ≤ (gI z183 2).toInt + 0) from ⟨⟨by decide, by decide⟩, hz183_0, hkpz183_me, hz172_3, hkpz172_me_code, (by omega)⟩)
                  · have c186z := c186
                    have c186 := cv_ne (a := v2_1.toInt) (b := 0) rfl (by decide) c186
                    refine wp_bd (s_X0_add  12 400 z172.2.2 (2 : Int32) (0 : Int32)  hz172_3  ) (fun z188 hz188 => ?_)
                    obtain ⟨hz188_0, hz188_1, hz188_2⟩ := hz188
                    have hkpz188_me_code : Kp [7] [] [] o_me_code z188.2 := hkpz172_me_code.trans (hz188_2.mono (by decide) (by decide) (by decide))
                    refine wp_some ?_
                    have t189 := igX6_8 hz183_0
                    exact (show (0 ≤ (1 : Int32).toInt ∧ (1 : Int32).toInt ≤ 1) ∧ IvX6 z183 ∧ Kp [2, 4] [] [] o_me z183 ∧ IvX0 12 400 z188.2 ∧ Kp [7] [] [] o_me_code z188.2 ∧ ((gI z183 8).toInt ≤ (gI z183 2).toInt + 0) from ⟨⟨by decide, by decide⟩, hz183_0, hkpz183_me, hz188_1, hkpz188_me_code, (by omega)⟩)
            · have c168 := cv_nlt (a := v1_1.toInt) (b := 8) rfl (by decide) c168
              refine wp_bd (s_X6_stop   o_me_1  hI_me_1  ) (fun z190 hz190 => ?_)
              obtain ⟨hz190_0, hz190_1, hz190_2⟩ := hz190
              have hkpz190_me : Kp [2, 4] [] [] o_me z190.2 := hkp_me_1.trans (hz190_2.mono (by decide) (by decide) (by decide))
              have kz190_k191 : (gI z190.2 2).toInt = (gI o_me_1 2).toInt := congrArg Int32.toInt (hz190_2.1 2 (by decide))
              have kz190_k192 : (gI z190.2 8).toInt = (gI o_me_1 8).toInt := congrArg Int32.toInt (hz190_2.1 8 (by decide))
              refine wp_gd (zbo_of (by omega) (by omega)) ?_
              refine wp_some ?_
              exact (show (0 ≤ z190.1.toInt ∧ z190.1.toInt ≤ 1) ∧ IvX6 z190.2 ∧ Kp [2, 4] [] [] o_me z190.2 ∧ IvX0 12 400 o_me_code_1 ∧ Kp [7] [] [] o_me_code o_me_code_1 ∧ ((gI z190.2 8).toInt ≤ (gI z190.2 2).toInt + 0) from ⟨⟨by omega, by omega⟩, hz190_1, hkpz190_me, hI_me_code_1, hkp_me_code_1, (by omega)⟩)
        · have c104z := c104
          have c104 := cv_ne (a := z103.toInt) (b := 0) rfl (by decide) c104
          refine wp_bd (s_X6_step   o_me_1  hI_me_1  (by omega)) (fun z193 hz193 => ?_)
          obtain ⟨hz193_0, hz193_1, hz193_2⟩ := hz193
          have hkpz193_me : Kp [2, 4] [] [] o_me z193 := hkp_me_1.trans (hz193_1.mono (by decide) (by decide) (by decide))
          have kz193_k194 : (gI z193 2).toInt = (gI o_me_1 2).toInt := congrArg Int32.toInt (hz193_1.1 2 (by decide))
          refine wp_if (fun c195 => ?_) (fun c195 => ?_)
          · have c195 := cv_eq (a := v2_1.toInt) (b := 0) rfl (by decide) c195
            obtain ⟨w196, ew196⟩ : ∃ z : Int32, z = (1 : Int32) := ⟨_, rfl⟩
            have tw196 : w196.toInt = 1 := by rw [ew196]; decide
            rw [show bk_X6_readPlain_33 rT 12 400 (lp_X6_readPlain_4 rT 12 400  N1) v1_1 v3_1 (1 : Int32) z193 o_me_code_1 = bk_X6_readPlain_33 rT 12 400 (lp_X6_readPlain_4 rT 12 400  N1) v1_1 v3_1 w196 z193 o_me_code_1 from by rw [ew196]]
            unfold bk_X6_readPlain_33
            refine wp_lt (fun x197 ex197 => ?_)
            have tx197 : x197.toInt = v3_1.toInt + 1 := by rw [ex197]; exact i32_add rfl (by decide) (by omega) (by omega)
            have t198 := igX6_8 hz193_0
            exact ih1 v1_1 w196 x197 z193 o_me_code_1 hz193_0 hkpz193_me hI_me_code_1 hkp_me_code_1 ⟨by omega, by omega⟩ ⟨by omega, by omega⟩ ⟨by omega, by omega⟩ ⟨by omega, by omega⟩ ⟨by omega, by omega⟩ (by omega) (by omega) (by omega) (by omega) (by omega)
          · have c195z := c195
            have c195 := cv_ne (a := v2_1.toInt) (b := 0) rfl (by decide) c195
            obtain ⟨w199, ew199⟩ : ∃ z : Int32, z = (0 : Int32) := ⟨_, rfl⟩
            have tw199 : w199.toInt = 0 := by rw [ew199]; decide
            rw [show bk_X6_readPlain_33 rT 12 400 (lp_X6_readPlain_4 rT 12 400  N1) v1_1 v3_1 (0 : Int32) z193 o_me_code_1 = bk_X6_readPlain_33 rT 12 400 (lp_X6_readPlain_4 rT 12 400  N1) v1_1 v3_1 w199 z193 o_me_code_1 from by rw [ew199]]
            unfold bk_X6_readPlain_33
            refine wp_lt (fun x200 ex200 => ?_)
            have tx200 : x200.toInt = v3_1.toInt + 1 := by rw [ex200]; exact i32_add rfl (by decide) (by omega) (by omega)
            have t201 := igX6_8 hz193_0
            exact ih1 v1_1 w199 x200 z193 o_me_code_1 hz193_0 hkpz193_me hI_me_code_1 hkp_me_code_1 ⟨by omega, by omega⟩ ⟨by omega, by omega⟩ ⟨by omega, by omega⟩ ⟨by omega, by omega⟩ ⟨by omega, by omega⟩ (by omega) (by omega) (by omega) (by omega) (by omega)
  exact lp1 zfu p0 (0 : Int32) (0 : Int32) o_me o_me_code hI_me Kp.rf hI_me_code Kp.rf ⟨by omega, by omega⟩ ⟨by decide, by decide⟩ ⟨by decide, by decide⟩ ⟨by omega, by omega⟩ ⟨by omega, by omega⟩ (by omega) (by omega) (by omega) (by omega) (by show _ < 100000; omega)

set_option maxHeartbeats 4000000 in
set_option maxRecDepth 100000 in
theorem s_X0_land (nc_me : Nat) (ns_me : Nat) (o_me : Ob) (p0 : Int32) (hI_me : IvX0 nc_me ns_me o_me)  : wp (f_X0_land  nc_me ns_me o_me p0) (fun (y : Ob) => IvX0 nc_me ns_me y ∧ Kp [7, 8] [] [] o_me y) := by
  unfold f_X0_land
  refine wp_if (fun c1 => ?_) (fun c1 => ?_)
  · have c1 := cv_lt (a := p0.toInt) (b := 0) rfl (by decide) c1
    refine wp_some ?_
    exact (show IvX0 nc_me ns_me o_me ∧ Kp [7, 8] [] [] o_me o_me from ⟨hI_me, Kp.rf⟩)
  · have c1 := cv_nlt (a := p0.toInt) (b := 0) rfl (by decide) c1
    have t2 := igX0_8 hI_me
    refine wp_if (fun c3 => ?_) (fun c3 => ?_)
    · have c3 := cv_ge (a := p0.toInt) (b := (gI o_me 8).toInt) rfl rfl c3
      refine wp_some ?_
      exact (show IvX0 nc_me ns_me o_me ∧ Kp [7, 8] [] [] o_me o_me from ⟨hI_me, Kp.rf⟩)
    · have c3 := cv_nge (a := p0.toInt) (b := (gI o_me 8).toInt) rfl rfl c3
      refine wp_gd (zin_of (m := (ns_me : Int)) rfl (by omega) (by omega)) ?_
      refine wp_lt (fun o4 eo4 => ?_)
      have hIo4 : IvX0 nc_me ns_me o4 := by rw [eo4]; exact hI_me
      have ko4_k5 : (gI o4 8).toInt = (gI o_me 8).toInt := by rw [eo4]; rfl
      have ko4_v : (gA o4 6 p0.toNatClampNeg).toInt = (gI o_me 8).toInt := by rw [eo4]; exact congrArg Int32.toInt (upd_eq (g := gA o_me 6) (i := p0) (v := (gI o_me 8)))
      have hkpo4 : Kp [7, 8] [] [] o_me o4 := Kp.rf.trans (by rw [eo4]; exact Kp.tA (by decide) (by decide))
      refine wp_some ?_
      exact (show IvX0 nc_me ns_me o4 ∧ Kp [7, 8] [] [] o_me o4 from ⟨hIo4, hkpo4⟩)

set_option maxHeartbeats 4000000 in
set_option maxRecDepth 100000 in
theorem s_X6_readBoth (rT : Ob → Ob → Int32 → Option (Int32 × Ob × Ob)) (o_me : Ob) (o_me_code : Ob) (p0 : Int32) (hrT : ∀ (o9 c9 : Ob) (p9 : Int32), IvX6 o9 → IvX0 12 400 c9 → p0.toInt < p9.toInt → 0 ≤ p9.toInt ∧ p9.toInt ≤ 8 → (gI o9 8).toInt ≤ (gI o9 2).toInt + 0 → wp (rT o9 c9 p9) (fun (y : Int32 × Ob × Ob) => (0 ≤ y.1.toInt ∧ y.1.toInt ≤ 1) ∧ IvX6 y.2.1 ∧ Kp [2, 4] [] [] o9 y.2.1 ∧ IvX0 12 400 y.2.2 ∧ Kp [7] [] [] c9 y.2.2 ∧ ((gI y.2.1 8).toInt ≤ (gI y.2.1 2).toInt + 0))) (hI_me : IvX6 o_me) (hI_me_code : IvX0 12 400 o_me_code) (q0 : 0 ≤ p0.toInt ∧ p0.toInt ≤ 8) (r0 : (gI o_me 8).toInt ≤ (gI o_me 2).toInt + 0) : wp (f_X6_readBoth rT 12 400 o_me o_me_code p0) (fun (y : Int32 × Ob × Ob) => (0 ≤ y.1.toInt ∧ y.1.toInt ≤ 1) ∧ IvX6 y.2.1 ∧ Kp [2, 4] [] [] o_me y.2.1 ∧ IvX0 12 400 y.2.2 ∧ Kp [7] [] [] o_me_code y.2.2 ∧ ((gI y.2.1 8).toInt ≤ (gI y.2.1 2).toInt + 0)) := by
  have li0 : (0 : Int32).toInt = 0 := by decide
  have li1 : (1 : Int32).toInt = 1 := by decide
  have li2 : (3 : Int32).toInt = 3 := by decide
  have li3 : (400 : Int32).toInt = 400 := by decide
  unfold f_X6_readBoth
  have t2 := igX6_8 hI_me
  have t3 := igX6_2 hI_me
  refine wp_bd (s_X6_readPlain rT  o_me o_me_code p0 (fun o c p h1 h2 h3 h4 h5 => hrT o c p h1 h2 (by omega) h4 h5) hI_me hI_me_code  ⟨by omega, by omega⟩ (by omega)) (fun z1 hz1 => ?_)
  obtain ⟨hz1_0, hz1_1, hz1_2, hz1_3, hz1_4, hz1_5⟩ := hz1
  have hkpz1_me : Kp [2, 4] [] [] o_me z1.2.1 := Kp.rf.trans (hz1_2.mono (by decide) (by decide) (by decide))
  have kz1_k4 : (gI z1.2.1 2).toInt = (gI o_me 2).toInt := congrArg Int32.toInt (hz1_2.1 2 (by decide))
  have hkpz1_me_code : Kp [7] [] [] o_me_code z1.2.2 := Kp.rf.trans (hz1_4.mono (by decide) (by decide) (by decide))
  refine wp_if (fun c5 => ?_) (fun c5 => ?_)
  · have c5 := cv_eq (a := z1.1.toInt) (b := 0) rfl (by decide) c5
    refine wp_some ?_
    have t6 := igX6_8 hz1_1
    exact (show (0 ≤ (0 : Int32).toInt ∧ (0 : Int32).toInt ≤ 1) ∧ IvX6 z1.2.1 ∧ Kp [2, 4] [] [] o_me z1.2.1 ∧ IvX0 12 400 z1.2.2 ∧ Kp [7] [] [] o_me_code z1.2.2 ∧ ((gI z1.2.1 8).toInt ≤ (gI z1.2.1 2).toInt + 0) from ⟨⟨by decide, by decide⟩, hz1_1, hkpz1_me, hz1_3, hkpz1_me_code, (by omega)⟩)
  · have c5z := c5
    have c5 := cv_ne (a := z1.1.toInt) (b := 0) rfl (by decide) c5
    have t7 := igX6_8 hz1_1
    have lp1 : ∀ (N1 : Nat) (v1_1 : Int32) (v2_1 : Int32) (o_me_1 : Ob) (o_me_code_1 : Ob), IvX6 o_me_1 → Kp [2, 4] [] [] o_me o_me_1 → IvX0 12 400 o_me_code_1 → Kp [7] [] [] o_me_code o_me_code_1 → (0 ≤ v1_1.toInt ∧ v1_1.toInt ≤ 8) → (0 ≤ v2_1.toInt ∧ v2_1.toInt ≤ 400) → (0 ≤ (gI o_me_1 2).toInt ∧ (gI o_me_1 2).toInt ≤ 400) → (0 ≤ (gI o_me_1 8).toInt ∧ (gI o_me_1 8).toInt ≤ 400) → ((gI o_me_1 8).toInt ≤ (gI o_me_1 2).toInt + 0) → (v1_1.toInt ≤ p0.toInt + 0) → (p0.toInt ≤ v1_1.toInt + 0) → (400 - v2_1.toInt).toNat < N1 → wp (lp_X6_readBoth_12 rT 12 400  N1 (v1_1, v2_1, o_me_1, o_me_code_1)) (fun (y : Int32 × Ob × Ob) => (0 ≤ y.1.toInt ∧ y.1.toInt ≤ 1) ∧ IvX6 y.2.1 ∧ Kp [2, 4] [] [] o_me y.2.1 ∧ IvX0 12 400 y.2.2 ∧ Kp [7] [] [] o_me_code y.2.2 ∧ ((gI y.2.1 8).toInt ≤ (gI y.2.1 2).toInt + 0)) := by
      intro N1
      induction N1 with
      | zero =>
        intro v1_1 v2_1 o_me_1 o_me_code_1 hI_me_1 hkp_me_1 hI_me_code_1 hkp_me_code_1 hh10 hh11 hh12 hh13 hh14 hh15 hh16 hN1
        exact absurd hN1 (Nat.not_lt_zero _)
      | succ N1 ihx =>
        have ih1 := ihx
        intro v1_1 v2_1 o_me_1 o_me_code_1 hI_me_1 hkp_me_1 hI_me_code_1 hkp_me_code_1 hh10 hh11 hh12 hh13 hh14 hh15 hh16 hN1
        show wp (lb_X6_readBoth_12 rT 12 400  (lp_X6_readBoth_12 rT 12 400  N1) v1_1 v2_1 o_me_1 o_me_code_1) (fun (y : Int32 × Ob × Ob) => (0 ≤ y.1.toInt ∧ y.1.toInt ≤ 1) ∧ IvX6 y.2.1 ∧ Kp [2, 4] [] [] o_me y.2.1 ∧ IvX0 12 400 y.2.2 ∧ Kp [7] [] [] o_me_code y.2.2 ∧ ((gI y.2.1 8).toInt ≤ (gI y.2.1 2).toInt + 0))
        unfold lb_X6_readBoth_12
        refine wp_if (fun c17 => ?_) (fun c17 => ?_)
        · have c17 := cv_ge (a := v2_1.toInt) (b := 400) rfl (by decide) c17
          refine wp_some ?_
          exact (show (0 ≤ (1 : Int32).toInt ∧ (1 : Int32).toInt ≤ 1) ∧ IvX6 o_me_1 ∧ Kp [2, 4] [] [] o_me o_me_1 ∧ IvX0 12 400 o_me_code_1 ∧ Kp [7] [] [] o_me_code o_me_code_1 ∧ ((gI o_me_1 8).toInt ≤ (gI o_me_1 2).toInt + 0) from ⟨⟨by decide, by decide⟩, hI_me_1, hkp_me_1, hI_me_code_1, hkp_me_code_1, (by omega)⟩)
        · have c17 := cv_nge (a := v2_1.toInt) (b := 400) rfl (by decide) c17
          refine wp_bd (s_X6_isWord   o_me_1 5  hI_me_1 (by decide) ) (fun z18 hz18 => ?_)
          have hz18_0 := hz18
          refine wp_if (fun c19 => ?_) (fun c19 => ?_)
          · have c19 := cv_eq (a := z18.toInt) (b := 0) rfl (by decide) c19
            refine wp_some ?_
            exact (show (0 ≤ (1 : Int32).toInt ∧ (1 : Int32).toInt ≤ 1) ∧ IvX6 o_me_1 ∧ Kp [2, 4] [] [] o_me o_me_1 ∧ IvX0 12 400 o_me_code_1 ∧ Kp [7] [] [] o_me_code o_me_code_1 ∧ ((gI o_me_1 8).toInt ≤ (gI o_me_1 2).toInt + 0) from ⟨⟨by decide, by decide⟩, hI_me_1, hkp_me_1, hI_me_code_1, hkp_me_code_1, (by omega)⟩)
          · have c19z := c19
            have c19 := cv_ne (a := z18.toInt) (b := 0) rfl (by decide) c19
            refine wp_bd (s_X6_step   o_me_1  hI_me_1  (by omega)) (fun z20 hz20 => ?_)
            obtain ⟨hz20_0, hz20_1, hz20_2⟩ := hz20
            have hkpz20_me : Kp [2, 4] [] [] o_me z20 := hkp_me_1.trans (hz20_1.mono (by decide) (by decide) (by decide))
            have kz20_k21 : (gI z20 2).toInt = (gI o_me_1 2).toInt := congrArg Int32.toInt (hz20_1.1 2 (by decide))
            refine wp_bd (s_X0_add  12 400 o_me_code_1 (3 : Int32) (0 : Int32)  hI_me_code_1  ) (fun z22 hz22 => ?_)
            obtain ⟨hz22_0, hz22_1, hz22_2⟩ := hz22
            have hkpz22_me_code : Kp [7] [] [] o_me_code z22.2 := hkp_me_code_1.trans (hz22_2.mono (by decide) (by decide) (by decide))
            have t24 := igX6_8 hz20_0
            refine wp_bd (s_X6_readPlain rT  z20 z22.2 v1_1 (fun o c p h1 h2 h3 h4 h5 => hrT o c p h1 h2 (by omega) h4 h5) hz20_0 hz22_1  ⟨by omega, by omega⟩ (by omega)) (fun z23 hz23 => ?_)
            obtain ⟨hz23_0, hz23_1, hz23_2, hz23_3, hz23_4, hz23_5⟩ := hz23
            have hkpz23_me : Kp [2, 4] [] [] o_me z23.2.1 := hkpz20_me.trans (hz23_2.mono (by decide) (by decide) (by decide))
            have kz23_k25 : (gI z23.2.1 2).toInt = (gI z20 2).toInt := congrArg Int32.toInt (hz23_2.1 2 (by decide))
            have hkpz23_me_code : Kp [7] [] [] o_me_code z23.2.2 := hkpz22_me_code.trans (hz23_4.mono (by decide) (by decide) (by decide))
            refine wp_if (fun c26 => ?_) (fun c26 => ?_)
            · have c26 := cv_eq (a := z23.1.toInt) (b := 0) rfl (by decide) c26
              refine wp_some ?_
              have t27 := igX6_8 hz23_1
              exact (show (0 ≤ (0 : Int32).toInt ∧ (0 : Int32).toInt ≤ 1) ∧ IvX6 z23.2.1 ∧ Kp [2, 4] [] [] o_me z23.2.1 ∧ IvX0 12 400 z23.2.2 ∧ Kp [7] [] [] o_me_code z23.2.2 ∧ ((gI z23.2.1 8).toInt ≤ (gI z23.2.1 2).toInt + 0) from ⟨⟨by decide, by decide⟩, hz23_1, hkpz23_me, hz23_3, hkpz23_me_code, (by omega)⟩)
            · have c26z := c26
              have c26 := cv_ne (a := z23.1.toInt) (b := 0) rfl (by decide) c26
              refine wp_bd (s_X0_land  12 400 z23.2.2 z22.1  hz23_3  ) (fun z28 hz28 => ?_)
              obtain ⟨hz28_0, hz28_1⟩ := hz28
              have hkpz28_me_code : Kp [7] [] [] o_me_code z28 := hkpz23_me_code.trans (hz28_1.mono (by decide) (by decide) (by decide))
              refine wp_lt (fun x29 ex29 => ?_)
              have tx29 : x29.toInt = v2_1.toInt + 1 := by rw [ex29]; exact i32_add rfl (by decide) (by omega) (by omega)
              have t30 := igX6_8 hz23_1
              exact ih1 v1_1 x29 z23.2.1 z28 hz23_1 hkpz23_me hz28_0 hkpz28_me_code ⟨by omega, by omega⟩ ⟨by omega, by omega⟩ ⟨by omega, by omega⟩ ⟨by omega, by omega⟩ (by omega) (by omega) (by omega) (by omega)
    exact lp1 zfu p0 (0 : Int32) z1.2.1 z1.2.2 hz1_1 hkpz1_me hz1_3 hkpz1_me_code ⟨by omega, by omega⟩ ⟨by decide, by decide⟩ ⟨by omega, by omega⟩ ⟨by omega, by omega⟩ (by omega) (by omega) (by omega) (by show _ < 100000; omega)

set_option maxHeartbeats 4000000 in
set_option maxRecDepth 100000 in
theorem s_X6_readTest (rT : Ob → Ob → Int32 → Option (Int32 × Ob × Ob)) (o_me : Ob) (o_me_code : Ob) (p0 : Int32) (hrT : ∀ (o9 c9 : Ob) (p9 : Int32), IvX6 o9 → IvX0 12 400 c9 → p0.toInt < p9.toInt → 0 ≤ p9.toInt ∧ p9.toInt ≤ 8 → (gI o9 8).toInt ≤ (gI o9 2).toInt + 0 → wp (rT o9 c9 p9) (fun (y : Int32 × Ob × Ob) => (0 ≤ y.1.toInt ∧ y.1.toInt ≤ 1) ∧ IvX6 y.2.1 ∧ Kp [2, 4] [] [] o9 y.2.1 ∧ IvX0 12 400 y.2.2 ∧ Kp [7] [] [] c9 y.2.2 ∧ ((gI y.2.1 8).toInt ≤ (gI y.2.1 2).toInt + 0))) (hI_me : IvX6 o_me) (hI_me_code : IvX0 12 400 o_me_code) (q0 : 0 ≤ p0.toInt ∧ p0.toInt ≤ 8) (r0 : (gI o_me 8).toInt ≤ (gI o_me 2).toInt + 0) : wp (f_X6_readTest rT 12 400 o_me o_me_code p0) (fun (y : Int32 × Ob × Ob) => (0 ≤ y.1.toInt ∧ y.1.toInt ≤ 1) ∧ IvX6 y.2.1 ∧ Kp [2, 4] [] [] o_me y.2.1 ∧ IvX0 12 400 y.2.2 ∧ Kp [7] [] [] o_me_code y.2.2 ∧ ((gI y.2.1 8).toInt ≤ (gI y.2.1 2).toInt + 0)) := by
  have li0 : (0 : Int32).toInt = 0 := by decide
  have li1 : (1 : Int32).toInt = 1 := by decide
  have li2 : (4 : Int32).toInt = 4 := by decide
  have li3 : (400 : Int32).toInt = 400 := by decide
  unfold f_X6_readTest
  have t2 := igX6_8 hI_me
  have t3 := igX6_2 hI_me
  refine wp_bd (s_X6_readBoth rT  o_me o_me_code p0 (fun o c p h1 h2 h3 h4 h5 => hrT o c p h1 h2 (by omega) h4 h5) hI_me hI_me_code  ⟨by omega, by omega⟩ (by omega)) (fun z1 hz1 => ?_)
  obtain ⟨hz1_0, hz1_1, hz1_2, hz1_3, hz1_4, hz1_5⟩ := hz1
  have hkpz1_me : Kp [2, 4] [] [] o_me z1.2.1 := Kp.rf.trans (hz1_2.mono (by decide) (by decide) (by decide))
  have kz1_k4 : (gI z1.2.1 2).toInt = (gI o_me 2).toInt := congrArg Int32.toInt (hz1_2.1 2 (by decide))
  have hkpz1_me_code : Kp [7] [] [] o_me_code z1.2.2 := Kp.rf.trans (hz1_4.mono (by decide) (by decide) (by decide))
  refine wp_if (fun c5 => ?_) (fun c5 => ?_)
  · have c5 := cv_eq (a := z1.1.toInt) (b := 0) rfl (by decide) c5
    refine wp_some ?_
    have t6 := igX6_8 hz1_1
    exact (show (0 ≤ (0 : Int32).toInt ∧ (0 : Int32).toInt ≤ 1) ∧ IvX6 z1.2.1 ∧ Kp [2, 4] [] [] o_me z1.2.1 ∧ IvX0 12 400 z1.2.2 ∧ Kp [7] [] [] o_me_code z1.2.2 ∧ ((gI z1.2.1 8).toInt ≤ (gI z1.2.1 2).toInt + 0) from ⟨⟨by decide, by decide⟩, hz1_1, hkpz1_me, hz1_3, hkpz1_me_code, (by omega)⟩)
  · have c5z := c5
    have c5 := cv_ne (a := z1.1.toInt) (b := 0) rfl (by decide) c5
    have t7 := igX6_8 hz1_1
    have lp1 : ∀ (N1 : Nat) (v1_1 : Int32) (v2_1 : Int32) (o_me_1 : Ob) (o_me_code_1 : Ob), IvX6 o_me_1 → Kp [2, 4] [] [] o_me o_me_1 → IvX0 12 400 o_me_code_1 → Kp [7] [] [] o_me_code o_me_code_1 → (0 ≤ v1_1.toInt ∧ v1_1.toInt ≤ 8) → (0 ≤ v2_1.toInt ∧ v2_1.toInt ≤ 400) → (0 ≤ (gI o_me_1 2).toInt ∧ (gI o_me_1 2).toInt ≤ 400) → (0 ≤ (gI o_me_1 8).toInt ∧ (gI o_me_1 8).toInt ≤ 400) → ((gI o_me_1 8).toInt ≤ (gI o_me_1 2).toInt + 0) → (v1_1.toInt ≤ p0.toInt + 0) → (p0.toInt ≤ v1_1.toInt + 0) → (400 - v2_1.toInt).toNat < N1 → wp (lp_X6_readTest_12 rT 12 400  N1 (v1_1, v2_1, o_me_1, o_me_code_1)) (fun (y : Int32 × Ob × Ob) => (0 ≤ y.1.toInt ∧ y.1.toInt ≤ 1) ∧ IvX6 y.2.1 ∧ Kp [2, 4] [] [] o_me y.2.1 ∧ IvX0 12 400 y.2.2 ∧ Kp [7] [] [] o_me_code y.2.2 ∧ ((gI y.2.1 8).toInt ≤ (gI y.2.1 2).toInt + 0)) := by
      intro N1
      induction N1 with
      | zero =>
        intro v1_1 v2_1 o_me_1 o_me_code_1 hI_me_1 hkp_me_1 hI_me_code_1 hkp_me_code_1 hh10 hh11 hh12 hh13 hh14 hh15 hh16 hN1
        exact absurd hN1 (Nat.not_lt_zero _)
      | succ N1 ihx =>
        have ih1 := ihx
        intro v1_1 v2_1 o_me_1 o_me_code_1 hI_me_1 hkp_me_1 hI_me_code_1 hkp_me_code_1 hh10 hh11 hh12 hh13 hh14 hh15 hh16 hN1
        show wp (lb_X6_readTest_12 rT 12 400  (lp_X6_readTest_12 rT 12 400  N1) v1_1 v2_1 o_me_1 o_me_code_1) (fun (y : Int32 × Ob × Ob) => (0 ≤ y.1.toInt ∧ y.1.toInt ≤ 1) ∧ IvX6 y.2.1 ∧ Kp [2, 4] [] [] o_me y.2.1 ∧ IvX0 12 400 y.2.2 ∧ Kp [7] [] [] o_me_code y.2.2 ∧ ((gI y.2.1 8).toInt ≤ (gI y.2.1 2).toInt + 0))
        unfold lb_X6_readTest_12
        refine wp_if (fun c17 => ?_) (fun c17 => ?_)
        · have c17 := cv_ge (a := v2_1.toInt) (b := 400) rfl (by decide) c17
          refine wp_some ?_
          exact (show (0 ≤ (1 : Int32).toInt ∧ (1 : Int32).toInt ≤ 1) ∧ IvX6 o_me_1 ∧ Kp [2, 4] [] [] o_me o_me_1 ∧ IvX0 12 400 o_me_code_1 ∧ Kp [7] [] [] o_me_code o_me_code_1 ∧ ((gI o_me_1 8).toInt ≤ (gI o_me_1 2).toInt + 0) from ⟨⟨by decide, by decide⟩, hI_me_1, hkp_me_1, hI_me_code_1, hkp_me_code_1, (by omega)⟩)
        · have c17 := cv_nge (a := v2_1.toInt) (b := 400) rfl (by decide) c17
          refine wp_bd (s_X6_isWord   o_me_1 4  hI_me_1 (by decide) ) (fun z18 hz18 => ?_)
          have hz18_0 := hz18
          refine wp_if (fun c19 => ?_) (fun c19 => ?_)
          · have c19 := cv_eq (a := z18.toInt) (b := 0) rfl (by decide) c19
            refine wp_some ?_
            exact (show (0 ≤ (1 : Int32).toInt ∧ (1 : Int32).toInt ≤ 1) ∧ IvX6 o_me_1 ∧ Kp [2, 4] [] [] o_me o_me_1 ∧ IvX0 12 400 o_me_code_1 ∧ Kp [7] [] [] o_me_code o_me_code_1 ∧ ((gI o_me_1 8).toInt ≤ (gI o_me_1 2).toInt + 0) from ⟨⟨by decide, by decide⟩, hI_me_1, hkp_me_1, hI_me_code_1, hkp_me_code_1, (by omega)⟩)
          · have c19z := c19
            have c19 := cv_ne (a := z18.toInt) (b := 0) rfl (by decide) c19
            refine wp_bd (s_X6_step   o_me_1  hI_me_1  (by omega)) (fun z20 hz20 => ?_)
            obtain ⟨hz20_0, hz20_1, hz20_2⟩ := hz20
            have hkpz20_me : Kp [2, 4] [] [] o_me z20 := hkp_me_1.trans (hz20_1.mono (by decide) (by decide) (by decide))
            have kz20_k21 : (gI z20 2).toInt = (gI o_me_1 2).toInt := congrArg Int32.toInt (hz20_1.1 2 (by decide))
            refine wp_bd (s_X0_add  12 400 o_me_code_1 (4 : Int32) (0 : Int32)  hI_me_code_1  ) (fun z22 hz22 => ?_)
            obtain ⟨hz22_0, hz22_1, hz22_2⟩ := hz22
            have hkpz22_me_code : Kp [7] [] [] o_me_code z22.2 := hkp_me_code_1.trans (hz22_2.mono (by decide) (by decide) (by decide))
            have t24 := igX6_8 hz20_0
            refine wp_bd (s_X6_readBoth rT  z20 z22.2 v1_1 (fun o c p h1 h2 h3 h4 h5 => hrT o c p h1 h2 (by omega) h4 h5) hz20_0 hz22_1  ⟨by omega, by omega⟩ (by omega)) (fun z23 hz23 => ?_)
            obtain ⟨hz23_0, hz23_1, hz23_2, hz23_3, hz23_4, hz23_5⟩ := hz23
            have hkpz23_me : Kp [2, 4] [] [] o_me z23.2.1 := hkpz20_me.trans (hz23_2.mono (by decide) (by decide) (by decide))
            have kz23_k25 : (gI z23.2.1 2).toInt = (gI z20 2).toInt := congrArg Int32.toInt (hz23_2.1 2 (by decide))
            have hkpz23_me_code : Kp [7] [] [] o_me_code z23.2.2 := hkpz22_me_code.trans (hz23_4.mono (by decide) (by decide) (by decide))
            refine wp_if (fun c26 => ?_) (fun c26 => ?_)
            · have c26 := cv_eq (a := z23.1.toInt) (b := 0) rfl (by decide) c26
              refine wp_some ?_
              have t27 := igX6_8 hz23_1
              exact (show (0 ≤ (0 : Int32).toInt ∧ (0 : Int32).toInt ≤ 1) ∧ IvX6 z23.2.1 ∧ Kp [2, 4] [] [] o_me z23.2.1 ∧ IvX0 12 400 z23.2.2 ∧ Kp [7] [] [] o_me_code z23.2.2 ∧ ((gI z23.2.1 8).toInt ≤ (gI z23.2.1 2).toInt + 0) from ⟨⟨by decide, by decide⟩, hz23_1, hkpz23_me, hz23_3, hkpz23_me_code, (by omega)⟩)
            · have c26z := c26
              have c26 := cv_ne (a := z23.1.toInt) (b := 0) rfl (by decide) c26
              refine wp_bd (s_X0_land  12 400 z23.2.2 z22.1  hz23_3  ) (fun z28 hz28 => ?_)
              obtain ⟨hz28_0, hz28_1⟩ := hz28
              have hkpz28_me_code : Kp [7] [] [] o_me_code z28 := hkpz23_me_code.trans (hz28_1.mono (by decide) (by decide) (by decide))
              refine wp_lt (fun x29 ex29 => ?_)
              have tx29 : x29.toInt = v2_1.toInt + 1 := by rw [ex29]; exact i32_add rfl (by decide) (by omega) (by omega)
              have t30 := igX6_8 hz23_1
              exact ih1 v1_1 x29 z23.2.1 z28 hz23_1 hkpz23_me hz28_0 hkpz28_me_code ⟨by omega, by omega⟩ ⟨by omega, by omega⟩ ⟨by omega, by omega⟩ ⟨by omega, by omega⟩ (by omega) (by omega) (by omega) (by omega)
    exact lp1 zfu p0 (0 : Int32) z1.2.1 z1.2.2 hz1_1 hkpz1_me hz1_3 hkpz1_me_code ⟨by omega, by omega⟩ ⟨by decide, by decide⟩ ⟨by omega, by omega⟩ ⟨by omega, by omega⟩ (by omega) (by omega) (by omega) (by show _ < 100000; omega)

theorem sy_X6_readTest : ∀ (d : Nat) (o_me : Ob) (o_me_code : Ob) (p0 : Int32), IvX6 o_me → IvX0 12 400 o_me_code → 0 ≤ p0.toInt ∧ p0.toInt ≤ 8 → (gI o_me 8).toInt ≤ (gI o_me 2).toInt + 0 → 9 ≤ p0.toInt + (d : Int) → wp (fx_X6_readTest 12 400 d o_me o_me_code p0) (fun (y : Int32 × Ob × Ob) => (0 ≤ y.1.toInt ∧ y.1.toInt ≤ 1) ∧ IvX6 y.2.1 ∧ Kp [2, 4] [] [] o_me y.2.1 ∧ IvX0 12 400 y.2.2 ∧ Kp [7] [] [] o_me_code y.2.2 ∧ ((gI y.2.1 8).toInt ≤ (gI y.2.1 2).toInt + 0)) := by
  intro d
  induction d with
  | zero =>
    intro o_me o_me_code p0 h1 h2 h3 h4 h5
    exfalso; omega
  | succ d ih =>
    intro o_me o_me_code p0 h1 h2 h3 h4 h5
    exact s_X6_readTest (fx_X6_readTest 12 400 d) o_me o_me_code p0 (fun o c p g1 g2 g3 g4 g5 => (ih o c p g1 g2 g4 g5 (by omega))) h1 h2 h3 h4
theorem sx_X6_readTest (o_me : Ob) (o_me_code : Ob) (p0 : Int32) (hI_me : IvX6 o_me) (hI_me_code : IvX0 12 400 o_me_code) (q0 : 0 ≤ p0.toInt ∧ p0.toInt ≤ 8) (r0 : (gI o_me 8).toInt ≤ (gI o_me 2).toInt + 0) : wp (fx_X6_readTest 12 400 10 o_me o_me_code p0) (fun (y : Int32 × Ob × Ob) => (0 ≤ y.1.toInt ∧ y.1.toInt ≤ 1) ∧ IvX6 y.2.1 ∧ Kp [2, 4] [] [] o_me y.2.1 ∧ IvX0 12 400 y.2.2 ∧ Kp [7] [] [] o_me_code y.2.2 ∧ ((gI y.2.1 8).toInt ≤ (gI y.2.1 2).toInt + 0)) := sy_X6_readTest 10 o_me o_me_code p0 hI_me hI_me_code q0 r0 (by omega)

set_option maxHeartbeats 4000000 in
set_option maxRecDepth 100000 in
theorem s_X6_readClause (o_me : Ob) (o_me_code : Ob) (p0 : Int32) (hI_me : IvX6 o_me) (hI_me_code : IvX0 12 400 o_me_code) (r0 : (gI o_me 8).toInt ≤ (gI o_me 2).toInt + 0) : wp (f_X6_readClause  12 400 o_me o_me_code p0) (fun (y : Int32 × Ob × Ob) => (0 ≤ y.1.toInt ∧ y.1.toInt ≤ 1) ∧ IvX6 y.2.1 ∧ Kp [2, 4] [] [] o_me y.2.1 ∧ IvX0 12 400 y.2.2 ∧ Kp [] [] [] o_me_code y.2.2 ∧ ((gI y.2.1 8).toInt ≤ (gI y.2.1 2).toInt + 0)) := by
  have li0 : (-1 : Int32).toInt = (-1) := by decide
  have li1 : (0 : Int32).toInt = 0 := by decide
  have li2 : (1 : Int32).toInt = 1 := by decide
  have li3 : (12 : Int32).toInt = 12 := by decide
  have li4 : (2 : Int32).toInt = 2 := by decide
  have li5 : (20 : Int32).toInt = 20 := by decide
  have li6 : (3 : Int32).toInt = 3 := by decide
  unfold f_X6_readClause
  have t1 := igX6_4 hI_me
  refine wp_if (fun c2 => ?_) (fun c2 => ?_)
  · have c2 := cv_eq (a := (gI o_me 4).toInt) (b := 0) rfl (by decide) c2
    unfold bk_X6_readClause_15
    refine wp_bd (s_X6_wordOf   o_me 1  hI_me (by decide) ) (fun z3 hz3 => ?_)
    refine wp_if (fun c4 => ?_) (fun c4 => ?_)
    · have c4 := cv_eq (a := z3.toInt) (b := (-1)) rfl (by decide) c4
      unfold bk_X6_readClause_34
      refine wp_bd (s_X6_stop   o_me  hI_me  ) (fun z5 hz5 => ?_)
      obtain ⟨hz5_0, hz5_1, hz5_2⟩ := hz5
      have hkpz5_me : Kp [2, 4] [] [] o_me z5.2 := Kp.rf.trans (hz5_2.mono (by decide) (by decide) (by decide))
      have kz5_k6 : (gI z5.2 2).toInt = (gI o_me 2).toInt := congrArg Int32.toInt (hz5_2.1 2 (by decide))
      have kz5_k7 : (gI z5.2 4).toInt = (gI o_me 4).toInt := congrArg Int32.toInt (hz5_2.1 4 (by decide))
      have kz5_k8 : (gI z5.2 8).toInt = (gI o_me 8).toInt := congrArg Int32.toInt (hz5_2.1 8 (by decide))
      refine wp_gd (zbo_of (by omega) (by omega)) ?_
      refine wp_some ?_
      have t9 := igX6_8 hz5_1
      have t10 := igX6_2 hz5_1
      exact (show (0 ≤ z5.1.toInt ∧ z5.1.toInt ≤ 1) ∧ IvX6 z5.2 ∧ Kp [2, 4] [] [] o_me z5.2 ∧ IvX0 12 400 o_me_code ∧ Kp [] [] [] o_me_code o_me_code ∧ ((gI z5.2 8).toInt ≤ (gI z5.2 2).toInt + 0) from ⟨⟨by omega, by omega⟩, hz5_1, hkpz5_me, hI_me_code, Kp.rf, (by omega)⟩)
    · have c4 := cv_ne (a := z3.toInt) (b := (-1)) rfl (by decide) c4
      refine wp_if (fun c11 => ?_) (fun c11 => ?_)
      · have c11 := cv_lt (a := p0.toInt) (b := 0) rfl (by decide) c11
        unfold bk_X6_readClause_34
        refine wp_bd (s_X6_stop   o_me  hI_me  ) (fun z12 hz12 => ?_)
        obtain ⟨hz12_0, hz12_1, hz12_2⟩ := hz12
        have hkpz12_me : Kp [2, 4] [] [] o_me z12.2 := Kp.rf.trans (hz12_2.mono (by decide) (by decide) (by decide))
        have kz12_k13 : (gI z12.2 2).toInt = (gI o_me 2).toInt := congrArg Int32.toInt (hz12_2.1 2 (by decide))
        have kz12_k14 : (gI z12.2 4).toInt = (gI o_me 4).toInt := congrArg Int32.toInt (hz12_2.1 4 (by decide))
        have kz12_k15 : (gI z12.2 8).toInt = (gI o_me 8).toInt := congrArg Int32.toInt (hz12_2.1 8 (by decide))
        refine wp_gd (zbo_of (by omega) (by omega)) ?_
        refine wp_some ?_
        have t16 := igX6_8 hz12_1
        have t17 := igX6_2 hz12_1
        exact (show (0 ≤ z12.1.toInt ∧ z12.1.toInt ≤ 1) ∧ IvX6 z12.2 ∧ Kp [2, 4] [] [] o_me z12.2 ∧ IvX0 12 400 o_me_code ∧ Kp [] [] [] o_me_code o_me_code ∧ ((gI z12.2 8).toInt ≤ (gI z12.2 2).toInt + 0) from ⟨⟨by omega, by omega⟩, hz12_1, hkpz12_me, hI_me_code, Kp.rf, (by omega)⟩)
      · have c11 := cv_nlt (a := p0.toInt) (b := 0) rfl (by decide) c11
        refine wp_if (fun c18 => ?_) (fun c18 => ?_)
        · have c18 := cv_lt (a := p0.toInt) (b := 12) rfl (by decide) c18
          have t20 := igX6_8 hI_me
          have t21 := igX6_2 hI_me
          refine wp_bd (s_X6_step   o_me  hI_me  (by omega)) (fun z19 hz19 => ?_)
          obtain ⟨hz19_0, hz19_1, hz19_2⟩ := hz19
          have hkpz19_me : Kp [2, 4] [] [] o_me z19 := Kp.rf.trans (hz19_1.mono (by decide) (by decide) (by decide))
          have kz19_k22 : (gI z19 2).toInt = (gI o_me 2).toInt := congrArg Int32.toInt (hz19_1.1 2 (by decide))
          have kz19_k23 : (gI z19 4).toInt = (gI o_me 4).toInt := congrArg Int32.toInt (hz19_1.1 4 (by decide))
          refine wp_gd (zin_of (m := 12) rfl (by omega) (by omega)) ?_
          refine wp_lt (fun o24 eo24 => ?_)
          have hIo24 : IvX0 12 400 o24 := by rw [eo24]; exact hI_me_code
          have ko24_v : (gA o24 0 p0.toNatClampNeg).toInt = z3.toInt := by rw [eo24]; exact congrArg Int32.toInt (upd_eq (g := gA o_me_code 0) (i := p0) (v := z3))
          have hkpo24 : Kp [] [] [] o_me_code o24 := Kp.rf.trans (by rw [eo24]; exact Kp.tA (by decide) (by decide))
          refine wp_gd (zin_of (m := 12) rfl (by omega) (by omega)) ?_
          refine wp_lt (fun o25 eo25 => ?_)
          have hIo25 : IvX0 12 400 o25 := by rw [eo25]; exact hIo24
          have ko25_k26 : (gA o25 0 p0.toNatClampNeg).toInt = (gA o24 0 p0.toNatClampNeg).toInt := by rw [eo25]; rfl
          have ko25_v : (gA o25 1 p0.toNatClampNeg).toInt = 1 := by rw [eo25]; exact (congrArg Int32.toInt (upd_eq (g := gA o24 1) (i := p0) (v := (1 : Int32)))).trans (show ((1 : Int32)).toInt = 1 by decide)
          have hkpo25 : Kp [] [] [] o_me_code o25 := hkpo24.trans (by rw [eo25]; exact Kp.tA (by decide) (by decide))
          have t27 := igX0_8 hIo25
          refine wp_gd (zin_of (m := 12) rfl (by omega) (by omega)) ?_
          refine wp_lt (fun o28 eo28 => ?_)
          have hIo28 : IvX0 12 400 o28 := by rw [eo28]; exact hIo25
          have ko28_k29 : (gA o28 0 p0.toNatClampNeg).toInt = (gA o25 0 p0.toNatClampNeg).toInt := by rw [eo28]; rfl
          have ko28_k30 : (gA o28 1 p0.toNatClampNeg).toInt = (gA o25 1 p0.toNatClampNeg).toInt := by rw [eo28]; rfl
          have ko28_k31 : (gI o28 8).toInt = (gI o25 8).toInt := by rw [eo28]; rfl
          have ko28_v : (gA o28 2 p0.toNatClampNeg).toInt = (gI o25 8).toInt := by rw [eo28]; exact congrArg Int32.toInt (upd_eq (g := gA o25 2) (i := p0) (v := (gI o25 8)))
          have hkpo28 : Kp [] [] [] o_me_code o28 := hkpo25.trans (by rw [eo28]; exact Kp.tA (by decide) (by decide))
          refine wp_if (fun c32 => ?_) (fun c32 => ?_)
          · have c32 := cv_eq (a := z3.toInt) (b := 3) rfl (by decide) c32
            unfold bk_X6_readClause_94
            refine wp_gd (zin_of (m := 12) rfl (by omega) (by omega)) ?_
            refine wp_lt (fun o33 eo33 => ?_)
            have hIo33 : IvX0 12 400 o33 := by rw [eo33]; exact hIo28
            have ko33_k34 : (gA o33 0 p0.toNatClampNeg).toInt = (gA o28 0 p0.toNatClampNeg).toInt := by rw [eo33]; rfl
            have ko33_k35 : (gA o33 1 p0.toNatClampNeg).toInt = (gA o28 1 p0.toNatClampNeg).toInt := by rw [eo33]; rfl
            have ko33_k36 : (gA o33 2 p0.toNatClampNeg).toInt = (gA o28 2 p0.toNatClampNeg).toInt := by rw [eo33]; rfl
            have ko33_k37 : (gI o33 8).toInt = (gI o28 8).toInt := by rw [eo33]; rfl
            have ko33_v : (gA o33 3 p0.toNatClampNeg).toInt = (gI o28 8).toInt := by rw [eo33]; exact congrArg Int32.toInt (upd_eq (g := gA o28 3) (i := p0) (v := (gI o28 8)))
            have hkpo33 : Kp [] [] [] o_me_code o33 := hkpo28.trans (by rw [eo33]; exact Kp.tA (by decide) (by decide))
            refine wp_if (fun c38 => ?_) (fun c38 => ?_)
            · have c38 := cv_eq (a := (gI z19 4).toInt) (b := 0) rfl (by decide) c38
              refine wp_bd (s_X6_isWord   z19 2  hz19_0 (by decide) ) (fun z39 hz39 => ?_)
              have hz39_0 := hz39
              refine wp_if (fun c40 => ?_) (fun c40 => ?_)
              · have c40 := cv_eq (a := z39.toInt) (b := 0) rfl (by decide) c40
                unfold bk_X6_readClause_177
                refine wp_bd (s_X6_isWord   z19 3  hz19_0 (by decide) ) (fun z41 hz41 => ?_)
                have hz41_0 := hz41
                refine wp_if (fun c42 => ?_) (fun c42 => ?_)
                · have c42 := cv_eq (a := z41.toInt) (b := 0) rfl (by decide) c42
                  unfold bk_X6_readClause_200
                  refine wp_gd (zin_of (m := 12) rfl (by omega) (by omega)) ?_
                  refine wp_lt (fun o43 eo43 => ?_)
                  have hIo43 : IvX0 12 400 o43 := by rw [eo43]; exact hIo33
                  have ko43_k44 : (gA o43 0 p0.toNatClampNeg).toInt = (gA o33 0 p0.toNatClampNeg).toInt := by rw [eo43]; rfl
                  have ko43_k45 : (gA o43 1 p0.toNatClampNeg).toInt = (gA o33 1 p0.toNatClampNeg).toInt := by rw [eo43]; rfl
                  have ko43_k46 : (gA o43 2 p0.toNatClampNeg).toInt = (gA o33 2 p0.toNatClampNeg).toInt := by rw [eo43]; rfl
                  have ko43_k47 : (gA o43 3 p0.toNatClampNeg).toInt = (gA o33 3 p0.toNatClampNeg).toInt := by rw [eo43]; rfl
                  have ko43_k48 : (gI o43 8).toInt = (gI o33 8).toInt := by rw [eo43]; rfl
                  have ko43_v : (gA o43 4 p0.toNatClampNeg).toInt = (gI o33 8).toInt := by rw [eo43]; exact congrArg Int32.toInt (upd_eq (g := gA o33 4) (i := p0) (v := (gI o33 8)))
                  have hkpo43 : Kp [] [] [] o_me_code o43 := hkpo33.trans (by rw [eo43]; exact Kp.tA (by decide) (by decide))
                  have t49 : (p0 + (1 : Int32)).toInt = p0.toInt + 1 := i32_add rfl (by decide) (by omega) (by omega)
                  refine wp_lt (fun o50 eo50 => ?_)
                  have hIo50 : IvX0 12 400 o50 := by rw [eo50]; exact ipX0_7 hIo43 ⟨by omega, by omega⟩
                  have ko50_k51 : (gA o50 0 p0.toNatClampNeg).toInt = (gA o43 0 p0.toNatClampNeg).toInt := by rw [eo50]; rfl
                  have ko50_k52 : (gA o50 1 p0.toNatClampNeg).toInt = (gA o43 1 p0.toNatClampNeg).toInt := by rw [eo50]; rfl
                  have ko50_k53 : (gA o50 2 p0.toNatClampNeg).toInt = (gA o43 2 p0.toNatClampNeg).toInt := by rw [eo50]; rfl
                  have ko50_k54 : (gA o50 3 p0.toNatClampNeg).toInt = (gA o43 3 p0.toNatClampNeg).toInt := by rw [eo50]; rfl
                  have ko50_k55 : (gA o50 4 p0.toNatClampNeg).toInt = (gA o43 4 p0.toNatClampNeg).toInt := by rw [eo50]; rfl
                  have ko50_k56 : (gI o50 8).toInt = (gI o43 8).toInt := by rw [eo50]; rfl
                  have ko50_v : (gI o50 7).toInt = (p0 + (1 : Int32)).toInt := by rw [eo50]; rfl
                  have hkpo50 : Kp [] [] [] o_me_code o50 := hkpo43.trans (by rw [eo50]; exact Kp.sI (by decide))
                  refine wp_some ?_
                  have t57 := igX6_8 hz19_0
                  exact (show (0 ≤ (1 : Int32).toInt ∧ (1 : Int32).toInt ≤ 1) ∧ IvX6 z19 ∧ Kp [2, 4] [] [] o_me z19 ∧ IvX0 12 400 o50 ∧ Kp [] [] [] o_me_code o50 ∧ ((gI z19 8).toInt ≤ (gI z19 2).toInt + 0) from ⟨⟨by decide, by decide⟩, hz19_0, hkpz19_me, hIo50, hkpo50, (by omega)⟩)
                · have c42z := c42
                  have c42 := cv_ne (a := z41.toInt) (b := 0) rfl (by decide) c42
                  have t59 := igX6_8 hz19_0
                  refine wp_bd (s_X6_step   z19  hz19_0  (by omega)) (fun z58 hz58 => ?_)
                  obtain ⟨hz58_0, hz58_1, hz58_2⟩ := hz58
                  have hkpz58_me : Kp [2, 4] [] [] o_me z58 := hkpz19_me.trans (hz58_1.mono (by decide) (by decide) (by decide))
                  have kz58_k60 : (gI z58 2).toInt = (gI z19 2).toInt := congrArg Int32.toInt (hz58_1.1 2 (by decide))
                  have kz58_k61 : (gI z58 4).toInt = (gI z19 4).toInt := congrArg Int32.toInt (hz58_1.1 4 (by decide))
                  have t63 := igX6_8 hz58_0
                  refine wp_bd (sx_X6_readTest   z58 o33 (0 : Int32)  hz58_0 hIo33  ⟨by decide, by decide⟩ (by omega)) (fun z62 hz62 => ?_)
                  obtain ⟨hz62_0, hz62_1, hz62_2, hz62_3, hz62_4, hz62_5⟩ := hz62
                  have hkpz62_me : Kp [2, 4] [] [] o_me z62.2.1 := hkpz58_me.trans (hz62_2.mono (by decide) (by decide) (by decide))
                  have kz62_k64 : (gI z62.2.1 2).toInt = (gI z58 2).toInt := congrArg Int32.toInt (hz62_2.1 2 (by decide))
                  have kz62_k65 : (gI z62.2.1 4).toInt = (gI z58 4).toInt := congrArg Int32.toInt (hz62_2.1 4 (by decide))
                  have hkpz62_me_code : Kp [] [] [] o_me_code z62.2.2 := hkpo33.trans (hz62_4.mono (by decide) (by decide) (by decide))
                  refine wp_if (fun c66 => ?_) (fun c66 => ?_)
                  · have c66 := cv_eq (a := z62.1.toInt) (b := 0) rfl (by decide) c66
                    refine wp_some ?_
                    have t67 := igX6_8 hz62_1
                    exact (show (0 ≤ (0 : Int32).toInt ∧ (0 : Int32).toInt ≤ 1) ∧ IvX6 z62.2.1 ∧ Kp [2, 4] [] [] o_me z62.2.1 ∧ IvX0 12 400 z62.2.2 ∧ Kp [] [] [] o_me_code z62.2.2 ∧ ((gI z62.2.1 8).toInt ≤ (gI z62.2.1 2).toInt + 0) from ⟨⟨by decide, by decide⟩, hz62_1, hkpz62_me, hz62_3, hkpz62_me_code, (by omega)⟩)
                  · have c66z := c66
                    have c66 := cv_ne (a := z62.1.toInt) (b := 0) rfl (by decide) c66
                    unfold bk_X6_readClause_200
                    have t68 := igX0_8 hz62_3
                    refine wp_gd (zin_of (m := 12) rfl (by omega) (by omega)) ?_
                    refine wp_lt (fun o69 eo69 => ?_)
                    have hIo69 : IvX0 12 400 o69 := by rw [eo69]; exact hz62_3
                    have ko69_k70 : (gI o69 8).toInt = (gI z62.2.2 8).toInt := by rw [eo69]; rfl
                    have ko69_v : (gA o69 4 p0.toNatClampNeg).toInt = (gI z62.2.2 8).toInt := by rw [eo69]; exact congrArg Int32.toInt (upd_eq (g := gA z62.2.2 4) (i := p0) (v := (gI z62.2.2 8)))
                    have hkpo69 : Kp [] [] [] o_me_code o69 := hkpz62_me_code.trans (by rw [eo69]; exact Kp.tA (by decide) (by decide))
                    have t71 : (p0 + (1 : Int32)).toInt = p0.toInt + 1 := i32_add rfl (by decide) (by omega) (by omega)
                    refine wp_lt (fun o72 eo72 => ?_)
                    have hIo72 : IvX0 12 400 o72 := by rw [eo72]; exact ipX0_7 hIo69 ⟨by omega, by omega⟩
                    have ko72_k73 : (gA o72 4 p0.toNatClampNeg).toInt = (gA o69 4 p0.toNatClampNeg).toInt := by rw [eo72]; rfl
                    have ko72_k74 : (gI o72 8).toInt = (gI o69 8).toInt := by rw [eo72]; rfl
                    have ko72_v : (gI o72 7).toInt = (p0 + (1 : Int32)).toInt := by rw [eo72]; rfl
                    have hkpo72 : Kp [] [] [] o_me_code o72 := hkpo69.trans (by rw [eo72]; exact Kp.sI (by decide))
                    refine wp_some ?_
                    have t75 := igX6_8 hz62_1
                    exact (show (0 ≤ (1 : Int32).toInt ∧ (1 : Int32).toInt ≤ 1) ∧ IvX6 z62.2.1 ∧ Kp [2, 4] [] [] o_me z62.2.1 ∧ IvX0 12 400 o72 ∧ Kp [] [] [] o_me_code o72 ∧ ((gI z62.2.1 8).toInt ≤ (gI z62.2.1 2).toInt + 0) from ⟨⟨by decide, by decide⟩, hz62_1, hkpz62_me, hIo72, hkpo72, (by omega)⟩)
              · have c40z := c40
                have c40 := cv_ne (a := z39.toInt) (b := 0) rfl (by decide) c40
                have t77 := igX6_8 hz19_0
                refine wp_bd (s_X6_step   z19  hz19_0  (by omega)) (fun z76 hz76 => ?_)
                obtain ⟨hz76_0, hz76_1, hz76_2⟩ := hz76
                have hkpz76_me : Kp [2, 4] [] [] o_me z76 := hkpz19_me.trans (hz76_1.mono (by decide) (by decide) (by decide))
                have kz76_k78 : (gI z76 2).toInt = (gI z19 2).toInt := congrArg Int32.toInt (hz76_1.1 2 (by decide))
                have kz76_k79 : (gI z76 4).toInt = (gI z19 4).toInt := congrArg Int32.toInt (hz76_1.1 4 (by decide))
                have t80 := igX6_6 hz76_0
                refine wp_if (fun c81 => ?_) (fun c81 => ?_)
                · have c81 := cv_eq (a := (gI z76 6).toInt) (b := 2) rfl (by decide) c81
                  refine wp_if (fun c82 => ?_) (fun c82 => ?_)
                  · have c82 := cv_lt (a := (gI z76 9).toInt) (b := 1) rfl (by decide) c82
                    unfold bk_X6_readClause_155
                    refine wp_bd (s_X6_stop   z76  hz76_0  ) (fun z83 hz83 => ?_)
                    obtain ⟨hz83_0, hz83_1, hz83_2⟩ := hz83
                    have hkpz83_me : Kp [2, 4] [] [] o_me z83.2 := hkpz76_me.trans (hz83_2.mono (by decide) (by decide) (by decide))
                    have kz83_k84 : (gI z83.2 2).toInt = (gI z76 2).toInt := congrArg Int32.toInt (hz83_2.1 2 (by decide))
                    have kz83_k85 : (gI z83.2 4).toInt = (gI z76 4).toInt := congrArg Int32.toInt (hz83_2.1 4 (by decide))
                    have kz83_k86 : (gI z83.2 6).toInt = (gI z76 6).toInt := congrArg Int32.toInt (hz83_2.1 6 (by decide))
                    have kz83_k87 : (gI z83.2 8).toInt = (gI z76 8).toInt := congrArg Int32.toInt (hz83_2.1 8 (by decide))
                    refine wp_gd (zbo_of (by omega) (by omega)) ?_
                    refine wp_some ?_
                    have t88 := igX6_8 hz83_1
                    exact (show (0 ≤ z83.1.toInt ∧ z83.1.toInt ≤ 1) ∧ IvX6 z83.2 ∧ Kp [2, 4] [] [] o_me z83.2 ∧ IvX0 12 400 o33 ∧ Kp [] [] [] o_me_code o33 ∧ ((gI z83.2 8).toInt ≤ (gI z83.2 2).toInt + 0) from ⟨⟨by omega, by omega⟩, hz83_1, hkpz83_me, hIo33, hkpo33, (by omega)⟩)
                  · have c82 := cv_nlt (a := (gI z76 9).toInt) (b := 1) rfl (by decide) c82
                    refine wp_if (fun c89 => ?_) (fun c89 => ?_)
                    · have c89 := cv_le (a := (gI z76 9).toInt) (b := 20) rfl (by decide) c89
                      refine wp_gd (zin_of (m := 12) rfl (by omega) (by omega)) ?_
                      refine wp_lt (fun o90 eo90 => ?_)
                      have hIo90 : IvX0 12 400 o90 := by rw [eo90]; exact hIo33
                      have ko90_k91 : (gA o90 0 p0.toNatClampNeg).toInt = (gA o33 0 p0.toNatClampNeg).toInt := by rw [eo90]; rfl
                      have ko90_k92 : (gA o90 2 p0.toNatClampNeg).toInt = (gA o33 2 p0.toNatClampNeg).toInt := by rw [eo90]; rfl
                      have ko90_k93 : (gA o90 3 p0.toNatClampNeg).toInt = (gA o33 3 p0.toNatClampNeg).toInt := by rw [eo90]; rfl
                      have ko90_k94 : (gI o90 8).toInt = (gI o33 8).toInt := by rw [eo90]; rfl
                      have ko90_v : (gA o90 1 p0.toNatClampNeg).toInt = (gI z76 9).toInt := by rw [eo90]; exact congrArg Int32.toInt (upd_eq (g := gA o33 1) (i := p0) (v := (gI z76 9)))
                      have hkpo90 : Kp [] [] [] o_me_code o90 := hkpo33.trans (by rw [eo90]; exact Kp.tA (by decide) (by decide))
                      have t96 := igX6_8 hz76_0
                      refine wp_bd (s_X6_step   z76  hz76_0  (by omega)) (fun z95 hz95 => ?_)
                      obtain ⟨hz95_0, hz95_1, hz95_2⟩ := hz95
                      have hkpz95_me : Kp [2, 4] [] [] o_me z95 := hkpz76_me.trans (hz95_1.mono (by decide) (by decide) (by decide))
                      have kz95_k97 : (gI z95 2).toInt = (gI z76 2).toInt := congrArg Int32.toInt (hz95_1.1 2 (by decide))
                      have kz95_k98 : (gI z95 4).toInt = (gI z76 4).toInt := congrArg Int32.toInt (hz95_1.1 4 (by decide))
                      unfold bk_X6_readClause_177
                      refine wp_bd (s_X6_isWord   z95 3  hz95_0 (by decide) ) (fun z99 hz99 => ?_)
                      have hz99_0 := hz99
                      refine wp_if (fun c100 => ?_) (fun c100 => ?_)
                      · have c100 := cv_eq (a := z99.toInt) (b := 0) rfl (by decide) c100
                        unfold bk_X6_readClause_200
                        refine wp_gd (zin_of (m := 12) rfl (by omega) (by omega)) ?_
                        refine wp_lt (fun o101 eo101 => ?_)
                        have hIo101 : IvX0 12 400 o101 := by rw [eo101]; exact hIo90
                        have ko101_k102 : (gA o101 0 p0.toNatClampNeg).toInt = (gA o90 0 p0.toNatClampNeg).toInt := by rw [eo101]; rfl
                        have ko101_k103 : (gA o101 1 p0.toNatClampNeg).toInt = (gA o90 1 p0.toNatClampNeg).toInt := by rw [eo101]; rfl
                        have ko101_k104 : (gA o101 2 p0.toNatClampNeg).toInt = (gA o90 2 p0.toNatClampNeg).toInt := by rw [eo101]; rfl
                        have ko101_k105 : (gA o101 3 p0.toNatClampNeg).toInt = (gA o90 3 p0.toNatClampNeg).toInt := by rw [eo101]; rfl
                        have ko101_k106 : (gI o101 8).toInt = (gI o90 8).toInt := by rw [eo101]; rfl
                        have ko101_v : (gA o101 4 p0.toNatClampNeg).toInt = (gI o90 8).toInt := by rw [eo101]; exact congrArg Int32.toInt (upd_eq (g := gA o90 4) (i := p0) (v := (gI o90 8)))
                        have hkpo101 : Kp [] [] [] o_me_code o101 := hkpo90.trans (by rw [eo101]; exact Kp.tA (by decide) (by decide))
                        have t107 : (p0 + (1 : Int32)).toInt = p0.toInt + 1 := i32_add rfl (by decide) (by omega) (by omega)
                        refine wp_lt (fun o108 eo108 => ?_)
                        have hIo108 : IvX0 12 400 o108 := by rw [eo108]; exact ipX0_7 hIo101 ⟨by omega, by omega⟩
                        have ko108_k109 : (gA o108 0 p0.toNatClampNeg).toInt = (gA o101 0 p0.toNatClampNeg).toInt := by rw [eo108]; rfl
                        have ko108_k110 : (gA o108 1 p0.toNatClampNeg).toInt = (gA o101 1 p0.toNatClampNeg).toInt := by rw [eo108]; rfl
                        have ko108_k111 : (gA o108 2 p0.toNatClampNeg).toInt = (gA o101 2 p0.toNatClampNeg).toInt := by rw [eo108]; rfl
                        have ko108_k112 : (gA o108 3 p0.toNatClampNeg).toInt = (gA o101 3 p0.toNatClampNeg).toInt := by rw [eo108]; rfl
                        have ko108_k113 : (gA o108 4 p0.toNatClampNeg).toInt = (gA o101 4 p0.toNatClampNeg).toInt := by rw [eo108]; rfl
                        have ko108_k114 : (gI o108 8).toInt = (gI o101 8).toInt := by rw [eo108]; rfl
                        have ko108_v : (gI o108 7).toInt = (p0 + (1 : Int32)).toInt := by rw [eo108]; rfl
                        have hkpo108 : Kp [] [] [] o_me_code o108 := hkpo101.trans (by rw [eo108]; exact Kp.sI (by decide))
                        refine wp_some ?_
                        have t115 := igX6_8 hz95_0
                        exact (show (0 ≤ (1 : Int32).toInt ∧ (1 : Int32).toInt ≤ 1) ∧ IvX6 z95 ∧ Kp [2, 4] [] [] o_me z95 ∧ IvX0 12 400 o108 ∧ Kp [] [] [] o_me_code o108 ∧ ((gI z95 8).toInt ≤ (gI z95 2).toInt + 0) from ⟨⟨by decide, by decide⟩, hz95_0, hkpz95_me, hIo108, hkpo108, (by omega)⟩)
                      · have c100z := c100
                        have c100 := cv_ne (a := z99.toInt) (b := 0) rfl (by decide) c100
                        have t117 := igX6_8 hz95_0
                        refine wp_bd (s_X6_step   z95  hz95_0  (by omega)) (fun z116 hz116 => ?_)
                        obtain ⟨hz116_0, hz116_1, hz116_2⟩ := hz116
                        have hkpz116_me : Kp [2, 4] [] [] o_me z116 := hkpz95_me.trans (hz116_1.mono (by decide) (by decide) (by decide))
                        have kz116_k118 : (gI z116 2).toInt = (gI z95 2).toInt := congrArg Int32.toInt (hz116_1.1 2 (by decide))
                        have kz116_k119 : (gI z116 4).toInt = (gI z95 4).toInt := congrArg Int32.toInt (hz116_1.1 4 (by decide))
                        have t121 := igX6_8 hz116_0
                        refine wp_bd (sx_X6_readTest   z116 o90 (0 : Int32)  hz116_0 hIo90  ⟨by decide, by decide⟩ (by omega)) (fun z120 hz120 => ?_)
                        obtain ⟨hz120_0, hz120_1, hz120_2, hz120_3, hz120_4, hz120_5⟩ := hz120
                        have hkpz120_me : Kp [2, 4] [] [] o_me z120.2.1 := hkpz116_me.trans (hz120_2.mono (by decide) (by decide) (by decide))
                        have kz120_k122 : (gI z120.2.1 2).toInt = (gI z116 2).toInt := congrArg Int32.toInt (hz120_2.1 2 (by decide))
                        have kz120_k123 : (gI z120.2.1 4).toInt = (gI z116 4).toInt := congrArg Int32.toInt (hz120_2.1 4 (by decide))
                        have hkpz120_me_code : Kp [] [] [] o_me_code z120.2.2 := hkpo90.trans (hz120_4.mono (by decide) (by decide) (by decide))
                        refine wp_if (fun c124 => ?_) (fun c124 => ?_)
                        · have c124 := cv_eq (a := z120.1.toInt) (b := 0) rfl (by decide) c124
                          refine wp_some ?_
                          have t125 := igX6_8 hz120_1
                          exact (show (0 ≤ (0 : Int32).toInt ∧ (0 : Int32).toInt ≤ 1) ∧ IvX6 z120.2.1 ∧ Kp [2, 4] [] [] o_me z120.2.1 ∧ IvX0 12 400 z120.2.2 ∧ Kp [] [] [] o_me_code z120.2.2 ∧ ((gI z120.2.1 8).toInt ≤ (gI z120.2.1 2).toInt + 0) from ⟨⟨by decide, by decide⟩, hz120_1, hkpz120_me, hz120_3, hkpz120_me_code, (by omega)⟩)
                        · have c124z := c124
                          have c124 := cv_ne (a := z120.1.toInt) (b := 0) rfl (by decide) c124
                          unfold bk_X6_readClause_200
                          have t126 := igX0_8 hz120_3
                          refine wp_gd (zin_of (m := 12) rfl (by omega) (by omega)) ?_
                          refine wp_lt (fun o127 eo127 => ?_)
                          have hIo127 : IvX0 12 400 o127 := by rw [eo127]; exact hz120_3
                          have ko127_k128 : (gI o127 8).toInt = (gI z120.2.2 8).toInt := by rw [eo127]; rfl
                          have ko127_v : (gA o127 4 p0.toNatClampNeg).toInt = (gI z120.2.2 8).toInt := by rw [eo127]; exact congrArg Int32.toInt (upd_eq (g := gA z120.2.2 4) (i := p0) (v := (gI z120.2.2 8)))
                          have hkpo127 : Kp [] [] [] o_me_code o127 := hkpz120_me_code.trans (by rw [eo127]; exact Kp.tA (by decide) (by decide))
                          have t129 : (p0 + (1 : Int32)).toInt = p0.toInt + 1 := i32_add rfl (by decide) (by omega) (by omega)
                          refine wp_lt (fun o130 eo130 => ?_)
                          have hIo130 : IvX0 12 400 o130 := by rw [eo130]; exact ipX0_7 hIo127 ⟨by omega, by omega⟩
                          have ko130_k131 : (gA o130 4 p0.toNatClampNeg).toInt = (gA o127 4 p0.toNatClampNeg).toInt := by rw [eo130]; rfl
                          have ko130_k132 : (gI o130 8).toInt = (gI o127 8).toInt := by rw [eo130]; rfl
                          have ko130_v : (gI o130 7).toInt = (p0 + (1 : Int32)).toInt := by rw [eo130]; rfl
                          have hkpo130 : Kp [] [] [] o_me_code o130 := hkpo127.trans (by rw [eo130]; exact Kp.sI (by decide))
                          refine wp_some ?_
                          have t133 := igX6_8 hz120_1
                          exact (show (0 ≤ (1 : Int32).toInt ∧ (1 : Int32).toInt ≤ 1) ∧ IvX6 z120.2.1 ∧ Kp [2, 4] [] [] o_me z120.2.1 ∧ IvX0 12 400 o130 ∧ Kp [] [] [] o_me_code o130 ∧ ((gI z120.2.1 8).toInt ≤ (gI z120.2.1 2).toInt + 0) from ⟨⟨by decide, by decide⟩, hz120_1, hkpz120_me, hIo130, hkpo130, (by omega)⟩)
                    · have c89 := cv_nle (a := (gI z76 9).toInt) (b := 20) rfl (by decide) c89
                      unfold bk_X6_readClause_155
                      refine wp_bd (s_X6_stop   z76  hz76_0  ) (fun z134 hz134 => ?_)
                      obtain ⟨hz134_0, hz134_1, hz134_2⟩ := hz134
                      have hkpz134_me : Kp [2, 4] [] [] o_me z134.2 := hkpz76_me.trans (hz134_2.mono (by decide) (by decide) (by decide))
                      have kz134_k135 : (gI z134.2 2).toInt = (gI z76 2).toInt := congrArg Int32.toInt (hz134_2.1 2 (by decide))
                      have kz134_k136 : (gI z134.2 4).toInt = (gI z76 4).toInt := congrArg Int32.toInt (hz134_2.1 4 (by decide))
                      have kz134_k137 : (gI z134.2 6).toInt = (gI z76 6).toInt := congrArg Int32.toInt (hz134_2.1 6 (by decide))
                      have kz134_k138 : (gI z134.2 8).toInt = (gI z76 8).toInt := congrArg Int32.toInt (hz134_2.1 8 (by decide))
                      refine wp_gd (zbo_of (by omega) (by omega)) ?_
                      refine wp_some ?_
                      have t139 := igX6_8 hz134_1
                      exact (show (0 ≤ z134.1.toInt ∧ z134.1.toInt ≤ 1) ∧ IvX6 z134.2 ∧ Kp [2, 4] [] [] o_me z134.2 ∧ IvX0 12 400 o33 ∧ Kp [] [] [] o_me_code o33 ∧ ((gI z134.2 8).toInt ≤ (gI z134.2 2).toInt + 0) from ⟨⟨by omega, by omega⟩, hz134_1, hkpz134_me, hIo33, hkpo33, (by omega)⟩)
                · have c81 := cv_ne (a := (gI z76 6).toInt) (b := 2) rfl (by decide) c81
                  unfold bk_X6_readClause_155
                  refine wp_bd (s_X6_stop   z76  hz76_0  ) (fun z140 hz140 => ?_)
                  obtain ⟨hz140_0, hz140_1, hz140_2⟩ := hz140
                  have hkpz140_me : Kp [2, 4] [] [] o_me z140.2 := hkpz76_me.trans (hz140_2.mono (by decide) (by decide) (by decide))
                  have kz140_k141 : (gI z140.2 2).toInt = (gI z76 2).toInt := congrArg Int32.toInt (hz140_2.1 2 (by decide))
                  have kz140_k142 : (gI z140.2 4).toInt = (gI z76 4).toInt := congrArg Int32.toInt (hz140_2.1 4 (by decide))
                  have kz140_k143 : (gI z140.2 6).toInt = (gI z76 6).toInt := congrArg Int32.toInt (hz140_2.1 6 (by decide))
                  have kz140_k144 : (gI z140.2 8).toInt = (gI z76 8).toInt := congrArg Int32.toInt (hz140_2.1 8 (by decide))
                  refine wp_gd (zbo_of (by omega) (by omega)) ?_
                  refine wp_some ?_
                  have t145 := igX6_8 hz140_1
                  exact (show (0 ≤ z140.1.toInt ∧ z140.1.toInt ≤ 1) ∧ IvX6 z140.2 ∧ Kp [2, 4] [] [] o_me z140.2 ∧ IvX0 12 400 o33 ∧ Kp [] [] [] o_me_code o33 ∧ ((gI z140.2 8).toInt ≤ (gI z140.2 2).toInt + 0) from ⟨⟨by omega, by omega⟩, hz140_1, hkpz140_me, hIo33, hkpo33, (by omega)⟩)
            · have c38z := c38
              have c38 := cv_ne (a := (gI z19 4).toInt) (b := 0) rfl (by decide) c38
              exfalso; omega
          · have c32 := cv_ne (a := z3.toInt) (b := 3) rfl (by decide) c32
            have t147 := igX6_8 hz19_0
            refine wp_bd (sx_X6_readSum   z19 o28 (0 : Int32)  hz19_0 hIo28  ⟨by decide, by decide⟩ (by omega)) (fun z146 hz146 => ?_)
            obtain ⟨hz146_0, hz146_1, hz146_2, hz146_3, hz146_4, hz146_5⟩ := hz146
            have hkpz146_me : Kp [2, 4] [] [] o_me z146.2.1 := hkpz19_me.trans (hz146_2.mono (by decide) (by decide) (by decide))
            have kz146_k148 : (gI z146.2.1 2).toInt = (gI z19 2).toInt := congrArg Int32.toInt (hz146_2.1 2 (by decide))
            have kz146_k149 : (gI z146.2.1 4).toInt = (gI z19 4).toInt := congrArg Int32.toInt (hz146_2.1 4 (by decide))
            have hkpz146_me_code : Kp [] [] [] o_me_code z146.2.2 := hkpo28.trans (hz146_4.mono (by decide) (by decide) (by decide))
            refine wp_if (fun c150 => ?_) (fun c150 => ?_)
            · have c150 := cv_eq (a := z146.1.toInt) (b := 0) rfl (by decide) c150
              refine wp_some ?_
              have t151 := igX6_8 hz146_1
              exact (show (0 ≤ (0 : Int32).toInt ∧ (0 : Int32).toInt ≤ 1) ∧ IvX6 z146.2.1 ∧ Kp [2, 4] [] [] o_me z146.2.1 ∧ IvX0 12 400 z146.2.2 ∧ Kp [] [] [] o_me_code z146.2.2 ∧ ((gI z146.2.1 8).toInt ≤ (gI z146.2.1 2).toInt + 0) from ⟨⟨by decide, by decide⟩, hz146_1, hkpz146_me, hz146_3, hkpz146_me_code, (by omega)⟩)
            · have c150z := c150
              have c150 := cv_ne (a := z146.1.toInt) (b := 0) rfl (by decide) c150
              unfold bk_X6_readClause_94
              have t152 := igX0_8 hz146_3
              refine wp_gd (zin_of (m := 12) rfl (by omega) (by omega)) ?_
              refine wp_lt (fun o153 eo153 => ?_)
              have hIo153 : IvX0 12 400 o153 := by rw [eo153]; exact hz146_3
              have ko153_k154 : (gI o153 8).toInt = (gI z146.2.2 8).toInt := by rw [eo153]; rfl
              have ko153_v : (gA o153 3 p0.toNatClampNeg).toInt = (gI z146.2.2 8).toInt := by rw [eo153]; exact congrArg Int32.toInt (upd_eq (g := gA z146.2.2 3) (i := p0) (v := (gI z146.2.2 8)))
              have hkpo153 : Kp [] [] [] o_me_code o153 := hkpz146_me_code.trans (by rw [eo153]; exact Kp.tA (by decide) (by decide))
              refine wp_if (fun c155 => ?_) (fun c155 => ?_)
              · have c155 := cv_eq (a := (gI z146.2.1 4).toInt) (b := 0) rfl (by decide) c155
                refine wp_bd (s_X6_isWord   z146.2.1 2  hz146_1 (by decide) ) (fun z156 hz156 => ?_)
                have hz156_0 := hz156
                refine wp_if (fun c157 => ?_) (fun c157 => ?_)
                · have c157 := cv_eq (a := z156.toInt) (b := 0) rfl (by decide) c157
                  unfold bk_X6_readClause_177
                  refine wp_bd (s_X6_isWord   z146.2.1 3  hz146_1 (by decide) ) (fun z158 hz158 => ?_)
                  have hz158_0 := hz158
                  refine wp_if (fun c159 => ?_) (fun c159 => ?_)
                  · have c159 := cv_eq (a := z158.toInt) (b := 0) rfl (by decide) c159
                    unfold bk_X6_readClause_200
                    refine wp_gd (zin_of (m := 12) rfl (by omega) (by omega)) ?_
                    refine wp_lt (fun o160 eo160 => ?_)
                    have hIo160 : IvX0 12 400 o160 := by rw [eo160]; exact hIo153
                    have ko160_k161 : (gA o160 3 p0.toNatClampNeg).toInt = (gA o153 3 p0.toNatClampNeg).toInt := by rw [eo160]; rfl
                    have ko160_k162 : (gI o160 8).toInt = (gI o153 8).toInt := by rw [eo160]; rfl
                    have ko160_v : (gA o160 4 p0.toNatClampNeg).toInt = (gI o153 8).toInt := by rw [eo160]; exact congrArg Int32.toInt (upd_eq (g := gA o153 4) (i := p0) (v := (gI o153 8)))
                    have hkpo160 : Kp [] [] [] o_me_code o160 := hkpo153.trans (by rw [eo160]; exact Kp.tA (by decide) (by decide))
                    have t163 : (p0 + (1 : Int32)).toInt = p0.toInt + 1 := i32_add rfl (by decide) (by omega) (by omega)
                    refine wp_lt (fun o164 eo164 => ?_)
                    have hIo164 : IvX0 12 400 o164 := by rw [eo164]; exact ipX0_7 hIo160 ⟨by omega, by omega⟩
                    have ko164_k165 : (gA o164 3 p0.toNatClampNeg).toInt = (gA o160 3 p0.toNatClampNeg).toInt := by rw [eo164]; rfl
                    have ko164_k166 : (gA o164 4 p0.toNatClampNeg).toInt = (gA o160 4 p0.toNatClampNeg).toInt := by rw [eo164]; rfl
                    have ko164_k167 : (gI o164 8).toInt = (gI o160 8).toInt := by rw [eo164]; rfl
                    have ko164_v : (gI o164 7).toInt = (p0 + (1 : Int32)).toInt := by rw [eo164]; rfl
                    have hkpo164 : Kp [] [] [] o_me_code o164 := hkpo160.trans (by rw [eo164]; exact Kp.sI (by decide))
                    refine wp_some ?_
                    have t168 := igX6_8 hz146_1
                    exact (show (0 ≤ (1 : Int32).toInt ∧ (1 : Int32).toInt ≤ 1) ∧ IvX6 z146.2.1 ∧ Kp [2, 4] [] [] o_me z146.2.1 ∧ IvX0 12 400 o164 ∧ Kp [] [] [] o_me_code o164 ∧ ((gI z146.2.1 8).toInt ≤ (gI z146.2.1 2).toInt + 0) from ⟨⟨by decide, by decide⟩, hz146_1, hkpz146_me, hIo164, hkpo164, (by omega)⟩)
                  · have c159z := c159
                    have c159 := cv_ne (a := z158.toInt) (b := 0) rfl (by decide) c159
                    have t170 := igX6_8 hz146_1
                    refine wp_bd (s_X6_step   z146.2.1  hz146_1  (by omega)) (fun z169 hz169 => ?_)
                    obtain ⟨hz169_0, hz169_1, hz169_2⟩ := hz169
                    have hkpz169_me : Kp [2, 4] [] [] o_me z169 := hkpz146_me.trans (hz169_1.mono (by decide) (by decide) (by decide))
                    have kz169_k171 : (gI z169 2).toInt = (gI z146.2.1 2).toInt := congrArg Int32.toInt (hz169_1.1 2 (by decide))
                    have kz169_k172 : (gI z169 4).toInt = (gI z146.2.1 4).toInt := congrArg Int32.toInt (hz169_1.1 4 (by decide))
                    have t174 := igX6_8 hz169_0
                    refine wp_bd (sx_X6_readTest   z169 o153 (0 : Int32)  hz169_0 hIo153  ⟨by decide, by decide⟩ (by omega)) (fun z173 hz173 => ?_)
                    obtain ⟨hz173_0, hz173_1, hz173_2, hz173_3, hz173_4, hz173_5⟩ := hz173
                    have hkpz173_me : Kp [2, 4] [] [] o_me z173.2.1 := hkpz169_me.trans (hz173_2.mono (by decide) (by decide) (by decide))
                    have kz173_k175 : (gI z173.2.1 2).toInt = (gI z169 2).toInt := congrArg Int32.toInt (hz173_2.1 2 (by decide))
                    have kz173_k176 : (gI z173.2.1 4).toInt = (gI z169 4).toInt := congrArg Int32.toInt (hz173_2.1 4 (by decide))
                    have hkpz173_me_code : Kp [] [] [] o_me_code z173.2.2 := hkpo153.trans (hz173_4.mono (by decide) (by decide) (by decide))
                    refine wp_if (fun c177 => ?_) (fun c177 => ?_)
                    · have c177 := cv_eq (a := z173.1.toInt) (b := 0) rfl (by decide) c177
                      refine wp_some ?_
                      have t178 := igX6_8 hz173_1
                      exact (show (0 ≤ (0 : Int32).toInt ∧ (0 : Int32).toInt ≤ 1) ∧ IvX6 z173.2.1 ∧ Kp [2, 4] [] [] o_me z173.2.1 ∧ IvX0 12 400 z173.2.2 ∧ Kp [] [] [] o_me_code z173.2.2 ∧ ((gI z173.2.1 8).toInt ≤ (gI z173.2.1 2).toInt + 0) from ⟨⟨by decide, by decide⟩, hz173_1, hkpz173_me, hz173_3, hkpz173_me_code, (by omega)⟩)
                    · have c177z := c177
                      have c177 := cv_ne (a := z173.1.toInt) (b := 0) rfl (by decide) c177
                      unfold bk_X6_readClause_200
                      have t179 := igX0_8 hz173_3
                      refine wp_gd (zin_of (m := 12) rfl (by omega) (by omega)) ?_
                      refine wp_lt (fun o180 eo180 => ?_)
                      have hIo180 : IvX0 12 400 o180 := by rw [eo180]; exact hz173_3
                      have ko180_k181 : (gI o180 8).toInt = (gI z173.2.2 8).toInt := by rw [eo180]; rfl
                      have ko180_v : (gA o180 4 p0.toNatClampNeg).toInt = (gI z173.2.2 8).toInt := by rw [eo180]; exact congrArg Int32.toInt (upd_eq (g := gA z173.2.2 4) (i := p0) (v := (gI z173.2.2 8)))
                      have hkpo180 : Kp [] [] [] o_me_code o180 := hkpz173_me_code.trans (by rw [eo180]; exact Kp.tA (by decide) (by decide))
                      have t182 : (p0 + (1 : Int32)).toInt = p0.toInt + 1 := i32_add rfl (by decide) (by omega) (by omega)
                      refine wp_lt (fun o183 eo183 => ?_)
                      have hIo183 : IvX0 12 400 o183 := by rw [eo183]; exact ipX0_7 hIo180 ⟨by omega, by omega⟩
                      have ko183_k184 : (gA o183 4 p0.toNatClampNeg).toInt = (gA o180 4 p0.toNatClampNeg).toInt := by rw [eo183]; rfl
                      have ko183_k185 : (gI o183 8).toInt = (gI o180 8).toInt := by rw [eo183]; rfl
                      have ko183_v : (gI o183 7).toInt = (p0 + (1 : Int32)).toInt := by rw [eo183]; rfl
                      have hkpo183 : Kp [] [] [] o_me_code o183 := hkpo180.trans (by rw [eo183]; exact Kp.sI (by decide))
                      refine wp_some ?_
                      have t186 := igX6_8 hz173_1
                      exact (show (0 ≤ (1 : Int32).toInt ∧ (1 : Int32).toInt ≤ 1) ∧ IvX6 z173.2.1 ∧ Kp [2, 4] [] [] o_me z173.2.1 ∧ IvX0 12 400 o183 ∧ Kp [] [] [] o_me_code o183 ∧ ((gI z173.2.1 8).toInt ≤ (gI z173.2.1 2).toInt + 0) from ⟨⟨by decide, by decide⟩, hz173_1, hkpz173_me, hIo183, hkpo183, (by omega)⟩)
                · have c157z := c157
                  have c157 := cv_ne (a := z156.toInt) (b := 0) rfl (by decide) c157
                  have t188 := igX6_8 hz146_1
                  refine wp_bd (s_X6_step   z146.2.1  hz146_1  (by omega)) (fun z187 hz187 => ?_)
                  obtain ⟨hz187_0, hz187_1, hz187_2⟩ := hz187
                  have hkpz187_me : Kp [2, 4] [] [] o_me z187 := hkpz146_me.trans (hz187_1.mono (by decide) (by decide) (by decide))
                  have kz187_k189 : (gI z187 2).toInt = (gI z146.2.1 2).toInt := congrArg Int32.toInt (hz187_1.1 2 (by decide))
                  have kz187_k190 : (gI z187 4).toInt = (gI z146.2.1 4).toInt := congrArg Int32.toInt (hz187_1.1 4 (by decide))
                  have t191 := igX6_6 hz187_0
                  refine wp_if (fun c192 => ?_) (fun c192 => ?_)
                  · have c192 := cv_eq (a := (gI z187 6).toInt) (b := 2) rfl (by decide) c192
                    refine wp_if (fun c193 => ?_) (fun c193 => ?_)
                    · have c193 := cv_lt (a := (gI z187 9).toInt) (b := 1) rfl (by decide) c193
                      unfold bk_X6_readClause_155
                      refine wp_bd (s_X6_stop   z187  hz187_0  ) (fun z194 hz194 => ?_)
                      obtain ⟨hz194_0, hz194_1, hz194_2⟩ := hz194
                      have hkpz194_me : Kp [2, 4] [] [] o_me z194.2 := hkpz187_me.trans (hz194_2.mono (by decide) (by decide) (by decide))
                      have kz194_k195 : (gI z194.2 2).toInt = (gI z187 2).toInt := congrArg Int32.toInt (hz194_2.1 2 (by decide))
                      have kz194_k196 : (gI z194.2 4).toInt = (gI z187 4).toInt := congrArg Int32.toInt (hz194_2.1 4 (by decide))
                      have kz194_k197 : (gI z194.2 6).toInt = (gI z187 6).toInt := congrArg Int32.toInt (hz194_2.1 6 (by decide))
                      have kz194_k198 : (gI z194.2 8).toInt = (gI z187 8).toInt := congrArg Int32.toInt (hz194_2.1 8 (by decide))
                      refine wp_gd (zbo_of (by omega) (by omega)) ?_
                      refine wp_some ?_
                      have t199 := igX6_8 hz194_1
                      exact (show (0 ≤ z194.1.toInt ∧ z194.1.toInt ≤ 1) ∧ IvX6 z194.2 ∧ Kp [2, 4] [] [] o_me z194.2 ∧ IvX0 12 400 o153 ∧ Kp [] [] [] o_me_code o153 ∧ ((gI z194.2 8).toInt ≤ (gI z194.2 2).toInt + 0) from ⟨⟨by omega, by omega⟩, hz194_1, hkpz194_me, hIo153, hkpo153, (by omega)⟩)
                    · have c193 := cv_nlt (a := (gI z187 9).toInt) (b := 1) rfl (by decide) c193
                      refine wp_if (fun c200 => ?_) (fun c200 => ?_)
                      · have c200 := cv_le (a := (gI z187 9).toInt) (b := 20) rfl (by decide) c200
                        refine wp_gd (zin_of (m := 12) rfl (by omega) (by omega)) ?_
                        refine wp_lt (fun o201 eo201 => ?_)
                        have hIo201 : IvX0 12 400 o201 := by rw [eo201]; exact hIo153
                        have ko201_k202 : (gA o201 3 p0.toNatClampNeg).toInt = (gA o153 3 p0.toNatClampNeg).toInt := by rw [eo201]; rfl
                        have ko201_k203 : (gI o201 8).toInt = (gI o153 8).toInt := by rw [eo201]; rfl
                        have ko201_v : (gA o201 1 p0.toNatClampNeg).toInt = (gI z187 9).toInt := by rw [eo201]; exact congrArg Int32.toInt (upd_eq (g := gA o153 1) (i := p0) (v := (gI z187 9)))
                        have hkpo201 : Kp [] [] [] o_me_code o201 := hkpo153.trans (by rw [eo201]; exact Kp.tA (by decide) (by decide))
                        have t205 := igX6_8 hz187_0
                        refine wp_bd (s_X6_step   z187  hz187_0  (by omega)) (fun z204 hz204 => ?_)
                        obtain ⟨hz204_0, hz204_1, hz204_2⟩ := hz204
                        have hkpz204_me : Kp [2, 4] [] [] o_me z204 := hkpz187_me.trans (hz204_1.mono (by decide) (by decide) (by decide))
                        have kz204_k206 : (gI z204 2).toInt = (gI z187 2).toInt := congrArg Int32.toInt (hz204_1.1 2 (by decide))
                        have kz204_k207 : (gI z204 4).toInt = (gI z187 4).toInt := congrArg Int32.toInt (hz204_1.1 4 (by decide))
                        unfold bk_X6_readClause_177
                        refine wp_bd (s_X6_isWord   z204 3  hz204_0 (by decide) ) (fun z208 hz208 => ?_)
                        have hz208_0 := hz208
                        refine wp_if (fun c209 => ?_) (fun c209 => ?_)
                        · have c209 := cv_eq (a := z208.toInt) (b := 0) rfl (by decide) c209
                          unfold bk_X6_readClause_200
                          refine wp_gd (zin_of (m := 12) rfl (by omega) (by omega)) ?_
                          refine wp_lt (fun o210 eo210 => ?_)
                          have hIo210 : IvX0 12 400 o210 := by rw [eo210]; exact hIo201
                          have ko210_k211 : (gA o210 1 p0.toNatClampNeg).toInt = (gA o201 1 p0.toNatClampNeg).toInt := by rw [eo210]; rfl
                          have ko210_k212 : (gA o210 3 p0.toNatClampNeg).toInt = (gA o201 3 p0.toNatClampNeg).toInt := by rw [eo210]; rfl
                          have ko210_k213 : (gI o210 8).toInt = (gI o201 8).toInt := by rw [eo210]; rfl
                          have ko210_v : (gA o210 4 p0.toNatClampNeg).toInt = (gI o201 8).toInt := by rw [eo210]; exact congrArg Int32.toInt (upd_eq (g := gA o201 4) (i := p0) (v := (gI o201 8)))
                          have hkpo210 : Kp [] [] [] o_me_code o210 := hkpo201.trans (by rw [eo210]; exact Kp.tA (by decide) (by decide))
                          have t214 : (p0 + (1 : Int32)).toInt = p0.toInt + 1 := i32_add rfl (by decide) (by omega) (by omega)
                          refine wp_lt (fun o215 eo215 => ?_)
                          have hIo215 : IvX0 12 400 o215 := by rw [eo215]; exact ipX0_7 hIo210 ⟨by omega, by omega⟩
                          have ko215_k216 : (gA o215 1 p0.toNatClampNeg).toInt = (gA o210 1 p0.toNatClampNeg).toInt := by rw [eo215]; rfl
                          have ko215_k217 : (gA o215 3 p0.toNatClampNeg).toInt = (gA o210 3 p0.toNatClampNeg).toInt := by rw [eo215]; rfl
                          have ko215_k218 : (gA o215 4 p0.toNatClampNeg).toInt = (gA o210 4 p0.toNatClampNeg).toInt := by rw [eo215]; rfl
                          have ko215_k219 : (gI o215 8).toInt = (gI o210 8).toInt := by rw [eo215]; rfl
                          have ko215_v : (gI o215 7).toInt = (p0 + (1 : Int32)).toInt := by rw [eo215]; rfl
                          have hkpo215 : Kp [] [] [] o_me_code o215 := hkpo210.trans (by rw [eo215]; exact Kp.sI (by decide))
                          refine wp_some ?_
                          have t220 := igX6_8 hz204_0
                          exact (show (0 ≤ (1 : Int32).toInt ∧ (1 : Int32).toInt ≤ 1) ∧ IvX6 z204 ∧ Kp [2, 4] [] [] o_me z204 ∧ IvX0 12 400 o215 ∧ Kp [] [] [] o_me_code o215 ∧ ((gI z204 8).toInt ≤ (gI z204 2).toInt + 0) from ⟨⟨by decide, by decide⟩, hz204_0, hkpz204_me, hIo215, hkpo215, (by omega)⟩)
                        · have c209z := c209
                          have c209 := cv_ne (a := z208.toInt) (b := 0) rfl (by decide) c209
                          have t222 := igX6_8 hz204_0
                          refine wp_bd (s_X6_step   z204  hz204_0  (by omega)) (fun z221 hz221 => ?_)
                          obtain ⟨hz221_0, hz221_1, hz221_2⟩ := hz221
                          have hkpz221_me : Kp [2, 4] [] [] o_me z221 := hkpz204_me.trans (hz221_1.mono (by decide) (by decide) (by decide))
                          have kz221_k223 : (gI z221 2).toInt = (gI z204 2).toInt := congrArg Int32.toInt (hz221_1.1 2 (by decide))
                          have kz221_k224 : (gI z221 4).toInt = (gI z204 4).toInt := congrArg Int32.toInt (hz221_1.1 4 (by decide))
                          have t226 := igX6_8 hz221_0
                          refine wp_bd (sx_X6_readTest   z221 o201 (0 : Int32)  hz221_0 hIo201  ⟨by decide, by decide⟩ (by omega)) (fun z225 hz225 => ?_)
                          obtain ⟨hz225_0, hz225_1, hz225_2, hz225_3, hz225_4, hz225_5⟩ := hz225
                          have hkpz225_me : Kp [2, 4] [] [] o_me z225.2.1 := hkpz221_me.trans (hz225_2.mono (by decide) (by decide) (by decide))
                          have kz225_k227 : (gI z225.2.1 2).toInt = (gI z221 2).toInt := congrArg Int32.toInt (hz225_2.1 2 (by decide))
                          have kz225_k228 : (gI z225.2.1 4).toInt = (gI z221 4).toInt := congrArg Int32.toInt (hz225_2.1 4 (by decide))
                          have hkpz225_me_code : Kp [] [] [] o_me_code z225.2.2 := hkpo201.trans (hz225_4.mono (by decide) (by decide) (by decide))
                          refine wp_if (fun c229 => ?_) (fun c229 => ?_)
                          · have c229 := cv_eq (a := z225.1.toInt) (b := 0) rfl (by decide) c229
                            refine wp_some ?_
                            have t230 := igX6_8 hz225_1
                            exact (show (0 ≤ (0 : Int32).toInt ∧ (0 : Int32).toInt ≤ 1) ∧ IvX6 z225.2.1 ∧ Kp [2, 4] [] [] o_me z225.2.1 ∧ IvX0 12 400 z225.2.2 ∧ Kp [] [] [] o_me_code z225.2.2 ∧ ((gI z225.2.1 8).toInt ≤ (gI z225.2.1 2).toInt + 0) from ⟨⟨by decide, by decide⟩, hz225_1, hkpz225_me, hz225_3, hkpz225_me_code, (by omega)⟩)
                          · have c229z := c229
                            have c229 := cv_ne (a := z225.1.toInt) (b := 0) rfl (by decide) c229
                            unfold bk_X6_readClause_200
                            have t231 := igX0_8 hz225_3
                            refine wp_gd (zin_of (m := 12) rfl (by omega) (by omega)) ?_
                            refine wp_lt (fun o232 eo232 => ?_)
                            have hIo232 : IvX0 12 400 o232 := by rw [eo232]; exact hz225_3
                            have ko232_k233 : (gI o232 8).toInt = (gI z225.2.2 8).toInt := by rw [eo232]; rfl
                            have ko232_v : (gA o232 4 p0.toNatClampNeg).toInt = (gI z225.2.2 8).toInt := by rw [eo232]; exact congrArg Int32.toInt (upd_eq (g := gA z225.2.2 4) (i := p0) (v := (gI z225.2.2 8)))
                            have hkpo232 : Kp [] [] [] o_me_code o232 := hkpz225_me_code.trans (by rw [eo232]; exact Kp.tA (by decide) (by decide))
                            have t234 : (p0 + (1 : Int32)).toInt = p0.toInt + 1 := i32_add rfl (by decide) (by omega) (by omega)
                            refine wp_lt (fun o235 eo235 => ?_)
                            have hIo235 : IvX0 12 400 o235 := by rw [eo235]; exact ipX0_7 hIo232 ⟨by omega, by omega⟩
                            have ko235_k236 : (gA o235 4 p0.toNatClampNeg).toInt = (gA o232 4 p0.toNatClampNeg).toInt := by rw [eo235]; rfl
                            have ko235_k237 : (gI o235 8).toInt = (gI o232 8).toInt := by rw [eo235]; rfl
                            have ko235_v : (gI o235 7).toInt = (p0 + (1 : Int32)).toInt := by rw [eo235]; rfl
                            have hkpo235 : Kp [] [] [] o_me_code o235 := hkpo232.trans (by rw [eo235]; exact Kp.sI (by decide))
                            refine wp_some ?_
                            have t238 := igX6_8 hz225_1
                            exact (show (0 ≤ (1 : Int32).toInt ∧ (1 : Int32).toInt ≤ 1) ∧ IvX6 z225.2.1 ∧ Kp [2, 4] [] [] o_me z225.2.1 ∧ IvX0 12 400 o235 ∧ Kp [] [] [] o_me_code o235 ∧ ((gI z225.2.1 8).toInt ≤ (gI z225.2.1 2).toInt + 0) from ⟨⟨by decide, by decide⟩, hz225_1, hkpz225_me, hIo235, hkpo235, (by omega)⟩)
                      · have c200 := cv_nle (a := (gI z187 9).toInt) (b := 20) rfl (by decide) c200
                        unfold bk_X6_readClause_155
                        refine wp_bd (s_X6_stop   z187  hz187_0  ) (fun z239 hz239 => ?_)
                        obtain ⟨hz239_0, hz239_1, hz239_2⟩ := hz239
                        have hkpz239_me : Kp [2, 4] [] [] o_me z239.2 := hkpz187_me.trans (hz239_2.mono (by decide) (by decide) (by decide))
                        have kz239_k240 : (gI z239.2 2).toInt = (gI z187 2).toInt := congrArg Int32.toInt (hz239_2.1 2 (by decide))
                        have kz239_k241 : (gI z239.2 4).toInt = (gI z187 4).toInt := congrArg Int32.toInt (hz239_2.1 4 (by decide))
                        have kz239_k242 : (gI z239.2 6).toInt = (gI z187 6).toInt := congrArg Int32.toInt (hz239_2.1 6 (by decide))
                        have kz239_k243 : (gI z239.2 8).toInt = (gI z187 8).toInt := congrArg Int32.toInt (hz239_2.1 8 (by decide))
                        refine wp_gd (zbo_of (by omega) (by omega)) ?_
                        refine wp_some ?_
                        have t244 := igX6_8 hz239_1
                        exact (show (0 ≤ z239.1.toInt ∧ z239.1.toInt ≤ 1) ∧ IvX6 z239.2 ∧ Kp [2, 4] [] [] o_me z239.2 ∧ IvX0 12 400 o153 ∧ Kp [] [] [] o_me_code o153 ∧ ((gI z239.2 8).toInt ≤ (gI z239.2 2).toInt + 0) from ⟨⟨by omega, by omega⟩, hz239_1, hkpz239_me, hIo153, hkpo153, (by omega)⟩)
                  · have c192 := cv_ne (a := (gI z187 6).toInt) (b := 2) rfl (by decide) c192
                    unfold bk_X6_readClause_155
                    refine wp_bd (s_X6_stop   z187  hz187_0  ) (fun z245 hz245 => ?_)
                    obtain ⟨hz245_0, hz245_1, hz245_2⟩ := hz245
                    have hkpz245_me : Kp [2, 4] [] [] o_me z245.2 := hkpz187_me.trans (hz245_2.mono (by decide) (by decide) (by decide))
                    have kz245_k246 : (gI z245.2 2).toInt = (gI z187 2).toInt := congrArg Int32.toInt (hz245_2.1 2 (by decide))
                    have kz245_k247 : (gI z245.2 4).toInt = (gI z187 4).toInt := congrArg Int32.toInt (hz245_2.1 4 (by decide))
                    have kz245_k248 : (gI z245.2 6).toInt = (gI z187 6).toInt := congrArg Int32.toInt (hz245_2.1 6 (by decide))
                    have kz245_k249 : (gI z245.2 8).toInt = (gI z187 8).toInt := congrArg Int32.toInt (hz245_2.1 8 (by decide))
                    refine wp_gd (zbo_of (by omega) (by omega)) ?_
                    refine wp_some ?_
                    have t250 := igX6_8 hz245_1
                    exact (show (0 ≤ z245.1.toInt ∧ z245.1.toInt ≤ 1) ∧ IvX6 z245.2 ∧ Kp [2, 4] [] [] o_me z245.2 ∧ IvX0 12 400 o153 ∧ Kp [] [] [] o_me_code o153 ∧ ((gI z245.2 8).toInt ≤ (gI z245.2 2).toInt + 0) from ⟨⟨by omega, by omega⟩, hz245_1, hkpz245_me, hIo153, hkpo153, (by omega)⟩)
              · have c155z := c155
                have c155 := cv_ne (a := (gI z146.2.1 4).toInt) (b := 0) rfl (by decide) c155
                exfalso; omega
        · have c18 := cv_nlt (a := p0.toInt) (b := 12) rfl (by decide) c18
          unfold bk_X6_readClause_34
          refine wp_bd (s_X6_stop   o_me  hI_me  ) (fun z251 hz251 => ?_)
          obtain ⟨hz251_0, hz251_1, hz251_2⟩ := hz251
          have hkpz251_me : Kp [2, 4] [] [] o_me z251.2 := Kp.rf.trans (hz251_2.mono (by decide) (by decide) (by decide))
          have kz251_k252 : (gI z251.2 2).toInt = (gI o_me 2).toInt := congrArg Int32.toInt (hz251_2.1 2 (by decide))
          have kz251_k253 : (gI z251.2 4).toInt = (gI o_me 4).toInt := congrArg Int32.toInt (hz251_2.1 4 (by decide))
          have kz251_k254 : (gI z251.2 8).toInt = (gI o_me 8).toInt := congrArg Int32.toInt (hz251_2.1 8 (by decide))
          refine wp_gd (zbo_of (by omega) (by omega)) ?_
          refine wp_some ?_
          have t255 := igX6_8 hz251_1
          have t256 := igX6_2 hz251_1
          exact (show (0 ≤ z251.1.toInt ∧ z251.1.toInt ≤ 1) ∧ IvX6 z251.2 ∧ Kp [2, 4] [] [] o_me z251.2 ∧ IvX0 12 400 o_me_code ∧ Kp [] [] [] o_me_code o_me_code ∧ ((gI z251.2 8).toInt ≤ (gI z251.2 2).toInt + 0) from ⟨⟨by omega, by omega⟩, hz251_1, hkpz251_me, hI_me_code, Kp.rf, (by omega)⟩)
  · have c2z := c2
    have c2 := cv_ne (a := (gI o_me 4).toInt) (b := 0) rfl (by decide) c2
    unfold bk_X6_readClause_15
    refine wp_bd (s_X6_wordOf   o_me 0  hI_me (by decide) ) (fun z257 hz257 => ?_)
    refine wp_if (fun c258 => ?_) (fun c258 => ?_)
    · have c258 := cv_eq (a := z257.toInt) (b := (-1)) rfl (by decide) c258
      unfold bk_X6_readClause_34
      refine wp_bd (s_X6_stop   o_me  hI_me  ) (fun z259 hz259 => ?_)
      obtain ⟨hz259_0, hz259_1, hz259_2⟩ := hz259
      have hkpz259_me : Kp [2, 4] [] [] o_me z259.2 := Kp.rf.trans (hz259_2.mono (by decide) (by decide) (by decide))
      have kz259_k260 : (gI z259.2 2).toInt = (gI o_me 2).toInt := congrArg Int32.toInt (hz259_2.1 2 (by decide))
      have kz259_k261 : (gI z259.2 4).toInt = (gI o_me 4).toInt := congrArg Int32.toInt (hz259_2.1 4 (by decide))
      have kz259_k262 : (gI z259.2 8).toInt = (gI o_me 8).toInt := congrArg Int32.toInt (hz259_2.1 8 (by decide))
      refine wp_gd (zbo_of (by omega) (by omega)) ?_
      refine wp_some ?_
      have t263 := igX6_8 hz259_1
      have t264 := igX6_2 hz259_1
      exact (show (0 ≤ z259.1.toInt ∧ z259.1.toInt ≤ 1) ∧ IvX6 z259.2 ∧ Kp [2, 4] [] [] o_me z259.2 ∧ IvX0 12 400 o_me_code ∧ Kp [] [] [] o_me_code o_me_code ∧ ((gI z259.2 8).toInt ≤ (gI z259.2 2).toInt + 0) from ⟨⟨by omega, by omega⟩, hz259_1, hkpz259_me, hI_me_code, Kp.rf, (by omega)⟩)
    · have c258 := cv_ne (a := z257.toInt) (b := (-1)) rfl (by decide) c258
      refine wp_if (fun c265 => ?_) (fun c265 => ?_)
      · have c265 := cv_lt (a := p0.toInt) (b := 0) rfl (by decide) c265
        unfold bk_X6_readClause_34
        refine wp_bd (s_X6_stop   o_me  hI_me  ) (fun z266 hz266 => ?_)
        obtain ⟨hz266_0, hz266_1, hz266_2⟩ := hz266
        have hkpz266_me : Kp [2, 4] [] [] o_me z266.2 := Kp.rf.trans (hz266_2.mono (by decide) (by decide) (by decide))
        have kz266_k267 : (gI z266.2 2).toInt = (gI o_me 2).toInt := congrArg Int32.toInt (hz266_2.1 2 (by decide))
        have kz266_k268 : (gI z266.2 4).toInt = (gI o_me 4).toInt := congrArg Int32.toInt (hz266_2.1 4 (by decide))
        have kz266_k269 : (gI z266.2 8).toInt = (gI o_me 8).toInt := congrArg Int32.toInt (hz266_2.1 8 (by decide))
        refine wp_gd (zbo_of (by omega) (by omega)) ?_
        refine wp_some ?_
        have t270 := igX6_8 hz266_1
        have t271 := igX6_2 hz266_1
        exact (show (0 ≤ z266.1.toInt ∧ z266.1.toInt ≤ 1) ∧ IvX6 z266.2 ∧ Kp [2, 4] [] [] o_me z266.2 ∧ IvX0 12 400 o_me_code ∧ Kp [] [] [] o_me_code o_me_code ∧ ((gI z266.2 8).toInt ≤ (gI z266.2 2).toInt + 0) from ⟨⟨by omega, by omega⟩, hz266_1, hkpz266_me, hI_me_code, Kp.rf, (by omega)⟩)
      · have c265 := cv_nlt (a := p0.toInt) (b := 0) rfl (by decide) c265
        refine wp_if (fun c272 => ?_) (fun c272 => ?_)
        · have c272 := cv_lt (a := p0.toInt) (b := 12) rfl (by decide) c272
          have t274 := igX6_8 hI_me
          have t275 := igX6_2 hI_me
          refine wp_bd (s_X6_step   o_me  hI_me  (by omega)) (fun z273 hz273 => ?_)
          obtain ⟨hz273_0, hz273_1, hz273_2⟩ := hz273
          have hkpz273_me : Kp [2, 4] [] [] o_me z273 := Kp.rf.trans (hz273_1.mono (by decide) (by decide) (by decide))
          have kz273_k276 : (gI z273 2).toInt = (gI o_me 2).toInt := congrArg Int32.toInt (hz273_1.1 2 (by decide))
          have kz273_k277 : (gI z273 4).toInt = (gI o_me 4).toInt := congrArg Int32.toInt (hz273_1.1 4 (by decide))
          refine wp_gd (zin_of (m := 12) rfl (by omega) (by omega)) ?_
          refine wp_lt (fun o278 eo278 => ?_)
          have hIo278 : IvX0 12 400 o278 := by rw [eo278]; exact hI_me_code
          have ko278_v : (gA o278 0 p0.toNatClampNeg).toInt = z257.toInt := by rw [eo278]; exact congrArg Int32.toInt (upd_eq (g := gA o_me_code 0) (i := p0) (v := z257))
          have hkpo278 : Kp [] [] [] o_me_code o278 := Kp.rf.trans (by rw [eo278]; exact Kp.tA (by decide) (by decide))
          refine wp_gd (zin_of (m := 12) rfl (by omega) (by omega)) ?_
          refine wp_lt (fun o279 eo279 => ?_)
          have hIo279 : IvX0 12 400 o279 := by rw [eo279]; exact hIo278
          have ko279_k280 : (gA o279 0 p0.toNatClampNeg).toInt = (gA o278 0 p0.toNatClampNeg).toInt := by rw [eo279]; rfl
          have ko279_v : (gA o279 1 p0.toNatClampNeg).toInt = 1 := by rw [eo279]; exact (congrArg Int32.toInt (upd_eq (g := gA o278 1) (i := p0) (v := (1 : Int32)))).trans (show ((1 : Int32)).toInt = 1 by decide)
          have hkpo279 : Kp [] [] [] o_me_code o279 := hkpo278.trans (by rw [eo279]; exact Kp.tA (by decide) (by decide))
          have t281 := igX0_8 hIo279
          refine wp_gd (zin_of (m := 12) rfl (by omega) (by omega)) ?_
          refine wp_lt (fun o282 eo282 => ?_)
          have hIo282 : IvX0 12 400 o282 := by rw [eo282]; exact hIo279
          have ko282_k283 : (gA o282 0 p0.toNatClampNeg).toInt = (gA o279 0 p0.toNatClampNeg).toInt := by rw [eo282]; rfl
          have ko282_k284 : (gA o282 1 p0.toNatClampNeg).toInt = (gA o279 1 p0.toNatClampNeg).toInt := by rw [eo282]; rfl
          have ko282_k285 : (gI o282 8).toInt = (gI o279 8).toInt := by rw [eo282]; rfl
          have ko282_v : (gA o282 2 p0.toNatClampNeg).toInt = (gI o279 8).toInt := by rw [eo282]; exact congrArg Int32.toInt (upd_eq (g := gA o279 2) (i := p0) (v := (gI o279 8)))
          have hkpo282 : Kp [] [] [] o_me_code o282 := hkpo279.trans (by rw [eo282]; exact Kp.tA (by decide) (by decide))
          refine wp_if (fun c286 => ?_) (fun c286 => ?_)
          · have c286 := cv_eq (a := z257.toInt) (b := 3) rfl (by decide) c286
            unfold bk_X6_readClause_94
            refine wp_gd (zin_of (m := 12) rfl (by omega) (by omega)) ?_
            refine wp_lt (fun o287 eo287 => ?_)
            have hIo287 : IvX0 12 400 o287 := by rw [eo287]; exact hIo282
            have ko287_k288 : (gA o287 0 p0.toNatClampNeg).toInt = (gA o282 0 p0.toNatClampNeg).toInt := by rw [eo287]; rfl
            have ko287_k289 : (gA o287 1 p0.toNatClampNeg).toInt = (gA o282 1 p0.toNatClampNeg).toInt := by rw [eo287]; rfl
            have ko287_k290 : (gA o287 2 p0.toNatClampNeg).toInt = (gA o282 2 p0.toNatClampNeg).toInt := by rw [eo287]; rfl
            have ko287_k291 : (gI o287 8).toInt = (gI o282 8).toInt := by rw [eo287]; rfl
            have ko287_v : (gA o287 3 p0.toNatClampNeg).toInt = (gI o282 8).toInt := by rw [eo287]; exact congrArg Int32.toInt (upd_eq (g := gA o282 3) (i := p0) (v := (gI o282 8)))
            have hkpo287 : Kp [] [] [] o_me_code o287 := hkpo282.trans (by rw [eo287]; exact Kp.tA (by decide) (by decide))
            refine wp_if (fun c292 => ?_) (fun c292 => ?_)
            · have c292 := cv_eq (a := (gI z273 4).toInt) (b := 0) rfl (by decide) c292
              exfalso; omega
            · have c292z := c292
              have c292 := cv_ne (a := (gI z273 4).toInt) (b := 0) rfl (by decide) c292
              unfold bk_X6_readClause_177
              refine wp_bd (s_X6_isWord   z273 3  hz273_0 (by decide) ) (fun z293 hz293 => ?_)
              have hz293_0 := hz293
              refine wp_if (fun c294 => ?_) (fun c294 => ?_)
              · have c294 := cv_eq (a := z293.toInt) (b := 0) rfl (by decide) c294
                unfold bk_X6_readClause_200
                refine wp_gd (zin_of (m := 12) rfl (by omega) (by omega)) ?_
                refine wp_lt (fun o295 eo295 => ?_)
                have hIo295 : IvX0 12 400 o295 := by rw [eo295]; exact hIo287
                have ko295_k296 : (gA o295 0 p0.toNatClampNeg).toInt = (gA o287 0 p0.toNatClampNeg).toInt := by rw [eo295]; rfl
                have ko295_k297 : (gA o295 1 p0.toNatClampNeg).toInt = (gA o287 1 p0.toNatClampNeg).toInt := by rw [eo295]; rfl
                have ko295_k298 : (gA o295 2 p0.toNatClampNeg).toInt = (gA o287 2 p0.toNatClampNeg).toInt := by rw [eo295]; rfl
                have ko295_k299 : (gA o295 3 p0.toNatClampNeg).toInt = (gA o287 3 p0.toNatClampNeg).toInt := by rw [eo295]; rfl
                have ko295_k300 : (gI o295 8).toInt = (gI o287 8).toInt := by rw [eo295]; rfl
                have ko295_v : (gA o295 4 p0.toNatClampNeg).toInt = (gI o287 8).toInt := by rw [eo295]; exact congrArg Int32.toInt (upd_eq (g := gA o287 4) (i := p0) (v := (gI o287 8)))
                have hkpo295 : Kp [] [] [] o_me_code o295 := hkpo287.trans (by rw [eo295]; exact Kp.tA (by decide) (by decide))
                have t301 : (p0 + (1 : Int32)).toInt = p0.toInt + 1 := i32_add rfl (by decide) (by omega) (by omega)
                refine wp_lt (fun o302 eo302 => ?_)
                have hIo302 : IvX0 12 400 o302 := by rw [eo302]; exact ipX0_7 hIo295 ⟨by omega, by omega⟩
                have ko302_k303 : (gA o302 0 p0.toNatClampNeg).toInt = (gA o295 0 p0.toNatClampNeg).toInt := by rw [eo302]; rfl
                have ko302_k304 : (gA o302 1 p0.toNatClampNeg).toInt = (gA o295 1 p0.toNatClampNeg).toInt := by rw [eo302]; rfl
                have ko302_k305 : (gA o302 2 p0.toNatClampNeg).toInt = (gA o295 2 p0.toNatClampNeg).toInt := by rw [eo302]; rfl
                have ko302_k306 : (gA o302 3 p0.toNatClampNeg).toInt = (gA o295 3 p0.toNatClampNeg).toInt := by rw [eo302]; rfl
                have ko302_k307 : (gA o302 4 p0.toNatClampNeg).toInt = (gA o295 4 p0.toNatClampNeg).toInt := by rw [eo302]; rfl
                have ko302_k308 : (gI o302 8).toInt = (gI o295 8).toInt := by rw [eo302]; rfl
                have ko302_v : (gI o302 7).toInt = (p0 + (1 : Int32)).toInt := by rw [eo302]; rfl
                have hkpo302 : Kp [] [] [] o_me_code o302 := hkpo295.trans (by rw [eo302]; exact Kp.sI (by decide))
                refine wp_some ?_
                have t309 := igX6_8 hz273_0
                exact (show (0 ≤ (1 : Int32).toInt ∧ (1 : Int32).toInt ≤ 1) ∧ IvX6 z273 ∧ Kp [2, 4] [] [] o_me z273 ∧ IvX0 12 400 o302 ∧ Kp [] [] [] o_me_code o302 ∧ ((gI z273 8).toInt ≤ (gI z273 2).toInt + 0) from ⟨⟨by decide, by decide⟩, hz273_0, hkpz273_me, hIo302, hkpo302, (by omega)⟩)
              · have c294z := c294
                have c294 := cv_ne (a := z293.toInt) (b := 0) rfl (by decide) c294
                have t311 := igX6_8 hz273_0
                refine wp_bd (s_X6_step   z273  hz273_0  (by omega)) (fun z310 hz310 => ?_)
                obtain ⟨hz310_0, hz310_1, hz310_2⟩ := hz310
                have hkpz310_me : Kp [2, 4] [] [] o_me z310 := hkpz273_me.trans (hz310_1.mono (by decide) (by decide) (by decide))
                have kz310_k312 : (gI z310 2).toInt = (gI z273 2).toInt := congrArg Int32.toInt (hz310_1.1 2 (by decide))
                have kz310_k313 : (gI z310 4).toInt = (gI z273 4).toInt := congrArg Int32.toInt (hz310_1.1 4 (by decide))
                have t315 := igX6_8 hz310_0
                refine wp_bd (sx_X6_readTest   z310 o287 (0 : Int32)  hz310_0 hIo287  ⟨by decide, by decide⟩ (by omega)) (fun z314 hz314 => ?_)
                obtain ⟨hz314_0, hz314_1, hz314_2, hz314_3, hz314_4, hz314_5⟩ := hz314
                have hkpz314_me : Kp [2, 4] [] [] o_me z314.2.1 := hkpz310_me.trans (hz314_2.mono (by decide) (by decide) (by decide))
                have kz314_k316 : (gI z314.2.1 2).toInt = (gI z310 2).toInt := congrArg Int32.toInt (hz314_2.1 2 (by decide))
                have kz314_k317 : (gI z314.2.1 4).toInt = (gI z310 4).toInt := congrArg Int32.toInt (hz314_2.1 4 (by decide))
                have hkpz314_me_code : Kp [] [] [] o_me_code z314.2.2 := hkpo287.trans (hz314_4.mono (by decide) (by decide) (by decide))
                refine wp_if (fun c318 => ?_) (fun c318 => ?_)
                · have c318 := cv_eq (a := z314.1.toInt) (b := 0) rfl (by decide) c318
                  refine wp_some ?_
                  have t319 := igX6_8 hz314_1
                  exact (show (0 ≤ (0 : Int32).toInt ∧ (0 : Int32).toInt ≤ 1) ∧ IvX6 z314.2.1 ∧ Kp [2, 4] [] [] o_me z314.2.1 ∧ IvX0 12 400 z314.2.2 ∧ Kp [] [] [] o_me_code z314.2.2 ∧ ((gI z314.2.1 8).toInt ≤ (gI z314.2.1 2).toInt + 0) from ⟨⟨by decide, by decide⟩, hz314_1, hkpz314_me, hz314_3, hkpz314_me_code, (by omega)⟩)
                · have c318z := c318
                  have c318 := cv_ne (a := z314.1.toInt) (b := 0) rfl (by decide) c318
                  unfold bk_X6_readClause_200
                  have t320 := igX0_8 hz314_3
                  refine wp_gd (zin_of (m := 12) rfl (by omega) (by omega)) ?_
                  refine wp_lt (fun o321 eo321 => ?_)
                  have hIo321 : IvX0 12 400 o321 := by rw [eo321]; exact hz314_3
                  have ko321_k322 : (gI o321 8).toInt = (gI z314.2.2 8).toInt := by rw [eo321]; rfl
                  have ko321_v : (gA o321 4 p0.toNatClampNeg).toInt = (gI z314.2.2 8).toInt := by rw [eo321]; exact congrArg Int32.toInt (upd_eq (g := gA z314.2.2 4) (i := p0) (v := (gI z314.2.2 8)))
                  have hkpo321 : Kp [] [] [] o_me_code o321 := hkpz314_me_code.trans (by rw [eo321]; exact Kp.tA (by decide) (by decide))
                  have t323 : (p0 + (1 : Int32)).toInt = p0.toInt + 1 := i32_add rfl (by decide) (by omega) (by omega)
                  refine wp_lt (fun o324 eo324 => ?_)
                  have hIo324 : IvX0 12 400 o324 := by rw [eo324]; exact ipX0_7 hIo321 ⟨by omega, by omega⟩
                  have ko324_k325 : (gA o324 4 p0.toNatClampNeg).toInt = (gA o321 4 p0.toNatClampNeg).toInt := by rw [eo324]; rfl
                  have ko324_k326 : (gI o324 8).toInt = (gI o321 8).toInt := by rw [eo324]; rfl
                  have ko324_v : (gI o324 7).toInt = (p0 + (1 : Int32)).toInt := by rw [eo324]; rfl
                  have hkpo324 : Kp [] [] [] o_me_code o324 := hkpo321.trans (by rw [eo324]; exact Kp.sI (by decide))
                  refine wp_some ?_
                  have t327 := igX6_8 hz314_1
                  exact (show (0 ≤ (1 : Int32).toInt ∧ (1 : Int32).toInt ≤ 1) ∧ IvX6 z314.2.1 ∧ Kp [2, 4] [] [] o_me z314.2.1 ∧ IvX0 12 400 o324 ∧ Kp [] [] [] o_me_code o324 ∧ ((gI z314.2.1 8).toInt ≤ (gI z314.2.1 2).toInt + 0) from ⟨⟨by decide, by decide⟩, hz314_1, hkpz314_me, hIo324, hkpo324, (by omega)⟩)
          · have c286 := cv_ne (a := z257.toInt) (b := 3) rfl (by decide) c286
            have t329 := igX6_8 hz273_0
            refine wp_bd (sx_X6_readSum   z273 o282 (0 : Int32)  hz273_0 hIo282  ⟨by decide, by decide⟩ (by omega)) (fun z328 hz328 => ?_)
            obtain ⟨hz328_0, hz328_1, hz328_2, hz328_3, hz328_4, hz328_5⟩ := hz328
            have hkpz328_me : Kp [2, 4] [] [] o_me z328.2.1 := hkpz273_me.trans (hz328_2.mono (by decide) (by decide) (by decide))
            have kz328_k330 : (gI z328.2.1 2).toInt = (gI z273 2).toInt := congrArg Int32.toInt (hz328_2.1 2 (by decide))
            have kz328_k331 : (gI z328.2.1 4).toInt = (gI z273 4).toInt := congrArg Int32.toInt (hz328_2.1 4 (by decide))
            have hkpz328_me_code : Kp [] [] [] o_me_code z328.2.2 := hkpo282.trans (hz328_4.mono (by decide) (by decide) (by decide))
            refine wp_if (fun c332 => ?_) (fun c332 => ?_)
            · have c332 := cv_eq (a := z328.1.toInt) (b := 0) rfl (by decide) c332
              refine wp_some ?_
              have t333 := igX6_8 hz328_1
              exact (show (0 ≤ (0 : Int32).toInt ∧ (0 : Int32).toInt ≤ 1) ∧ IvX6 z328.2.1 ∧ Kp [2, 4] [] [] o_me z328.2.1 ∧ IvX0 12 400 z328.2.2 ∧ Kp [] [] [] o_me_code z328.2.2 ∧ ((gI z328.2.1 8).toInt ≤ (gI z328.2.1 2).toInt + 0) from ⟨⟨by decide, by decide⟩, hz328_1, hkpz328_me, hz328_3, hkpz328_me_code, (by omega)⟩)
            · have c332z := c332
              have c332 := cv_ne (a := z328.1.toInt) (b := 0) rfl (by decide) c332
              unfold bk_X6_readClause_94
              have t334 := igX0_8 hz328_3
              refine wp_gd (zin_of (m := 12) rfl (by omega) (by omega)) ?_
              refine wp_lt (fun o335 eo335 => ?_)
              have hIo335 : IvX0 12 400 o335 := by rw [eo335]; exact hz328_3
              have ko335_k336 : (gI o335 8).toInt = (gI z328.2.2 8).toInt := by rw [eo335]; rfl
              have ko335_v : (gA o335 3 p0.toNatClampNeg).toInt = (gI z328.2.2 8).toInt := by rw [eo335]; exact congrArg Int32.toInt (upd_eq (g := gA z328.2.2 3) (i := p0) (v := (gI z328.2.2 8)))
              have hkpo335 : Kp [] [] [] o_me_code o335 := hkpz328_me_code.trans (by rw [eo335]; exact Kp.tA (by decide) (by decide))
              refine wp_if (fun c337 => ?_) (fun c337 => ?_)
              · have c337 := cv_eq (a := (gI z328.2.1 4).toInt) (b := 0) rfl (by decide) c337
                exfalso; omega
              · have c337z := c337
                have c337 := cv_ne (a := (gI z328.2.1 4).toInt) (b := 0) rfl (by decide) c337
                unfold bk_X6_readClause_177
                refine wp_bd (s_X6_isWord   z328.2.1 3  hz328_1 (by decide) ) (fun z338 hz338 => ?_)
                have hz338_0 := hz338
                refine wp_if (fun c339 => ?_) (fun c339 => ?_)
                · have c339 := cv_eq (a := z338.toInt) (b := 0) rfl (by decide) c339
                  unfold bk_X6_readClause_200
                  refine wp_gd (zin_of (m := 12) rfl (by omega) (by omega)) ?_
                  refine wp_lt (fun o340 eo340 => ?_)
                  have hIo340 : IvX0 12 400 o340 := by rw [eo340]; exact hIo335
                  have ko340_k341 : (gA o340 3 p0.toNatClampNeg).toInt = (gA o335 3 p0.toNatClampNeg).toInt := by rw [eo340]; rfl
                  have ko340_k342 : (gI o340 8).toInt = (gI o335 8).toInt := by rw [eo340]; rfl
                  have ko340_v : (gA o340 4 p0.toNatClampNeg).toInt = (gI o335 8).toInt := by rw [eo340]; exact congrArg Int32.toInt (upd_eq (g := gA o335 4) (i := p0) (v := (gI o335 8)))
                  have hkpo340 : Kp [] [] [] o_me_code o340 := hkpo335.trans (by rw [eo340]; exact Kp.tA (by decide) (by decide))
                  have t343 : (p0 + (1 : Int32)).toInt = p0.toInt + 1 := i32_add rfl (by decide) (by omega) (by omega)
                  refine wp_lt (fun o344 eo344 => ?_)
                  have hIo344 : IvX0 12 400 o344 := by rw [eo344]; exact ipX0_7 hIo340 ⟨by omega, by omega⟩
                  have ko344_k345 : (gA o344 3 p0.toNatClampNeg).toInt = (gA o340 3 p0.toNatClampNeg).toInt := by rw [eo344]; rfl
                  have ko344_k346 : (gA o344 4 p0.toNatClampNeg).toInt = (gA o340 4 p0.toNatClampNeg).toInt := by rw [eo344]; rfl
                  have ko344_k347 : (gI o344 8).toInt = (gI o340 8).toInt := by rw [eo344]; rfl
                  have ko344_v : (gI o344 7).toInt = (p0 + (1 : Int32)).toInt := by rw [eo344]; rfl
                  have hkpo344 : Kp [] [] [] o_me_code o344 := hkpo340.trans (by rw [eo344]; exact Kp.sI (by decide))
                  refine wp_some ?_
                  have t348 := igX6_8 hz328_1
                  exact (show (0 ≤ (1 : Int32).toInt ∧ (1 : Int32).toInt ≤ 1) ∧ IvX6 z328.2.1 ∧ Kp [2, 4] [] [] o_me z328.2.1 ∧ IvX0 12 400 o344 ∧ Kp [] [] [] o_me_code o344 ∧ ((gI z328.2.1 8).toInt ≤ (gI z328.2.1 2).toInt + 0) from ⟨⟨by decide, by decide⟩, hz328_1, hkpz328_me, hIo344, hkpo344, (by omega)⟩)
                · have c339z := c339
                  have c339 := cv_ne (a := z338.toInt) (b := 0) rfl (by decide) c339
                  have t350 := igX6_8 hz328_1
                  refine wp_bd (s_X6_step   z328.2.1  hz328_1  (by omega)) (fun z349 hz349 => ?_)
                  obtain ⟨hz349_0, hz349_1, hz349_2⟩ := hz349
                  have hkpz349_me : Kp [2, 4] [] [] o_me z349 := hkpz328_me.trans (hz349_1.mono (by decide) (by decide) (by decide))
                  have kz349_k351 : (gI z349 2).toInt = (gI z328.2.1 2).toInt := congrArg Int32.toInt (hz349_1.1 2 (by decide))
                  have kz349_k352 : (gI z349 4).toInt = (gI z328.2.1 4).toInt := congrArg Int32.toInt (hz349_1.1 4 (by decide))
                  have t354 := igX6_8 hz349_0
                  refine wp_bd (sx_X6_readTest   z349 o335 (0 : Int32)  hz349_0 hIo335  ⟨by decide, by decide⟩ (by omega)) (fun z353 hz353 => ?_)
                  obtain ⟨hz353_0, hz353_1, hz353_2, hz353_3, hz353_4, hz353_5⟩ := hz353
                  have hkpz353_me : Kp [2, 4] [] [] o_me z353.2.1 := hkpz349_me.trans (hz353_2.mono (by decide) (by decide) (by decide))
                  have kz353_k355 : (gI z353.2.1 2).toInt = (gI z349 2).toInt := congrArg Int32.toInt (hz353_2.1 2 (by decide))
                  have kz353_k356 : (gI z353.2.1 4).toInt = (gI z349 4).toInt := congrArg Int32.toInt (hz353_2.1 4 (by decide))
                  have hkpz353_me_code : Kp [] [] [] o_me_code z353.2.2 := hkpo335.trans (hz353_4.mono (by decide) (by decide) (by decide))
                  refine wp_if (fun c357 => ?_) (fun c357 => ?_)
                  · have c357 := cv_eq (a := z353.1.toInt) (b := 0) rfl (by decide) c357
                    refine wp_some ?_
                    have t358 := igX6_8 hz353_1
                    exact (show (0 ≤ (0 : Int32).toInt ∧ (0 : Int32).toInt ≤ 1) ∧ IvX6 z353.2.1 ∧ Kp [2, 4] [] [] o_me z353.2.1 ∧ IvX0 12 400 z353.2.2 ∧ Kp [] [] [] o_me_code z353.2.2 ∧ ((gI z353.2.1 8).toInt ≤ (gI z353.2.1 2).toInt + 0) from ⟨⟨by decide, by decide⟩, hz353_1, hkpz353_me, hz353_3, hkpz353_me_code, (by omega)⟩)
                  · have c357z := c357
                    have c357 := cv_ne (a := z353.1.toInt) (b := 0) rfl (by decide) c357
                    unfold bk_X6_readClause_200
                    have t359 := igX0_8 hz353_3
                    refine wp_gd (zin_of (m := 12) rfl (by omega) (by omega)) ?_
                    refine wp_lt (fun o360 eo360 => ?_)
                    have hIo360 : IvX0 12 400 o360 := by rw [eo360]; exact hz353_3
                    have ko360_k361 : (gI o360 8).toInt = (gI z353.2.2 8).toInt := by rw [eo360]; rfl
                    have ko360_v : (gA o360 4 p0.toNatClampNeg).toInt = (gI z353.2.2 8).toInt := by rw [eo360]; exact congrArg Int32.toInt (upd_eq (g := gA z353.2.2 4) (i := p0) (v := (gI z353.2.2 8)))
                    have hkpo360 : Kp [] [] [] o_me_code o360 := hkpz353_me_code.trans (by rw [eo360]; exact Kp.tA (by decide) (by decide))
                    have t362 : (p0 + (1 : Int32)).toInt = p0.toInt + 1 := i32_add rfl (by decide) (by omega) (by omega)
                    refine wp_lt (fun o363 eo363 => ?_)
                    have hIo363 : IvX0 12 400 o363 := by rw [eo363]; exact ipX0_7 hIo360 ⟨by omega, by omega⟩
                    have ko363_k364 : (gA o363 4 p0.toNatClampNeg).toInt = (gA o360 4 p0.toNatClampNeg).toInt := by rw [eo363]; rfl
                    have ko363_k365 : (gI o363 8).toInt = (gI o360 8).toInt := by rw [eo363]; rfl
                    have ko363_v : (gI o363 7).toInt = (p0 + (1 : Int32)).toInt := by rw [eo363]; rfl
                    have hkpo363 : Kp [] [] [] o_me_code o363 := hkpo360.trans (by rw [eo363]; exact Kp.sI (by decide))
                    refine wp_some ?_
                    have t366 := igX6_8 hz353_1
                    exact (show (0 ≤ (1 : Int32).toInt ∧ (1 : Int32).toInt ≤ 1) ∧ IvX6 z353.2.1 ∧ Kp [2, 4] [] [] o_me z353.2.1 ∧ IvX0 12 400 o363 ∧ Kp [] [] [] o_me_code o363 ∧ ((gI z353.2.1 8).toInt ≤ (gI z353.2.1 2).toInt + 0) from ⟨⟨by decide, by decide⟩, hz353_1, hkpz353_me, hIo363, hkpo363, (by omega)⟩)
        · have c272 := cv_nlt (a := p0.toInt) (b := 12) rfl (by decide) c272
          unfold bk_X6_readClause_34
          refine wp_bd (s_X6_stop   o_me  hI_me  ) (fun z367 hz367 => ?_)
          obtain ⟨hz367_0, hz367_1, hz367_2⟩ := hz367
          have hkpz367_me : Kp [2, 4] [] [] o_me z367.2 := Kp.rf.trans (hz367_2.mono (by decide) (by decide) (by decide))
          have kz367_k368 : (gI z367.2 2).toInt = (gI o_me 2).toInt := congrArg Int32.toInt (hz367_2.1 2 (by decide))
          have kz367_k369 : (gI z367.2 4).toInt = (gI o_me 4).toInt := congrArg Int32.toInt (hz367_2.1 4 (by decide))
          have kz367_k370 : (gI z367.2 8).toInt = (gI o_me 8).toInt := congrArg Int32.toInt (hz367_2.1 8 (by decide))
          refine wp_gd (zbo_of (by omega) (by omega)) ?_
          refine wp_some ?_
          have t371 := igX6_8 hz367_1
          have t372 := igX6_2 hz367_1
          exact (show (0 ≤ z367.1.toInt ∧ z367.1.toInt ≤ 1) ∧ IvX6 z367.2 ∧ Kp [2, 4] [] [] o_me z367.2 ∧ IvX0 12 400 o_me_code ∧ Kp [] [] [] o_me_code o_me_code ∧ ((gI z367.2 8).toInt ≤ (gI z367.2 2).toInt + 0) from ⟨⟨by omega, by omega⟩, hz367_1, hkpz367_me, hI_me_code, Kp.rf, (by omega)⟩)

set_option maxHeartbeats 4000000 in
set_option maxRecDepth 100000 in
theorem s_X6_readText (o_me : Ob) (o_me_code : Ob) (p0 : Int32) (hI_me : IvX6 o_me) (hI_me_code : IvX0 12 400 o_me_code) (q0 : 0 ≤ p0.toInt ∧ p0.toInt ≤ 1) : wp (f_X6_readText  12 400 o_me o_me_code p0) (fun (y : Int32 × Ob × Ob) => (0 ≤ y.1.toInt ∧ y.1.toInt ≤ 1) ∧ IvX6 y.2.1 ∧ Kp [2] [] [] o_me y.2.1 ∧ IvX0 12 400 y.2.2 ∧ Kp [] [] [] o_me_code y.2.2) := by
  have li0 : (-1 : Int32).toInt = (-1) := by decide
  have li1 : (0 : Int32).toInt = 0 := by decide
  have li2 : (1 : Int32).toInt = 1 := by decide
  have li3 : (12 : Int32).toInt = 12 := by decide
  have li4 : (59 : Int32).toInt = 59 := by decide
  unfold f_X6_readText
  refine wp_gd (zbo_of (by omega) (by omega)) ?_
  refine wp_lt (fun o1 eo1 => ?_)
  have hIo1 : IvX6 o1 := by rw [eo1]; exact ipX6_4 hI_me ⟨by omega, by omega⟩
  have ko1_v : (gI o1 4).toInt = p0.toInt := by rw [eo1]; rfl
  have hkpo1 : Kp [2] [] [] o_me o1 := Kp.rf.trans (by rw [eo1]; exact Kp.sI (by decide))
  refine wp_bd (s_X0_clear  12 400 o_me_code  hI_me_code  ) (fun z2 hz2 => ?_)
  obtain ⟨hz2_0, hz2_1⟩ := hz2
  have hkpz2_me_code : Kp [] [] [] o_me_code z2 := Kp.rf.trans (hz2_1.mono (by decide) (by decide) (by decide))
  refine wp_lt (fun o3 eo3 => ?_)
  have hIo3 : IvX6 o3 := by rw [eo3]; exact ipX6_5 hIo1 ⟨by decide, by decide⟩
  have ko3_k4 : (gI o3 4).toInt = (gI o1 4).toInt := by rw [eo3]; rfl
  have ko3_v : (gI o3 5).toInt = 0 := by rw [eo3]; exact (show ((0 : Int32)).toInt = _ from by decide)
  have hkpo3 : Kp [2] [] [] o_me o3 := hkpo1.trans (by rw [eo3]; exact Kp.sI (by decide))
  refine wp_lt (fun o5 eo5 => ?_)
  have hIo5 : IvX6 o5 := by rw [eo5]; exact hIo3
  have ko5_k6 : (gI o5 4).toInt = (gI o3 4).toInt := by rw [eo5]; rfl
  have ko5_k7 : (gI o5 5).toInt = (gI o3 5).toInt := by rw [eo5]; rfl
  have ko5_v : (gI o5 3).toInt = (-1) := by rw [eo5]; exact (show ((-1 : Int32)).toInt = _ from by decide)
  have hkpo5 : Kp [2] [] [] o_me o5 := hkpo3.trans (by rw [eo5]; exact Kp.sI (by decide))
  refine wp_lt (fun o8 eo8 => ?_)
  have hIo8 : IvX6 o8 := by rw [eo8]; exact ipX6_8 hIo5 ⟨by decide, by decide⟩
  have ko8_k9 : (gI o8 3).toInt = (gI o5 3).toInt := by rw [eo8]; rfl
  have ko8_k10 : (gI o8 4).toInt = (gI o5 4).toInt := by rw [eo8]; rfl
  have ko8_k11 : (gI o8 5).toInt = (gI o5 5).toInt := by rw [eo8]; rfl
  have ko8_v : (gI o8 8).toInt = 0 := by rw [eo8]; exact (show ((0 : Int32)).toInt = _ from by decide)
  have hkpo8 : Kp [2] [] [] o_me o8 := hkpo5.trans (by rw [eo8]; exact Kp.sI (by decide))
  have t13 := igX6_2 hIo8
  refine wp_bd (s_X6_step   o8  hIo8  (by omega)) (fun z12 hz12 => ?_)
  obtain ⟨hz12_0, hz12_1, hz12_2⟩ := hz12
  have hkpz12_me : Kp [2] [] [] o_me z12 := hkpo8.trans (hz12_1.mono (by decide) (by decide) (by decide))
  have kz12_k14 : (gI z12 2).toInt = (gI o8 2).toInt := congrArg Int32.toInt (hz12_1.1 2 (by decide))
  have kz12_k15 : (gI z12 4).toInt = (gI o8 4).toInt := congrArg Int32.toInt (hz12_1.1 4 (by decide))
  have kz12_k16 : (gI z12 5).toInt = (gI o8 5).toInt := congrArg Int32.toInt (hz12_1.1 5 (by decide))
  have t17 := igX6_6 hz12_0
  have t18 := igX6_8 hz12_0
  have lp1 : ∀ (N1 : Nat) (v2_1 : Int32) (o_me_1 : Ob) (o_me_code_1 : Ob), IvX6 o_me_1 → Kp [2] [] [] o_me o_me_1 → IvX0 12 400 o_me_code_1 → Kp [] [] [] o_me_code o_me_code_1 → (0 ≤ v2_1.toInt ∧ v2_1.toInt ≤ 12) → (0 ≤ (gI o_me_1 2).toInt ∧ (gI o_me_1 2).toInt ≤ 400) → (0 ≤ (gI o_me_1 6).toInt ∧ (gI o_me_1 6).toInt ≤ 3) → (0 ≤ (gI o_me_1 8).toInt ∧ (gI o_me_1 8).toInt ≤ 400) → ((gI o_me_1 8).toInt ≤ (gI o_me_1 2).toInt + 0) → (12 - v2_1.toInt).toNat < N1 → wp (lp_X6_readText_33 12 400  N1 (v2_1, o_me_1, o_me_code_1)) (fun (y : Int32 × Ob × Ob) => (0 ≤ y.1.toInt ∧ y.1.toInt ≤ 1) ∧ IvX6 y.2.1 ∧ Kp [2] [] [] o_me y.2.1 ∧ IvX0 12 400 y.2.2 ∧ Kp [] [] [] o_me_code y.2.2) := by
    intro N1
    induction N1 with
    | zero =>
      intro v2_1 o_me_1 o_me_code_1 hI_me_1 hkp_me_1 hI_me_code_1 hkp_me_code_1 hh22 hh23 hh24 hh25 hh26 hN1
      exact absurd hN1 (Nat.not_lt_zero _)
    | succ N1 ihx =>
      have ih1 := ihx
      intro v2_1 o_me_1 o_me_code_1 hI_me_1 hkp_me_1 hI_me_code_1 hkp_me_code_1 hh22 hh23 hh24 hh25 hh26 hN1
      show wp (lb_X6_readText_33 12 400  (lp_X6_readText_33 12 400  N1) v2_1 o_me_1 o_me_code_1) (fun (y : Int32 × Ob × Ob) => (0 ≤ y.1.toInt ∧ y.1.toInt ≤ 1) ∧ IvX6 y.2.1 ∧ Kp [2] [] [] o_me y.2.1 ∧ IvX0 12 400 y.2.2 ∧ Kp [] [] [] o_me_code y.2.2)
      unfold lb_X6_readText_33
      refine wp_if (fun c27 => ?_) (fun c27 => ?_)
      · have c27 := cv_ge (a := v2_1.toInt) (b := 12) rfl (by decide) c27
        refine wp_bd (s_X6_stop   o_me_1  hI_me_1  ) (fun z28 hz28 => ?_)
        obtain ⟨hz28_0, hz28_1, hz28_2⟩ := hz28
        have hkpz28_me : Kp [2] [] [] o_me z28.2 := hkp_me_1.trans (hz28_2.mono (by decide) (by decide) (by decide))
        have kz28_k29 : (gI z28.2 2).toInt = (gI o_me_1 2).toInt := congrArg Int32.toInt (hz28_2.1 2 (by decide))
        have kz28_k30 : (gI z28.2 6).toInt = (gI o_me_1 6).toInt := congrArg Int32.toInt (hz28_2.1 6 (by decide))
        have kz28_k31 : (gI z28.2 8).toInt = (gI o_me_1 8).toInt := congrArg Int32.toInt (hz28_2.1 8 (by decide))
        refine wp_gd (zbo_of (by omega) (by omega)) ?_
        refine wp_some ?_
        exact (show (0 ≤ z28.1.toInt ∧ z28.1.toInt ≤ 1) ∧ IvX6 z28.2 ∧ Kp [2] [] [] o_me z28.2 ∧ IvX0 12 400 o_me_code_1 ∧ Kp [] [] [] o_me_code o_me_code_1 from ⟨⟨by omega, by omega⟩, hz28_1, hkpz28_me, hI_me_code_1, hkp_me_code_1⟩)
      · have c27 := cv_nge (a := v2_1.toInt) (b := 12) rfl (by decide) c27
        refine wp_bd (s_X6_readClause   o_me_1 o_me_code_1 v2_1  hI_me_1 hI_me_code_1  (by omega)) (fun z32 hz32 => ?_)
        obtain ⟨hz32_0, hz32_1, hz32_2, hz32_3, hz32_4, hz32_5⟩ := hz32
        have hkpz32_me : Kp [2] [] [] o_me z32.2.1 := hkp_me_1.trans (hz32_2.mono (by decide) (by decide) (by decide))
        have kz32_k33 : (gI z32.2.1 2).toInt = (gI o_me_1 2).toInt := congrArg Int32.toInt (hz32_2.1 2 (by decide))
        have hkpz32_me_code : Kp [] [] [] o_me_code z32.2.2 := hkp_me_code_1.trans (hz32_4.mono (by decide) (by decide) (by decide))
        refine wp_if (fun c34 => ?_) (fun c34 => ?_)
        · have c34 := cv_eq (a := z32.1.toInt) (b := 0) rfl (by decide) c34
          refine wp_some ?_
          exact (show (0 ≤ (0 : Int32).toInt ∧ (0 : Int32).toInt ≤ 1) ∧ IvX6 z32.2.1 ∧ Kp [2] [] [] o_me z32.2.1 ∧ IvX0 12 400 z32.2.2 ∧ Kp [] [] [] o_me_code z32.2.2 from ⟨⟨by decide, by decide⟩, hz32_1, hkpz32_me, hz32_3, hkpz32_me_code⟩)
        · have c34z := c34
          have c34 := cv_ne (a := z32.1.toInt) (b := 0) rfl (by decide) c34
          have t35 := igX6_6 hz32_1
          refine wp_if (fun c36 => ?_) (fun c36 => ?_)
          · have c36 := cv_eq (a := (gI z32.2.1 6).toInt) (b := 0) rfl (by decide) c36
            refine wp_some ?_
            exact (show (0 ≤ (1 : Int32).toInt ∧ (1 : Int32).toInt ≤ 1) ∧ IvX6 z32.2.1 ∧ Kp [2] [] [] o_me z32.2.1 ∧ IvX0 12 400 z32.2.2 ∧ Kp [] [] [] o_me_code z32.2.2 from ⟨⟨by decide, by decide⟩, hz32_1, hkpz32_me, hz32_3, hkpz32_me_code⟩)
          · have c36z := c36
            have c36 := cv_ne (a := (gI z32.2.1 6).toInt) (b := 0) rfl (by decide) c36
            refine wp_bd (s_X6_isSign   z32.2.1 (59 : Int32)  hz32_1  ) (fun z37 hz37 => ?_)
            have hz37_0 := hz37
            refine wp_if (fun c38 => ?_) (fun c38 => ?_)
            · have c38 := cv_eq (a := z37.toInt) (b := 0) rfl (by decide) c38
              refine wp_bd (s_X6_stop   z32.2.1  hz32_1  ) (fun z39 hz39 => ?_)
              obtain ⟨hz39_0, hz39_1, hz39_2⟩ := hz39
              have hkpz39_me : Kp [2] [] [] o_me z39.2 := hkpz32_me.trans (hz39_2.mono (by decide) (by decide) (by decide))
              have kz39_k40 : (gI z39.2 2).toInt = (gI z32.2.1 2).toInt := congrArg Int32.toInt (hz39_2.1 2 (by decide))
              have kz39_k41 : (gI z39.2 6).toInt = (gI z32.2.1 6).toInt := congrArg Int32.toInt (hz39_2.1 6 (by decide))
              have kz39_k42 : (gI z39.2 8).toInt = (gI z32.2.1 8).toInt := congrArg Int32.toInt (hz39_2.1 8 (by decide))
              refine wp_gd (zbo_of (by omega) (by omega)) ?_
              refine wp_some ?_
              exact (show (0 ≤ z39.1.toInt ∧ z39.1.toInt ≤ 1) ∧ IvX6 z39.2 ∧ Kp [2] [] [] o_me z39.2 ∧ IvX0 12 400 z32.2.2 ∧ Kp [] [] [] o_me_code z32.2.2 from ⟨⟨by omega, by omega⟩, hz39_1, hkpz39_me, hz32_3, hkpz32_me_code⟩)
            · have c38z := c38
              have c38 := cv_ne (a := z37.toInt) (b := 0) rfl (by decide) c38
              have t44 := igX6_8 hz32_1
              refine wp_bd (s_X6_step   z32.2.1  hz32_1  (by omega)) (fun z43 hz43 => ?_)
              obtain ⟨hz43_0, hz43_1, hz43_2⟩ := hz43
              have hkpz43_me : Kp [2] [] [] o_me z43 := hkpz32_me.trans (hz43_1.mono (by decide) (by decide) (by decide))
              have kz43_k45 : (gI z43 2).toInt = (gI z32.2.1 2).toInt := congrArg Int32.toInt (hz43_1.1 2 (by decide))
              refine wp_lt (fun x46 ex46 => ?_)
              have tx46 : x46.toInt = v2_1.toInt + 1 := by rw [ex46]; exact i32_add rfl (by decide) (by omega) (by omega)
              have t47 := igX6_6 hz43_0
              have t48 := igX6_8 hz43_0
              exact ih1 x46 z43 z32.2.2 hz43_0 hkpz43_me hz32_3 hkpz32_me_code ⟨by omega, by omega⟩ ⟨by omega, by omega⟩ ⟨by omega, by omega⟩ ⟨by omega, by omega⟩ (by omega) (by omega)
  exact lp1 zfu (0 : Int32) z12 z2 hz12_0 hkpz12_me hz2_0 hkpz2_me_code ⟨by decide, by decide⟩ ⟨by omega, by omega⟩ ⟨by omega, by omega⟩ ⟨by omega, by omega⟩ (by omega) (by show _ < 100000; omega)

set_option maxHeartbeats 4000000 in
set_option maxRecDepth 100000 in
theorem s_X5_set_O (o_me : Ob) (o_a0 : Ob) (hI_me : IvX5 o_me) (hI_a0 : IvX5 o_a0)  : wp (f_X5_set_O   o_me o_a0) (fun (y : Ob) => IvX5 y ∧ Kp [] [] [] o_me y) := by
  sorry

set_option maxHeartbeats 4000000 in
set_option maxRecDepth 100000 in
theorem s_X3_setOrderWords_O {pl : List CR} (o_me : Ob) (o_a0 : Ob) (o_a0_now : Ob) (p1 : Int32) (p2 : Int32) (hI_me : IvX3 o_me) (hI_a0 : IvX2 pl o_a0) (hI_a0_now : IvX4 o_a0_now)  : wp (f_X3_setOrderWords_O   o_me o_a0 o_a0_now p1 p2) (fun (y : Ob) => IvX3 y ∧ Kp [] [] [] o_me y) := by
  have li0 : (-1 : Int32).toInt = (-1) := by decide
  have li1 : (0 : Int32).toInt = 0 := by decide
  have li2 : (1 : Int32).toInt = 1 := by decide
  have li3 : (12 : Int32).toInt = 12 := by decide
  have li4 : (2 : Int32).toInt = 2 := by decide
  have li5 : (3 : Int32).toInt = 3 := by decide
  have li6 : (4 : Int32).toInt = 4 := by decide
  have li7 : (5 : Int32).toInt = 5 := by decide
  have li8 : (7 : Int32).toInt = 7 := by decide
  unfold f_X3_setOrderWords_O
  refine wp_lt (fun o1 eo1 => ?_)
  have hIo1 : IvX3 o1 := by rw [eo1]; exact hI_me
  have ko1_v : (gA o1 0 (0 : Int32).toNatClampNeg).toInt = (gI o_a0_now 4).toInt := by rw [eo1]; exact congrArg Int32.toInt (upd_eq (g := gA o_me 0) (i := (0 : Int32)) (v := (gI o_a0_now 4)))
  have hkpo1 : Kp [] [] [] o_me o1 := Kp.rf.trans (by rw [eo1]; exact Kp.tA (by decide) (by decide))
  refine wp_lt (fun o2 eo2 => ?_)
  have hIo2 : IvX3 o2 := by rw [eo2]; exact hIo1
  have ko2_k3 : (gA o2 0 (0 : Int32).toNatClampNeg).toInt = (gA o1 0 (0 : Int32).toNatClampNeg).toInt := by rw [eo2]; exact congrArg Int32.toInt (upd_ne (g := gA o1 0) (i := (1 : Int32)) (j := (0 : Int32)) (v := p1) (by decide) (by decide) (by decide))
  have ko2_v : (gA o2 0 (1 : Int32).toNatClampNeg).toInt = p1.toInt := by rw [eo2]; exact congrArg Int32.toInt (upd_eq (g := gA o1 0) (i := (1 : Int32)) (v := p1))
  have hkpo2 : Kp [] [] [] o_me o2 := hkpo1.trans (by rw [eo2]; exact Kp.tA (by decide) (by decide))
  refine wp_lt (fun o4 eo4 => ?_)
  have hIo4 : IvX3 o4 := by rw [eo4]; exact hIo2
  have ko4_k5 : (gA o4 0 (0 : Int32).toNatClampNeg).toInt = (gA o2 0 (0 : Int32).toNatClampNeg).toInt := by rw [eo4]; exact congrArg Int32.toInt (upd_ne (g := gA o2 0) (i := (2 : Int32)) (j := (0 : Int32)) (v := p2) (by decide) (by decide) (by decide))
  have ko4_k6 : (gA o4 0 (1 : Int32).toNatClampNeg).toInt = (gA o2 0 (1 : Int32).toNatClampNeg).toInt := by rw [eo4]; exact congrArg Int32.toInt (upd_ne (g := gA o2 0) (i := (2 : Int32)) (j := (1 : Int32)) (v := p2) (by decide) (by decide) (by decide))
  have ko4_v : (gA o4 0 (2 : Int32).toNatClampNeg).toInt = p2.toInt := by rw [eo4]; exact congrArg Int32.toInt (upd_eq (g := gA o2 0) (i := (2 : Int32)) (v := p2))
  have hkpo4 : Kp [] [] [] o_me o4 := hkpo2.trans (by rw [eo4]; exact Kp.tA (by decide) (by decide))
  refine wp_lt (fun o7 eo7 => ?_)
  have hIo7 : IvX3 o7 := by rw [eo7]; exact hIo4
  have ko7_k8 : (gA o7 0 (0 : Int32).toNatClampNeg).toInt = (gA o4 0 (0 : Int32).toNatClampNeg).toInt := by rw [eo7]; exact congrArg Int32.toInt (upd_ne (g := gA o4 0) (i := (3 : Int32)) (j := (0 : Int32)) (v := (gI o_a0_now 3)) (by decide) (by decide) (by decide))
  have ko7_k9 : (gA o7 0 (1 : Int32).toNatClampNeg).toInt = (gA o4 0 (1 : Int32).toNatClampNeg).toInt := by rw [eo7]; exact congrArg Int32.toInt (upd_ne (g := gA o4 0) (i := (3 : Int32)) (j := (1 : Int32)) (v := (gI o_a0_now 3)) (by decide) (by decide) (by decide))
  have ko7_k10 : (gA o7 0 (2 : Int32).toNatClampNeg).toInt = (gA o4 0 (2 : Int32).toNatClampNeg).toInt := by rw [eo7]; exact congrArg Int32.toInt (upd_ne (g := gA o4 0) (i := (3 : Int32)) (j := (2 : Int32)) (v := (gI o_a0_now 3)) (by decide) (by decide) (by decide))
  have ko7_v : (gA o7 0 (3 : Int32).toNatClampNeg).toInt = (gI o_a0_now 3).toInt := by rw [eo7]; exact congrArg Int32.toInt (upd_eq (g := gA o4 0) (i := (3 : Int32)) (v := (gI o_a0_now 3)))
  have hkpo7 : Kp [] [] [] o_me o7 := hkpo4.trans (by rw [eo7]; exact Kp.tA (by decide) (by decide))
  refine wp_bd (s_J6_bitCount_0f7a4   (gI o_a0_now 2)    ) (fun z11 hz11 => ?_)
  have hz11_0 := hz11
  refine wp_lt (fun o12 eo12 => ?_)
  have hIo12 : IvX3 o12 := by rw [eo12]; exact hIo7
  have ko12_k13 : (gA o12 0 (0 : Int32).toNatClampNeg).toInt = (gA o7 0 (0 : Int32).toNatClampNeg).toInt := by rw [eo12]; exact congrArg Int32.toInt (upd_ne (g := gA o7 0) (i := (4 : Int32)) (j := (0 : Int32)) (v := z11) (by decide) (by decide) (by decide))
  have ko12_k14 : (gA o12 0 (1 : Int32).toNatClampNeg).toInt = (gA o7 0 (1 : Int32).toNatClampNeg).toInt := by rw [eo12]; exact congrArg Int32.toInt (upd_ne (g := gA o7 0) (i := (4 : Int32)) (j := (1 : Int32)) (v := z11) (by decide) (by decide) (by decide))
  have ko12_k15 : (gA o12 0 (2 : Int32).toNatClampNeg).toInt = (gA o7 0 (2 : Int32).toNatClampNeg).toInt := by rw [eo12]; exact congrArg Int32.toInt (upd_ne (g := gA o7 0) (i := (4 : Int32)) (j := (2 : Int32)) (v := z11) (by decide) (by decide) (by decide))
  have ko12_k16 : (gA o12 0 (3 : Int32).toNatClampNeg).toInt = (gA o7 0 (3 : Int32).toNatClampNeg).toInt := by rw [eo12]; exact congrArg Int32.toInt (upd_ne (g := gA o7 0) (i := (4 : Int32)) (j := (3 : Int32)) (v := z11) (by decide) (by decide) (by decide))
  have ko12_v : (gA o12 0 (4 : Int32).toNatClampNeg).toInt = z11.toInt := by rw [eo12]; exact congrArg Int32.toInt (upd_eq (g := gA o7 0) (i := (4 : Int32)) (v := z11))
  have hkpo12 : Kp [] [] [] o_me o12 := hkpo7.trans (by rw [eo12]; exact Kp.tA (by decide) (by decide))
  have lp1 : ∀ (N1 : Nat) (v4_1 : Int32) (o_me_1 : Ob), IvX3 o_me_1 → Kp [] [] [] o_me o_me_1 → (0 ≤ v4_1.toInt ∧ v4_1.toInt ≤ 7) → (7 - v4_1.toInt).toNat < N1 → wp (lp_X3_setOrderWords_O_59 o_a0 o_a0_now  N1 (v4_1, o_me_1)) (fun (y : Ob) => IvX3 y ∧ Kp [] [] [] o_me y) := by
    intro N1
    induction N1 with
    | zero =>
      intro v4_1 o_me_1 hI_me_1 hkp_me_1 hh17 hN1
      exact absurd hN1 (Nat.not_lt_zero _)
    | succ N1 ihx =>
      have ih1 := ihx
      intro v4_1 o_me_1 hI_me_1 hkp_me_1 hh17 hN1
      show wp (lb_X3_setOrderWords_O_59 o_a0 o_a0_now  (lp_X3_setOrderWords_O_59 o_a0 o_a0_now  N1) v4_1 o_me_1) (fun (y : Ob) => IvX3 y ∧ Kp [] [] [] o_me y)
      unfold lb_X3_setOrderWords_O_59
      refine wp_if (fun c18 => ?_) (fun c18 => ?_)
      · have c18 := cv_ge (a := v4_1.toInt) (b := 7) rfl (by decide) c18
        refine wp_some ?_
        exact (show IvX3 o_me_1 ∧ Kp [] [] [] o_me o_me_1 from ⟨hI_me_1, hkp_me_1⟩)
      · have c18 := cv_nge (a := v4_1.toInt) (b := 7) rfl (by decide) c18
        have t19 : ((5 : Int32) + v4_1).toInt = 5 + v4_1.toInt := i32_add (by decide) rfl (by omega) (by omega)
        refine wp_bd (s_X2_isPerson   o_a0 v4_1  hI_a0  ) (fun z20 hz20 => ?_)
        obtain ⟨hz20_0, hz20_1⟩ := hz20
        refine wp_if (fun c21 => ?_) (fun c21 => ?_)
        · have c21 := cv_eq (a := z20.toInt) (b := 0) rfl (by decide) c21
          obtain ⟨w22, ew22⟩ : ∃ z : Int32, z = (-1 : Int32) := ⟨_, rfl⟩
          have tw22 : w22.toInt = (-1) := by rw [ew22]; decide
          obtain ⟨w23, ew23⟩ : ∃ z : Int32, z = (5 : Int32) + v4_1 := ⟨_, rfl⟩
          have tw23 : w23.toInt = ((5 : Int32) + v4_1).toInt := by rw [ew23]
          rw [show bk_X3_setOrderWords_O_97 o_a0 o_a0_now (lp_X3_setOrderWords_O_59 o_a0 o_a0_now  N1) v4_1 (-1 : Int32) ((5 : Int32) + v4_1) o_me_1 = bk_X3_setOrderWords_O_97 o_a0 o_a0_now (lp_X3_setOrderWords_O_59 o_a0 o_a0_now  N1) v4_1 w22 w23 o_me_1 from by rw [ew22, ew23]]
          unfold bk_X3_setOrderWords_O_97
          refine wp_gd (zin_of (m := 19) rfl (by omega) (by omega)) ?_
          refine wp_lt (fun o24 eo24 => ?_)
          have hIo24 : IvX3 o24 := by rw [eo24]; exact hI_me_1
          have ko24_v : (gA o24 0 w23.toNatClampNeg).toInt = w22.toInt := by rw [eo24]; exact congrArg Int32.toInt (upd_eq (g := gA o_me_1 0) (i := w23) (v := w22))
          have hkpo24 : Kp [] [] [] o_me o24 := hkp_me_1.trans (by rw [eo24]; exact Kp.tA (by decide) (by decide))
          have t25 : ((12 : Int32) + v4_1).toInt = 12 + v4_1.toInt := i32_add (by decide) rfl (by omega) (by omega)
          refine wp_bd (s_X2_isPerson   o_a0 v4_1  hI_a0  ) (fun z26 hz26 => ?_)
          obtain ⟨hz26_0, hz26_1⟩ := hz26
          refine wp_if (fun c27 => ?_) (fun c27 => ?_)
          · have c27 := cv_eq (a := z26.toInt) (b := 0) rfl (by decide) c27
            obtain ⟨w28, ew28⟩ : ∃ z : Int32, z = (-1 : Int32) := ⟨_, rfl⟩
            have tw28 : w28.toInt = (-1) := by rw [ew28]; decide
            obtain ⟨w29, ew29⟩ : ∃ z : Int32, z = (12 : Int32) + v4_1 := ⟨_, rfl⟩
            have tw29 : w29.toInt = ((12 : Int32) + v4_1).toInt := by rw [ew29]
            rw [show bk_X3_setOrderWords_O_130 o_a0 o_a0_now (lp_X3_setOrderWords_O_59 o_a0 o_a0_now  N1) v4_1 (-1 : Int32) ((12 : Int32) + v4_1) o24 = bk_X3_setOrderWords_O_130 o_a0 o_a0_now (lp_X3_setOrderWords_O_59 o_a0 o_a0_now  N1) v4_1 w28 w29 o24 from by rw [ew28, ew29]]
            unfold bk_X3_setOrderWords_O_130
            refine wp_gd (zin_of (m := 19) rfl (by omega) (by omega)) ?_
            refine wp_lt (fun o30 eo30 => ?_)
            have hIo30 : IvX3 o30 := by rw [eo30]; exact hIo24
            have ko30_k31 : (gA o30 0 w23.toNatClampNeg).toInt = (gA o24 0 w23.toNatClampNeg).toInt := by rw [eo30]; exact congrArg Int32.toInt (upd_ne (g := gA o24 0) (i := w29) (j := w23) (v := w28) (by omega) (by omega) (by omega))
            have ko30_v : (gA o30 0 w29.toNatClampNeg).toInt = w28.toInt := by rw [eo30]; exact congrArg Int32.toInt (upd_eq (g := gA o24 0) (i := w29) (v := w28))
            have hkpo30 : Kp [] [] [] o_me o30 := hkpo24.trans (by rw [eo30]; exact Kp.tA (by decide) (by decide))
            refine wp_lt (fun x32 ex32 => ?_)
            have tx32 : x32.toInt = v4_1.toInt + 1 := by rw [ex32]; exact i32_add rfl (by decide) (by omega) (by omega)
            exact ih1 x32 o30 hIo30 hkpo30 ⟨by omega, by omega⟩ (by omega)
          · have c27z := c27
            have c27i := hz26_1 c27
            have c27 := cv_ne (a := z26.toInt) (b := 0) rfl (by decide) c27
            refine wp_gd (zin_of (m := 7) rfl (by omega) (by omega)) ?_
            have t33 := iaX4_0_0 hI_a0_now (j := v4_1) (by omega) (by omega)
            obtain ⟨w34, ew34⟩ : ∃ z : Int32, z = gA o_a0_now 0 v4_1.toNatClampNeg := ⟨_, rfl⟩
            have tw34 : w34.toInt = (gA o_a0_now 0 v4_1.toNatClampNeg).toInt := by rw [ew34]
            obtain ⟨w35, ew35⟩ : ∃ z : Int32, z = (12 : Int32) + v4_1 := ⟨_, rfl⟩
            have tw35 : w35.toInt = ((12 : Int32) + v4_1).toInt := by rw [ew35]
            rw [show bk_X3_setOrderWords_O_130 o_a0 o_a0_now (lp_X3_setOrderWords_O_59 o_a0 o_a0_now  N1) v4_1 (gA o_a0_now 0 v4_1.toNatClampNeg) ((12 : Int32) + v4_1) o24 = bk_X3_setOrderWords_O_130 o_a0 o_a0_now (lp_X3_setOrderWords_O_59 o_a0 o_a0_now  N1) v4_1 w34 w35 o24 from by rw [ew34, ew35]]
            unfold bk_X3_setOrderWords_O_130
            refine wp_gd (zin_of (m := 19) rfl (by omega) (by omega)) ?_
            refine wp_lt (fun o36 eo36 => ?_)
            have hIo36 : IvX3 o36 := by rw [eo36]; exact hIo24
            have ko36_k37 : (gA o36 0 w23.toNatClampNeg).toInt = (gA o24 0 w23.toNatClampNeg).toInt := by rw [eo36]; exact congrArg Int32.toInt (upd_ne (g := gA o24 0) (i := w35) (j := w23) (v := w34) (by omega) (by omega) (by omega))
            have ko36_v : (gA o36 0 w35.toNatClampNeg).toInt = w34.toInt := by rw [eo36]; exact congrArg Int32.toInt (upd_eq (g := gA o24 0) (i := w35) (v := w34))
            have hkpo36 : Kp [] [] [] o_me o36 := hkpo24.trans (by rw [eo36]; exact Kp.tA (by decide) (by decide))
            refine wp_lt (fun x38 ex38 => ?_)
            have tx38 : x38.toInt = v4_1.toInt + 1 := by rw [ex38]; exact i32_add rfl (by decide) (by omega) (by omega)
            exact ih1 x38 o36 hIo36 hkpo36 ⟨by omega, by omega⟩ (by omega)
        · have c21z := c21
          have c21i := hz20_1 c21
          have c21 := cv_ne (a := z20.toInt) (b := 0) rfl (by decide) c21
          refine wp_gd (zin_of (m := 7) rfl (by omega) (by omega)) ?_
          obtain ⟨w39, ew39⟩ : ∃ z : Int32, z = gA o_a0_now 1 v4_1.toNatClampNeg := ⟨_, rfl⟩
          have tw39 : w39.toInt = (gA o_a0_now 1 v4_1.toNatClampNeg).toInt := by rw [ew39]
          obtain ⟨w40, ew40⟩ : ∃ z : Int32, z = (5 : Int32) + v4_1 := ⟨_, rfl⟩
          have tw40 : w40.toInt = ((5 : Int32) + v4_1).toInt := by rw [ew40]
          rw [show bk_X3_setOrderWords_O_97 o_a0 o_a0_now (lp_X3_setOrderWords_O_59 o_a0 o_a0_now  N1) v4_1 (gA o_a0_now 1 v4_1.toNatClampNeg) ((5 : Int32) + v4_1) o_me_1 = bk_X3_setOrderWords_O_97 o_a0 o_a0_now (lp_X3_setOrderWords_O_59 o_a0 o_a0_now  N1) v4_1 w39 w40 o_me_1 from by rw [ew39, ew40]]
          unfold bk_X3_setOrderWords_O_97
          refine wp_gd (zin_of (m := 19) rfl (by omega) (by omega)) ?_
          refine wp_lt (fun o41 eo41 => ?_)
          have hIo41 : IvX3 o41 := by rw [eo41]; exact hI_me_1
          have ko41_v : (gA o41 0 w40.toNatClampNeg).toInt = w39.toInt := by rw [eo41]; exact congrArg Int32.toInt (upd_eq (g := gA o_me_1 0) (i := w40) (v := w39))
          have hkpo41 : Kp [] [] [] o_me o41 := hkp_me_1.trans (by rw [eo41]; exact Kp.tA (by decide) (by decide))
          have t42 : ((12 : Int32) + v4_1).toInt = 12 + v4_1.toInt := i32_add (by decide) rfl (by omega) (by omega)
          refine wp_bd (s_X2_isPerson   o_a0 v4_1  hI_a0  ) (fun z43 hz43 => ?_)
          obtain ⟨hz43_0, hz43_1⟩ := hz43
          refine wp_if (fun c44 => ?_) (fun c44 => ?_)
          · have c44 := cv_eq (a := z43.toInt) (b := 0) rfl (by decide) c44
            obtain ⟨w45, ew45⟩ : ∃ z : Int32, z = (-1 : Int32) := ⟨_, rfl⟩
            have tw45 : w45.toInt = (-1) := by rw [ew45]; decide
            obtain ⟨w46, ew46⟩ : ∃ z : Int32, z = (12 : Int32) + v4_1 := ⟨_, rfl⟩
            have tw46 : w46.toInt = ((12 : Int32) + v4_1).toInt := by rw [ew46]
            rw [show bk_X3_setOrderWords_O_130 o_a0 o_a0_now (lp_X3_setOrderWords_O_59 o_a0 o_a0_now  N1) v4_1 (-1 : Int32) ((12 : Int32) + v4_1) o41 = bk_X3_setOrderWords_O_130 o_a0 o_a0_now (lp_X3_setOrderWords_O_59 o_a0 o_a0_now  N1) v4_1 w45 w46 o41 from by rw [ew45, ew46]]
            unfold bk_X3_setOrderWords_O_130
            refine wp_gd (zin_of (m := 19) rfl (by omega) (by omega)) ?_
            refine wp_lt (fun o47 eo47 => ?_)
            have hIo47 : IvX3 o47 := by rw [eo47]; exact hIo41
            have ko47_k48 : (gA o47 0 w40.toNatClampNeg).toInt = (gA o41 0 w40.toNatClampNeg).toInt := by rw [eo47]; exact congrArg Int32.toInt (upd_ne (g := gA o41 0) (i := w46) (j := w40) (v := w45) (by omega) (by omega) (by omega))
            have ko47_v : (gA o47 0 w46.toNatClampNeg).toInt = w45.toInt := by rw [eo47]; exact congrArg Int32.toInt (upd_eq (g := gA o41 0) (i := w46) (v := w45))
            have hkpo47 : Kp [] [] [] o_me o47 := hkpo41.trans (by rw [eo47]; exact Kp.tA (by decide) (by decide))
            refine wp_lt (fun x49 ex49 => ?_)
            have tx49 : x49.toInt = v4_1.toInt + 1 := by rw [ex49]; exact i32_add rfl (by decide) (by omega) (by omega)
            exact ih1 x49 o47 hIo47 hkpo47 ⟨by omega, by omega⟩ (by omega)
          · have c44z := c44
            have c44i := hz43_1 c44
            have c44 := cv_ne (a := z43.toInt) (b := 0) rfl (by decide) c44
            refine wp_gd (zin_of (m := 7) rfl (by omega) (by omega)) ?_
            have t50 := iaX4_0_0 hI_a0_now (j := v4_1) (by omega) (by omega)
            obtain ⟨w51, ew51⟩ : ∃ z : Int32, z = gA o_a0_now 0 v4_1.toNatClampNeg := ⟨_, rfl⟩
            have tw51 : w51.toInt = (gA o_a0_now 0 v4_1.toNatClampNeg).toInt := by rw [ew51]
            obtain ⟨w52, ew52⟩ : ∃ z : Int32, z = (12 : Int32) + v4_1 := ⟨_, rfl⟩
            have tw52 : w52.toInt = ((12 : Int32) + v4_1).toInt := by rw [ew52]
            rw [show bk_X3_setOrderWords_O_130 o_a0 o_a0_now (lp_X3_setOrderWords_O_59 o_a0 o_a0_now  N1) v4_1 (gA o_a0_now 0 v4_1.toNatClampNeg) ((12 : Int32) + v4_1) o41 = bk_X3_setOrderWords_O_130 o_a0 o_a0_now (lp_X3_setOrderWords_O_59 o_a0 o_a0_now  N1) v4_1 w51 w52 o41 from by rw [ew51, ew52]]
            unfold bk_X3_setOrderWords_O_130
            refine wp_gd (zin_of (m := 19) rfl (by omega) (by omega)) ?_
            refine wp_lt (fun o53 eo53 => ?_)
            have hIo53 : IvX3 o53 := by rw [eo53]; exact hIo41
            have ko53_k54 : (gA o53 0 w40.toNatClampNeg).toInt = (gA o41 0 w40.toNatClampNeg).toInt := by rw [eo53]; exact congrArg Int32.toInt (upd_ne (g := gA o41 0) (i := w52) (j := w40) (v := w51) (by omega) (by omega) (by omega))
            have ko53_v : (gA o53 0 w52.toNatClampNeg).toInt = w51.toInt := by rw [eo53]; exact congrArg Int32.toInt (upd_eq (g := gA o41 0) (i := w52) (v := w51))
            have hkpo53 : Kp [] [] [] o_me o53 := hkpo41.trans (by rw [eo53]; exact Kp.tA (by decide) (by decide))
            refine wp_lt (fun x55 ex55 => ?_)
            have tx55 : x55.toInt = v4_1.toInt + 1 := by rw [ex55]; exact i32_add rfl (by decide) (by omega) (by omega)
            exact ih1 x55 o53 hIo53 hkpo53 ⟨by omega, by omega⟩ (by omega)
  exact lp1 zfu (0 : Int32) o12 hIo12 hkpo12 ⟨by decide, by decide⟩ (by show _ < 100000; omega)

set_option maxHeartbeats 4000000 in
set_option maxRecDepth 100000 in
theorem s_X8_isTrade (p0 : Int32)   : wp (f_X8_isTrade   p0) (fun (y : Int32) => (0 ≤ y.toInt ∧ y.toInt ≤ 1) ∧ (¬ y = 0 → (0 ≤ p0.toInt ∧ p0.toInt ≤ 9))) := by
  have li0 : (0 : Int32).toInt = 0 := by decide
  have li1 : (1 : Int32).toInt = 1 := by decide
  have li2 : (10 : Int32).toInt = 10 := by decide
  unfold f_X8_isTrade
  refine wp_if (fun c1 => ?_) (fun c1 => ?_)
  · have c1 := cv_lt (a := p0.toInt) (b := 0) rfl (by decide) c1
    refine wp_some ?_
    exact (show (0 ≤ (0 : Int32).toInt ∧ (0 : Int32).toInt ≤ 1) ∧ (¬ (0 : Int32) = 0 → (0 ≤ p0.toInt ∧ p0.toInt ≤ 9)) from ⟨⟨by decide, by decide⟩, (fun h9 => absurd rfl h9)⟩)
  · have c1 := cv_nlt (a := p0.toInt) (b := 0) rfl (by decide) c1
    refine wp_if (fun c2 => ?_) (fun c2 => ?_)
    · have c2 := cv_ge (a := p0.toInt) (b := 10) rfl (by decide) c2
      refine wp_some ?_
      exact (show (0 ≤ (0 : Int32).toInt ∧ (0 : Int32).toInt ≤ 1) ∧ (¬ (0 : Int32) = 0 → (0 ≤ p0.toInt ∧ p0.toInt ≤ 9)) from ⟨⟨by decide, by decide⟩, (fun h9 => absurd rfl h9)⟩)
    · have c2 := cv_nge (a := p0.toInt) (b := 10) rfl (by decide) c2
      refine wp_some ?_
      exact (show (0 ≤ (1 : Int32).toInt ∧ (1 : Int32).toInt ≤ 1) ∧ (¬ (1 : Int32) = 0 → (0 ≤ p0.toInt ∧ p0.toInt ≤ 9)) from ⟨⟨by decide, by decide⟩, (fun h9 => ⟨by omega, by omega⟩)⟩)

set_option maxHeartbeats 4000000 in
set_option maxRecDepth 100000 in
theorem s_X5_clear (o_me : Ob) (hI_me : IvX5 o_me)  : wp (f_X5_clear   o_me) (fun (y : Ob) => IvX5 y ∧ Kp [] [] [] o_me y) := by
  have li0 : (0 : Int32).toInt = 0 := by decide
  unfold f_X5_clear
  refine wp_lt (fun o1 eo1 => ?_)
  have hIo1 : IvX5 o1 := by rw [eo1]; exact ipX5_2 hI_me ⟨by decide, by decide⟩
  have ko1_v : (gI o1 2).toInt = 0 := by rw [eo1]; exact (show ((0 : Int32)).toInt = _ from by decide)
  have hkpo1 : Kp [] [] [] o_me o1 := Kp.rf.trans (by rw [eo1]; exact Kp.sI (by decide))
  refine wp_lt (fun o2 eo2 => ?_)
  have hIo2 : IvX5 o2 := by rw [eo2]; exact ipX5_3 hIo1 ⟨by decide, by decide⟩
  have ko2_k3 : (gI o2 2).toInt = (gI o1 2).toInt := by rw [eo2]; rfl
  have ko2_v : (gI o2 3).toInt = 0 := by rw [eo2]; exact (show ((0 : Int32)).toInt = _ from by decide)
  have hkpo2 : Kp [] [] [] o_me o2 := hkpo1.trans (by rw [eo2]; exact Kp.sI (by decide))
  refine wp_some ?_
  exact (show IvX5 o2 ∧ Kp [] [] [] o_me o2 from ⟨hIo2, hkpo2⟩)

set_option maxHeartbeats 4000000 in
set_option maxRecDepth 100000 in
theorem s_X2_addPerson {pl : List CR} (o_me : Ob) (o_me_now : Ob) (p0 : Int32) (p1 : Int32) (hI_me : IvX2 pl o_me) (hI_me_now : IvX4 o_me_now) (q0 : 0 ≤ p0.toInt ∧ p0.toInt ≤ 9) (q1 : (-1) ≤ p1.toInt ∧ p1.toInt ≤ 6) : wp (f_X2_addPerson   o_me o_me_now p0 p1) (fun (y : Int32 × Ob × Ob) => ((-1) ≤ y.1.toInt ∧ y.1.toInt ≤ 6) ∧ IvX2 pl y.2.1 ∧ Kp [8, 9, 10] [4] [] o_me y.2.1 ∧ IvX4 y.2.2 ∧ Kp [] [] [] o_me_now y.2.2) := by
  have li0 : (-1 : Int32).toInt = (-1) := by decide
  have li1 : (1 : Int32).toInt = 1 := by decide
  have li2 : (7 : Int32).toInt = 7 := by decide
  unfold f_X2_addPerson
  have t1 := igX2_7 hI_me
  refine wp_if (fun c2 => ?_) (fun c2 => ?_)
  · have c2 := cv_lt (a := (gI o_me 7).toInt) (b := 7) rfl (by decide) c2
    refine wp_gd (zin_of (m := 7) rfl (by omega) (by omega)) ?_
    refine wp_lt (fun o3 eo3 => ?_)
    have hIo3 : IvX4 o3 := by rw [eo3]; exact ibX4_0 hI_me_now (by omega) (Or.inr (Or.inr ⟨by omega, by omega⟩))
    have ko3_v : (gA o3 0 (gI o_me 7).toNatClampNeg).toInt = p0.toInt := by rw [eo3]; exact congrArg Int32.toInt (upd_eq (g := gA o_me_now 0) (i := (gI o_me 7)) (v := p0))
    have hkpo3 : Kp [] [] [] o_me_now o3 := Kp.rf.trans (by rw [eo3]; exact Kp.tA (by decide) (by decide))
    refine wp_gd (zin_of (m := 7) rfl (by omega) (by omega)) ?_
    refine wp_lt (fun o4 eo4 => ?_)
    have hIo4 : IvX2 pl o4 := by rw [eo4]; exact hI_me
    have ko4_k5 : (gI o4 7).toInt = (gI o_me 7).toInt := by rw [eo4]; rfl
    have ko4_v : (gA o4 1 (gI o_me 7).toNatClampNeg).toInt = p1.toInt := by rw [eo4]; exact congrArg Int32.toInt (upd_eq (g := gA o_me 1) (i := (gI o_me 7)) (v := p1))
    have hkpo4 : Kp [8, 9, 10] [4] [] o_me o4 := Kp.rf.trans (by rw [eo4]; exact Kp.tA (by decide) (by decide))
    have t6 : ((gI o4 7) + (1 : Int32)).toInt = (gI o4 7).toInt + 1 := i32_add rfl (by decide) (by omega) (by omega)
    refine wp_lt (fun o7 eo7 => ?_)
    have hIo7 : IvX2 pl o7 := by rw [eo7]; exact ipX2_7 hIo4 ⟨by omega, by omega⟩
    have ko7_k8 : (gA o7 1 (gI o_me 7).toNatClampNeg).toInt = (gA o4 1 (gI o_me 7).toNatClampNeg).toInt := by rw [eo7]; rfl
    have ko7_v : (gI o7 7).toInt = ((gI o4 7) + (1 : Int32)).toInt := by rw [eo7]; rfl
    have hkpo7 : Kp [8, 9, 10] [4] [] o_me o7 := hkpo4.trans (by rw [eo7]; exact Kp.sI (by decide))
    have t9 : ((gI o7 7) - (1 : Int32)).toInt = (gI o7 7).toInt - 1 := i32_sub rfl (by decide) (by omega) (by omega)
    refine wp_some ?_
    exact (show ((-1) ≤ ((gI o7 7) - (1 : Int32)).toInt ∧ ((gI o7 7) - (1 : Int32)).toInt ≤ 6) ∧ IvX2 pl o7 ∧ Kp [8, 9, 10] [4] [] o_me o7 ∧ IvX4 o3 ∧ Kp [] [] [] o_me_now o3 from ⟨⟨by omega, by omega⟩, hIo7, hkpo7, hIo3, hkpo3⟩)
  · have c2 := cv_nlt (a := (gI o_me 7).toInt) (b := 7) rfl (by decide) c2
    refine wp_some ?_
    exact (show ((-1) ≤ (-1 : Int32).toInt ∧ (-1 : Int32).toInt ≤ 6) ∧ IvX2 pl o_me ∧ Kp [8, 9, 10] [4] [] o_me o_me ∧ IvX4 o_me_now ∧ Kp [] [] [] o_me_now o_me_now from ⟨⟨by decide, by decide⟩, hI_me, Kp.rf, hI_me_now, Kp.rf⟩)

