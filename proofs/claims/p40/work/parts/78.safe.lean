set_option maxHeartbeats 4000000 in
set_option maxRecDepth 100000 in
theorem s_X7_lineOfHeirs {pl : List CR} (o_me : Ob) (o_me_court_isles : Ob) (hI_me : IvX7 o_me) (hI_me_court_isles : IvX2 pl o_me_court_isles)  : wp (f_X7_lineOfHeirs   o_me o_me_court_isles) (fun (y : Int32 × Ob) => (0 ≤ y.1.toInt ∧ y.1.toInt ≤ 7) ∧ IvX7 y.2 ∧ Kp [] [] [] o_me y.2) := by
  unfold f_X7_lineOfHeirs
  refine wp_bd (s_X7_awaitChildren   o_me o_me_court_isles (-1 : Int32) (0 : Int32)  hI_me hI_me_court_isles  ⟨by decide, by decide⟩ ⟨by decide, by decide⟩) (fun z1 hz1 => ?_)
  obtain ⟨hz1_0, hz1_1, hz1_2⟩ := hz1
  have hkpz1_me : Kp [] [] [] o_me z1.2 := Kp.rf.trans (hz1_2.mono (by decide) (by decide) (by decide))
  have lp1 : ∀ (N1 : Nat) (v1_1 : Int32) (v2_1 : Int32) (v3_1 : Int32) (o_me_1 : Ob), IvX7 o_me_1 → Kp [] [] [] o_me o_me_1 → (0 ≤ v1_1.toInt ∧ v1_1.toInt ≤ 7) → (0 ≤ v2_1.toInt ∧ v2_1.toInt ≤ 7) → (0 ≤ v3_1.toInt ∧ v3_1.toInt ≤ 7) → (v1_1.toInt ≤ v3_1.toInt + 0) → (7 - v3_1.toInt).toNat < N1 → wp (lp_X7_lineOfHeirs_11 o_me_court_isles  N1 (v1_1, v2_1, v3_1, o_me_1)) (fun (y : Int32 × Ob) => (0 ≤ y.1.toInt ∧ y.1.toInt ≤ 7) ∧ IvX7 y.2 ∧ Kp [] [] [] o_me y.2) := by
    intro N1
    induction N1 with
    | zero =>
      intro v1_1 v2_1 v3_1 o_me_1 hI_me_1 hkp_me_1 hh2 hh3 hh4 hh5 hN1
      exact absurd hN1 (Nat.not_lt_zero _)
    | succ N1 ihx =>
      have ih1 := ihx
      intro v1_1 v2_1 v3_1 o_me_1 hI_me_1 hkp_me_1 hh2 hh3 hh4 hh5 hN1
      show wp (lb_X7_lineOfHeirs_11 o_me_court_isles  (lp_X7_lineOfHeirs_11 o_me_court_isles  N1) v1_1 v2_1 v3_1 o_me_1) (fun (y : Int32 × Ob) => (0 ≤ y.1.toInt ∧ y.1.toInt ≤ 7) ∧ IvX7 y.2 ∧ Kp [] [] [] o_me y.2)
      unfold lb_X7_lineOfHeirs_11
      have t6 := igX2_7 hI_me_court_isles
      refine wp_if (fun c7 => ?_) (fun c7 => ?_)
      · have c7 := cv_ge (a := v3_1.toInt) (b := (gI o_me_court_isles 7).toInt) rfl rfl c7
        refine wp_some ?_
        exact (show (0 ≤ v1_1.toInt ∧ v1_1.toInt ≤ 7) ∧ IvX7 o_me_1 ∧ Kp [] [] [] o_me o_me_1 from ⟨⟨hh2.1, hh2.2⟩, hI_me_1, hkp_me_1⟩)
      · have c7 := cv_nge (a := v3_1.toInt) (b := (gI o_me_court_isles 7).toInt) rfl rfl c7
        refine wp_if (fun c8 => ?_) (fun c8 => ?_)
        · have c8 := cv_le (a := v2_1.toInt) (b := 0) rfl (by decide) c8
          refine wp_some ?_
          exact (show (0 ≤ v1_1.toInt ∧ v1_1.toInt ≤ 7) ∧ IvX7 o_me_1 ∧ Kp [] [] [] o_me o_me_1 from ⟨⟨hh2.1, hh2.2⟩, hI_me_1, hkp_me_1⟩)
        · have c8 := cv_nle (a := v2_1.toInt) (b := 0) rfl (by decide) c8
          refine wp_lt (fun x9 ex9 => ?_)
          have tx9 : x9.toInt = v2_1.toInt + (-1) := by rw [ex9]; exact i32_add rfl (by decide) (zk_l (zlt_l (c := 1) c8 (by decide)) (by decide)) (zk_u hh3.2 (by decide))
          refine wp_gd (zin_of (m := 7) rfl (zl_e (zq_r (c := 1) tx9 (by decide)) (zlt_l (c := 1) c8 (by decide)) (by decide)) (zlt_m (c := 6) (zu_e (Int.le_of_eq tx9) hh3.2 (by decide)) (by decide))) ?_
          have t10 := iaX7_3_0 hI_me_1 (j := x9) (zl_e (zq_r (c := 1) tx9 (by decide)) (zlt_l (c := 1) c8 (by decide)) (by decide)) (zu_e (Int.le_of_eq tx9) hh3.2 (by decide))
          refine wp_lt (fun x11 ex11 => ?_)
          have tx11 : x11.toInt = (gA o_me_1 3 x9.toNatClampNeg).toInt := by rw [ex11]
          refine wp_bd (s_X7_elders   o_me_1 o_me_court_isles x11  hI_me_1 hI_me_court_isles  ⟨(zl_e (zq_0 tx11.symm) t10.1 (by decide)), (zu_e (zq_0 tx11) t10.2 (by decide))⟩) (fun z12 hz12 => ?_)
          refine wp_if (fun c13 => ?_) (fun c13 => ?_)
          · unfold bk_X7_lineOfHeirs_58
            refine wp_bd (s_X7_awaitChildren   o_me_1 o_me_court_isles x11 x9  hI_me_1 hI_me_court_isles  ⟨(zl_e (zq_0 tx11.symm) t10.1 (by decide)), (zu_e (zq_0 tx11) t10.2 (by decide))⟩ ⟨(zl_e (zq_r (c := 1) tx9 (by decide)) (zlt_l (c := 1) c8 (by decide)) (by decide)), (zu_e (Int.le_of_eq tx9) hh3.2 (by decide))⟩) (fun z14 hz14 => ?_)
            obtain ⟨hz14_0, hz14_1, hz14_2⟩ := hz14
            have hkpz14_me : Kp [] [] [] o_me z14.2 := hkp_me_1.trans (hz14_2.mono (by decide) (by decide) (by decide))
            refine wp_lt (fun x15 ex15 => ?_)
            have tx15 : x15.toInt = v3_1.toInt + 1 := by rw [ex15]; exact i32_add rfl (by decide) (zk_l hh4.1 (by decide)) (zk_u (zu_e (k := 6) (zl_d c7) t6.2 (by decide)) (by decide))
            exact ih1 v1_1 z14.1 x15 z14.2 hz14_1 hkpz14_me ⟨hh2.1, hh2.2⟩ ⟨hz14_0.1, hz14_0.2⟩ ⟨(zl_e (zq_r (c := (-1)) tx15 (by decide)) hh4.1 (by decide)), (zu_e (zd_e (c := 0) (Int.le_of_eq tx15) (zl_d c7) (by decide)) t6.2 (by decide))⟩ (zd_w (zd_e (c := (-1)) hh5 (zq_r (c := (-1)) tx15 (by decide)) (by decide)) (by decide)) (zms_u (c := 6) hN1 (zq_r (c := (-1)) tx15 (by decide)) (zu_e (zl_d c7) t6.2 (by decide)) (by decide))
          · refine wp_gd (zin_of (m := 7) rfl hh2.1 (zlt_m (c := 6) (zu_e (zd_e (c := (-1)) hh5 (zl_d c7) (by decide)) t6.2 (by decide)) (by decide))) ?_
            refine wp_lt (fun o16 eo16 => ?_)
            have hIo16 : IvX7 o16 := by rw [eo16]; exact ibX7_2 hI_me_1 hh2.1  (Or.inr (Or.inr ⟨(zl_e (zq_0 tx11.symm) t10.1 (by decide)), (zu_e (zq_0 tx11) t10.2 (by decide))⟩))
            have hkpo16 : Kp [] [] [] o_me o16 := hkp_me_1.trans (by rw [eo16]; exact Kp.tA (by decide) (by decide))
            refine wp_lt (fun x18 ex18 => ?_)
            have tx18 : x18.toInt = v1_1.toInt + 1 := by rw [ex18]; exact i32_add rfl (by decide) (zk_l hh2.1 (by decide)) (zk_u (zu_e (k := 6) (zd_e (c := (-1)) hh5 (zl_d c7) (by decide)) t6.2 (by decide)) (by decide))
            unfold bk_X7_lineOfHeirs_58
            refine wp_bd (s_X7_awaitChildren   o16 o_me_court_isles x11 x9  hIo16 hI_me_court_isles  ⟨(zl_e (zq_0 tx11.symm) t10.1 (by decide)), (zu_e (zq_0 tx11) t10.2 (by decide))⟩ ⟨(zl_e (zq_r (c := 1) tx9 (by decide)) (zlt_l (c := 1) c8 (by decide)) (by decide)), (zu_e (Int.le_of_eq tx9) hh3.2 (by decide))⟩) (fun z19 hz19 => ?_)
            obtain ⟨hz19_0, hz19_1, hz19_2⟩ := hz19
            have hkpz19_me : Kp [] [] [] o_me z19.2 := hkpo16.trans (hz19_2.mono (by decide) (by decide) (by decide))
            refine wp_lt (fun x21 ex21 => ?_)
            have tx21 : x21.toInt = v3_1.toInt + 1 := by rw [ex21]; exact i32_add rfl (by decide) (zk_l hh4.1 (by decide)) (zk_u (zu_e (k := 6) (zl_d c7) t6.2 (by decide)) (by decide))
            exact ih1 x18 z19.1 x21 z19.2 hz19_1 hkpz19_me ⟨(zl_e (zq_r (c := (-1)) tx18 (by decide)) hh2.1 (by decide)), (zu_e (zd_e (c := 0) (zd_e (c := 1) (Int.le_of_eq tx18) hh5 (by decide)) (zl_d c7) (by decide)) t6.2 (by decide))⟩ ⟨hz19_0.1, hz19_0.2⟩ ⟨(zl_e (zq_r (c := (-1)) tx21 (by decide)) hh4.1 (by decide)), (zu_e (zd_e (c := 0) (Int.le_of_eq tx21) (zl_d c7) (by decide)) t6.2 (by decide))⟩ (zd_e (c := 0) (zd_e (c := 1) (Int.le_of_eq tx18) hh5 (by decide)) (zq_r (c := (-1)) tx21 (by decide)) (by decide)) (zms_u (c := 6) hN1 (zq_r (c := (-1)) tx21 (by decide)) (zu_e (zl_d c7) t6.2 (by decide)) (by decide))
  exact lp1 zfu (0 : Int32) z1.1 (0 : Int32) z1.2 hz1_1 hkpz1_me ⟨by decide, by decide⟩ ⟨hz1_0.1, hz1_0.2⟩ ⟨by decide, by decide⟩ (zd_r (by decide)) (zme_u (l := 0) (Int.le_of_eq tz0.symm) (by decide))

set_option maxHeartbeats 4000000 in
set_option maxRecDepth 100000 in
theorem s_X8_heir {pl : List CR} {rI : Nat → Option Nat} (o_me : Ob) (o_me_isles : Ob) (o_me_study : Ob) (p0 : Int32) (hI_me : IvX8 rI o_me) (hI_me_isles : IvX2 pl o_me_isles) (hI_me_study : IvX7 o_me_study)  : wp (f_X8_heir   o_me o_me_isles o_me_study p0) (fun (y : Int32 × Ob) => ((-1) ≤ y.1.toInt ∧ y.1.toInt ≤ 7) ∧ IvX7 y.2 ∧ Kp [] [] [] o_me_study y.2) := by
  unfold f_X8_heir
  refine wp_if (fun c1 => ?_) (fun c1 => ?_)
  · have c1 := cv_ge (a := p0.toInt) (b := (-1)) rfl (by decide) c1
    refine wp_bd (s_X7_lineOfHeirs   o_me_study o_me_isles  hI_me_study hI_me_isles  ) (fun z2 hz2 => ?_)
    obtain ⟨hz2_0, hz2_1, hz2_2⟩ := hz2
    have hkpz2_me_study : Kp [] [] [] o_me_study z2.2 := Kp.rf.trans (hz2_2.mono (by decide) (by decide) (by decide))
    refine wp_if (fun c3 => ?_) (fun c3 => ?_)
    · have c3 := cv_eq (a := p0.toInt) (b := (-1)) rfl (by decide) c3
      refine wp_some ?_
      exact (show ((-1) ≤ z2.1.toInt ∧ z2.1.toInt ≤ 7) ∧ IvX7 z2.2 ∧ Kp [] [] [] o_me_study z2.2 from ⟨⟨(Int.le_trans (by decide) hz2_0.1), hz2_0.2⟩, hz2_1, hkpz2_me_study⟩)
    · have c3 := cv_ne (a := p0.toInt) (b := (-1)) rfl (by decide) c3
      refine wp_if (fun c4 => ?_) (fun c4 => ?_)
      · have c4 := cv_ge (a := p0.toInt) (b := z2.1.toInt) rfl rfl c4
        refine wp_some ?_
        exact (show ((-1) ≤ (-1 : Int32).toInt ∧ (-1 : Int32).toInt ≤ 7) ∧ IvX7 z2.2 ∧ Kp [] [] [] o_me_study z2.2 from ⟨⟨by decide, by decide⟩, hz2_1, hkpz2_me_study⟩)
      · have c4 := cv_nge (a := p0.toInt) (b := z2.1.toInt) rfl rfl c4
        refine wp_gd (zin_of (m := 7) rfl (zn_l (c := 0) c1 c3 (by decide)) (zlt_m (c := 6) (zu_e (zl_d c4) hz2_0.2 (by decide)) (by decide))) ?_
        have t6 := iaX7_2_0 hz2_1 (j := p0) (zn_l (c := 0) c1 c3 (by decide)) (zu_e (zl_d c4) hz2_0.2 (by decide))
        refine wp_some ?_
        exact (show ((-1) ≤ (gA z2.2 2 p0.toNatClampNeg).toInt ∧ (gA z2.2 2 p0.toNatClampNeg).toInt ≤ 7) ∧ IvX7 z2.2 ∧ Kp [] [] [] o_me_study z2.2 from ⟨⟨(Int.le_trans (by decide) t6.1), t6.2⟩, hz2_1, hkpz2_me_study⟩)
  · refine wp_some ?_
    exact (show ((-1) ≤ (-1 : Int32).toInt ∧ (-1 : Int32).toInt ≤ 7) ∧ IvX7 o_me_study ∧ Kp [] [] [] o_me_study o_me_study from ⟨⟨by decide, by decide⟩, hI_me_study, Kp.rf⟩)

set_option maxHeartbeats 4000000 in
set_option maxRecDepth 100000 in
theorem s_X7_waysUp (o_me : Ob) (p0 : Int32) (p1 : Int32) (hI_me : IvX7 o_me) (q0 : 1 ≤ p0.toInt ∧ p0.toInt ≤ 60) (q1 : 1 ≤ p1.toInt ∧ p1.toInt ≤ 5) : wp (f_X7_waysUp   o_me p0 p1) (fun (y : Int64 × Ob) => IvX7 y.2 ∧ Kp [] [2, 3] [] o_me y.2) := by
  have li0 : (0 : Int32).toInt = 0 := by decide
  have li1 : (0 : Int64).toInt = 0 := by decide
  have li2 : (1 : Int32).toInt = 1 := by decide
  have li3 : (1 : Int64).toInt = 1 := by decide
  have li4 : (2 : Int32).toInt = 2 := by decide
  have li5 : (60 : Int32).toInt = 60 := by decide
  unfold f_X7_waysUp
  refine wp_lt (fun o1 eo1 => ?_)
  have hIo1 : IvX7 o1 := by rw [eo1]; exact hI_me
  have hkpo1 : Kp [] [2, 3] [] o_me o1 := Kp.rf.trans (by rw [eo1]; exact Kp.tM)
  have lp1 : ∀ (N1 : Nat) (v1_1 : Int32) (v2_1 : Int32) (v3_1 : Int32) (o_me_1 : Ob), IvX7 o_me_1 → Kp [] [2, 3] [] o_me o_me_1 → (1 ≤ v1_1.toInt ∧ v1_1.toInt ≤ 60) → (1 ≤ v3_1.toInt ∧ v3_1.toInt ≤ 61) → (61 - v3_1.toInt).toNat < N1 → wp (lp_X7_waysUp_9   N1 (v1_1, v2_1, v3_1, o_me_1)) (fun (y : Int64 × Ob) => IvX7 y.2 ∧ Kp [] [2, 3] [] o_me y.2) := by
    intro N1
    induction N1 with
    | zero =>
      intro v1_1 v2_1 v3_1 o_me_1 hI_me_1 hkp_me_1 hh2 hh3 hN1
      exact absurd hN1 (Nat.not_lt_zero _)
    | succ N1 ihx =>
      have ih1 := ihx
      intro v1_1 v2_1 v3_1 o_me_1 hI_me_1 hkp_me_1 hh2 hh3 hN1
      show wp (lb_X7_waysUp_9   (lp_X7_waysUp_9   N1) v1_1 v2_1 v3_1 o_me_1) (fun (y : Int64 × Ob) => IvX7 y.2 ∧ Kp [] [2, 3] [] o_me y.2)
      unfold lb_X7_waysUp_9
      refine wp_if (fun c4 => ?_) (fun c4 => ?_)
      · have c4 := cv_gt (a := v3_1.toInt) (b := v1_1.toInt) rfl rfl c4
        unfold bk_X7_waysUp_77
        refine wp_if (fun c5 => ?_) (fun c5 => ?_)
        · have c5 := cv_lt (a := v1_1.toInt) (b := 0) rfl (by decide) c5
          exact absurd c5 (Int.not_lt.mpr (Int.le_trans (by decide) hh2.1))
        · have c5 := cv_nlt (a := v1_1.toInt) (b := 0) rfl (by decide) c5
          refine wp_if (fun c6 => ?_) (fun c6 => ?_)
          · have c6 := cv_gt (a := v1_1.toInt) (b := 60) rfl (by decide) c6
            exact absurd c6 (Int.not_lt.mpr hh2.2)
          · have c6 := cv_ngt (a := v1_1.toInt) (b := 60) rfl (by decide) c6
            refine wp_gd (zin_of (m := 61) rfl (Int.le_trans (by decide) hh2.1) (zlt_m (c := 60) hh2.2 (by decide))) ?_
            refine wp_some ?_
            exact (show IvX7 o_me_1 ∧ Kp [] [2, 3] [] o_me o_me_1 from ⟨hI_me_1, hkp_me_1⟩)
      · have c4 := cv_ngt (a := v3_1.toInt) (b := v1_1.toInt) rfl rfl c4
        refine wp_if (fun c7 => ?_) (fun c7 => ?_)
        · have c7 := cv_gt (a := v3_1.toInt) (b := 60) rfl (by decide) c7
          exact absurd c7 (Int.not_lt.mpr (zu_e (zl_0 c4) hh2.2 (by decide)))
        · have c7 := cv_ngt (a := v3_1.toInt) (b := 60) rfl (by decide) c7
          have lp2 : ∀ (N2 : Nat) (v1_2 : Int32) (v2_2 : Int32) (v3_2 : Int32) (v4_2 : Int64) (v6_2 : Int32) (o_me_2 : Ob), IvX7 o_me_2 → Kp [] [2, 3] [] o_me o_me_2 → (1 ≤ v1_2.toInt ∧ v1_2.toInt ≤ 60) → (1 ≤ v3_2.toInt ∧ v3_2.toInt ≤ 60) → (1 ≤ v6_2.toInt ∧ v6_2.toInt ≤ 61) → (v3_1.toInt ≤ v3_2.toInt + 0) → (61 - v6_2.toInt).toNat < N2 → wp (lp_X7_waysUp_26  (lp_X7_waysUp_9   N1) N2 (v1_2, v2_2, v3_2, v4_2, v6_2, o_me_2)) (fun (y : Int64 × Ob) => IvX7 y.2 ∧ Kp [] [2, 3] [] o_me y.2) := by
            intro N2
            induction N2 with
            | zero =>
              intro v1_2 v2_2 v3_2 v4_2 v6_2 o_me_2 hI_me_2 hkp_me_2 hh8 hh9 hh10 hh11 hN2
              exact absurd hN2 (Nat.not_lt_zero _)
            | succ N2 ihx =>
              have ih2 := ihx
              intro v1_2 v2_2 v3_2 v4_2 v6_2 o_me_2 hI_me_2 hkp_me_2 hh8 hh9 hh10 hh11 hN2
              show wp (lb_X7_waysUp_26  (lp_X7_waysUp_9   N1) (lp_X7_waysUp_26  (lp_X7_waysUp_9   N1) N2) v1_2 v2_2 v3_2 v4_2 v6_2 o_me_2) (fun (y : Int64 × Ob) => IvX7 y.2 ∧ Kp [] [2, 3] [] o_me y.2)
              unfold lb_X7_waysUp_26
              have rg13 := i32_rg v2_2
              refine wp_if (fun c12 => ?_) (fun c12 => ?_)
              · have c12 := cv_gt (a := v6_2.toInt) (b := v2_2.toInt) rfl rfl c12
                unfold bk_X7_waysUp_63
                refine wp_gd (zin_of (m := 61) rfl (Int.le_trans (by decide) hh9.1) (zlt_m (c := 60) hh9.2 (by decide))) ?_
                refine wp_lt (fun o14 eo14 => ?_)
                have hIo14 : IvX7 o14 := by rw [eo14]; exact hI_me_2
                have hkpo14 : Kp [] [2, 3] [] o_me o14 := hkp_me_2.trans (by rw [eo14]; exact Kp.tM)
                refine wp_lt (fun x15 ex15 => ?_)
                have tx15 : x15.toInt = v3_2.toInt + 1 := by rw [ex15]; exact i32_add rfl (by decide) (zk_l hh9.1 (by decide)) (zk_u hh9.2 (by decide))
                exact ih1 v1_2 v2_2 x15 o14 hIo14 hkpo14 ⟨hh8.1, hh8.2⟩ ⟨(zl_e (zq_r (c := (-1)) tx15 (by decide)) hh9.1 (by decide)), (zu_e (Int.le_of_eq tx15) hh9.2 (by decide))⟩ (zms_u (c := 60) hN1 (zd_e (c := (-1)) hh11 (zq_r (c := (-1)) tx15 (by decide)) (by decide)) c7 (by decide))
              · have c12 := cv_ngt (a := v6_2.toInt) (b := v2_2.toInt) rfl rfl c12
                refine wp_if (fun c16 => ?_) (fun c16 => ?_)
                · have c16 := cv_gt (a := v6_2.toInt) (b := v3_2.toInt) rfl rfl c16
                  unfold bk_X7_waysUp_63
                  refine wp_gd (zin_of (m := 61) rfl (Int.le_trans (by decide) hh9.1) (zlt_m (c := 60) hh9.2 (by decide))) ?_
                  refine wp_lt (fun o17 eo17 => ?_)
                  have hIo17 : IvX7 o17 := by rw [eo17]; exact hI_me_2
                  have hkpo17 : Kp [] [2, 3] [] o_me o17 := hkp_me_2.trans (by rw [eo17]; exact Kp.tM)
                  refine wp_lt (fun x18 ex18 => ?_)
                  have tx18 : x18.toInt = v3_2.toInt + 1 := by rw [ex18]; exact i32_add rfl (by decide) (zk_l hh9.1 (by decide)) (zk_u hh9.2 (by decide))
                  exact ih1 v1_2 v2_2 x18 o17 hIo17 hkpo17 ⟨hh8.1, hh8.2⟩ ⟨(zl_e (zq_r (c := (-1)) tx18 (by decide)) hh9.1 (by decide)), (zu_e (Int.le_of_eq tx18) hh9.2 (by decide))⟩ (zms_u (c := 60) hN1 (zd_e (c := (-1)) hh11 (zq_r (c := (-1)) tx18 (by decide)) (by decide)) c7 (by decide))
                · have c16 := cv_ngt (a := v6_2.toInt) (b := v3_2.toInt) rfl rfl c16
                  refine wp_if (fun c19 => ?_) (fun c19 => ?_)
                  · have c19 := cv_eq (a := v3_2.toInt) (b := 2) rfl (by decide) c19
                    unfold bk_X7_waysUp_63
                    refine wp_gd (zin_of (m := 61) rfl (Int.le_trans (by decide) hh9.1) (zlt_m (c := 60) hh9.2 (by decide))) ?_
                    refine wp_lt (fun o20 eo20 => ?_)
                    have hIo20 : IvX7 o20 := by rw [eo20]; exact hI_me_2
                    have hkpo20 : Kp [] [2, 3] [] o_me o20 := hkp_me_2.trans (by rw [eo20]; exact Kp.tM)
                    refine wp_lt (fun x21 ex21 => ?_)
                    have tx21 : x21.toInt = v3_2.toInt + 1 := by rw [ex21]; exact i32_add rfl (by decide) (zk_l (Int.le_of_eq c19.symm) (by decide)) (zk_u (Int.le_of_eq c19) (by decide))
                    exact ih1 v1_2 v2_2 x21 o20 hIo20 hkpo20 ⟨hh8.1, hh8.2⟩ ⟨(zl_e (zq_r (c := (-1)) tx21 (by decide)) hh9.1 (by decide)), (zu_e (Int.le_of_eq tx21) hh9.2 (by decide))⟩ (zms_u (c := 60) hN1 (zd_e (c := (-1)) hh11 (zq_r (c := (-1)) tx21 (by decide)) (by decide)) c7 (by decide))
                  · have c19 := cv_ne (a := v3_2.toInt) (b := 2) rfl (by decide) c19
                    have t22 : (v3_2 - v6_2).toInt = v3_2.toInt - v6_2.toInt := i32_sub rfl rfl (zs_ll hh9.1 (zu_e (k := 60) (zl_0 c16) hh9.2 (by decide)) (by decide)) (zs_uu hh9.2 hh10.1 (by decide))
                    refine wp_gd (zin_of (m := 61) rfl (by omega) (zlt_m (c := 60) (Int.le_trans (zsq_u (c := 59) t22 hh9.2 hh10.1 (by decide)) (by decide)) (by decide))) ?_
                    refine wp_lt (fun x23 ex23 => ?_)
                    have tx23 : x23.toInt = (v4_2 + (gM o_me_2 7 (v3_2 - v6_2).toNatClampNeg)).toInt := by rw [ex23]
                    refine wp_lt (fun x24 ex24 => ?_)
                    have tx24 : x24.toInt = v6_2.toInt + 1 := by rw [ex24]; exact i32_add rfl (by decide) (zk_l hh10.1 (by decide)) (zk_u (zu_e (k := 60) (zl_0 c16) hh9.2 (by decide)) (by decide))
                    exact ih2 v1_2 v2_2 v3_2 x23 x24 o_me_2 hI_me_2 hkp_me_2 ⟨hh8.1, hh8.2⟩ ⟨hh9.1, hh9.2⟩ ⟨(zl_e (zq_r (c := (-1)) tx24 (by decide)) hh10.1 (by decide)), (zu_e (zd_e (c := 1) (Int.le_of_eq tx24) (zl_0 c16) (by decide)) hh9.2 (by decide))⟩ hh11 (zms_u (c := 60) hN2 (zq_r (c := (-1)) tx24 (by decide)) (zu_e (zl_0 c16) hh9.2 (by decide)) (by decide))
          exact lp2 zfu v1_1 v2_1 v3_1 (0 : Int64) (1 : Int32) o_me_1 hI_me_1 hkp_me_1 ⟨hh2.1, hh2.2⟩ ⟨hh3.1, c7⟩ ⟨by decide, by decide⟩ (zd_r (by decide)) (zme_u (l := 1) (Int.le_of_eq tz1.symm) (by decide))
  exact lp1 zfu p0 p1 (1 : Int32) o1 hIo1 hkpo1 ⟨q0.1, q0.2⟩ ⟨by decide, by decide⟩ (zme_u (l := 1) (Int.le_of_eq tz1.symm) (by decide))

set_option maxHeartbeats 4000000 in
set_option maxRecDepth 100000 in
theorem s_X8_ladder {rI : Nat → Option Nat} (o_me : Ob) (o_me_study : Ob) (p0 : Int32) (p1 : Int32) (hI_me : IvX8 rI o_me) (hI_me_study : IvX7 o_me_study)  : wp (f_X8_ladder   o_me o_me_study p0 p1) (fun (y : Int64 × Ob) => IvX7 y.2 ∧ Kp [] [2, 3] [] o_me_study y.2) := by
  unfold f_X8_ladder
  refine wp_if (fun c1 => ?_) (fun c1 => ?_)
  · have c1 := cv_lt (a := p0.toInt) (b := 1) rfl (by decide) c1
    refine wp_some ?_
    exact (show IvX7 o_me_study ∧ Kp [] [2, 3] [] o_me_study o_me_study from ⟨hI_me_study, Kp.rf⟩)
  · have c1 := cv_nlt (a := p0.toInt) (b := 1) rfl (by decide) c1
    refine wp_if (fun c2 => ?_) (fun c2 => ?_)
    · have c2 := cv_gt (a := p0.toInt) (b := 60) rfl (by decide) c2
      refine wp_some ?_
      exact (show IvX7 o_me_study ∧ Kp [] [2, 3] [] o_me_study o_me_study from ⟨hI_me_study, Kp.rf⟩)
    · have c2 := cv_ngt (a := p0.toInt) (b := 60) rfl (by decide) c2
      refine wp_if (fun c3 => ?_) (fun c3 => ?_)
      · have c3 := cv_lt (a := p1.toInt) (b := 1) rfl (by decide) c3
        refine wp_some ?_
        exact (show IvX7 o_me_study ∧ Kp [] [2, 3] [] o_me_study o_me_study from ⟨hI_me_study, Kp.rf⟩)
      · have c3 := cv_nlt (a := p1.toInt) (b := 1) rfl (by decide) c3
        refine wp_if (fun c4 => ?_) (fun c4 => ?_)
        · have c4 := cv_le (a := p1.toInt) (b := 5) rfl (by decide) c4
          refine wp_bd (s_X7_waysUp   o_me_study p0 p1  hI_me_study  ⟨c1, c2⟩ ⟨c3, c4⟩) (fun z5 hz5 => ?_)
          obtain ⟨hz5_0, hz5_1⟩ := hz5
          have hkpz5_me_study : Kp [] [2, 3] [] o_me_study z5.2 := Kp.rf.trans (hz5_1.mono (by decide) (by decide) (by decide))
          refine wp_some ?_
          exact (show IvX7 z5.2 ∧ Kp [] [2, 3] [] o_me_study z5.2 from ⟨hz5_0, hkpz5_me_study⟩)
        · refine wp_some ?_
          exact (show IvX7 o_me_study ∧ Kp [] [2, 3] [] o_me_study o_me_study from ⟨hI_me_study, Kp.rf⟩)

set_option maxHeartbeats 4000000 in
set_option maxRecDepth 100000 in
theorem s_J7_fill_53178_AX7_6 (o_a0 : Ob) (p1 : Int32) (hI_a0 : IvX7 o_a0)  : wp (f_J7_fill_53178_AX7_6   o_a0 p1) (fun (y : Ob) => IvX7 y ∧ Kp [] [2, 3] [] o_a0 y) := by
  unfold f_J7_fill_53178_AX7_6
  have lp1 : ∀ (N1 : Nat) (v1_1 : Int32) (v2_1 : Int32) (v3_1 : Int32) (o_a0_1 : Ob), IvX7 o_a0_1 → Kp [] [2, 3] [] o_a0 o_a0_1 → (0 ≤ v2_1.toInt ∧ v2_1.toInt ≤ 10) → (10 ≤ v3_1.toInt ∧ v3_1.toInt ≤ 10) → (10 - v2_1.toInt).toNat < N1 → wp (lp_J7_fill_53178_AX7_6_5   N1 (v1_1, v2_1, v3_1, o_a0_1)) (fun (y : Ob) => IvX7 y ∧ Kp [] [2, 3] [] o_a0 y) := by
    intro N1
    induction N1 with
    | zero =>
      intro v1_1 v2_1 v3_1 o_a0_1 hI_a0_1 hkp_a0_1 hh1 hh2 hN1
      exact absurd hN1 (Nat.not_lt_zero _)
    | succ N1 ihx =>
      have ih1 := ihx
      intro v1_1 v2_1 v3_1 o_a0_1 hI_a0_1 hkp_a0_1 hh1 hh2 hN1
      show wp (lb_J7_fill_53178_AX7_6_5   (lp_J7_fill_53178_AX7_6_5   N1) v1_1 v2_1 v3_1 o_a0_1) (fun (y : Ob) => IvX7 y ∧ Kp [] [2, 3] [] o_a0 y)
      unfold lb_J7_fill_53178_AX7_6_5
      refine wp_if (fun c3 => ?_) (fun c3 => ?_)
      · have c3 := cv_ge (a := v2_1.toInt) (b := v3_1.toInt) rfl rfl c3
        refine wp_some ?_
        exact (show IvX7 o_a0_1 ∧ Kp [] [2, 3] [] o_a0 o_a0_1 from ⟨hI_a0_1, hkp_a0_1⟩)
      · have c3 := cv_nge (a := v2_1.toInt) (b := v3_1.toInt) rfl rfl c3
        refine wp_gd (zin_of (m := 10) rfl hh1.1 (zlt_m (c := 9) (zu_e (zl_d c3) hh2.2 (by decide)) (by decide))) ?_
        refine wp_lt (fun o4 eo4 => ?_)
        have hIo4 : IvX7 o4 := by rw [eo4]; exact hI_a0_1
        have hkpo4 : Kp [] [2, 3] [] o_a0 o4 := hkp_a0_1.trans (by rw [eo4]; exact Kp.tA (by decide) (by decide))
        refine wp_lt (fun x5 ex5 => ?_)
        have tx5 : x5.toInt = v2_1.toInt + 1 := by rw [ex5]; exact i32_add rfl (by decide) (zk_l hh1.1 (by decide)) (zk_u (zu_e (k := 9) (zl_d c3) hh2.2 (by decide)) (by decide))
        exact ih1 v1_1 x5 v3_1 o4 hIo4 hkpo4 ⟨(zl_e (zq_r (c := (-1)) tx5 (by decide)) hh1.1 (by decide)), (zu_e (zd_e (c := 0) (Int.le_of_eq tx5) (zl_d c3) (by decide)) hh2.2 (by decide))⟩ ⟨hh2.1, hh2.2⟩ (zms_u (c := 9) hN1 (zq_r (c := (-1)) tx5 (by decide)) (zu_e (zl_d c3) hh2.2 (by decide)) (by decide))
  exact lp1 zfu p1 (0 : Int32) (10 : Int32) o_a0 hI_a0 Kp.rf ⟨by decide, by decide⟩ ⟨by decide, by decide⟩ (zme_u (l := 0) (Int.le_of_eq tz0.symm) (by decide))

set_option maxHeartbeats 4000000 in
set_option maxRecDepth 100000 in
theorem s_X7_alikeMost (o_me : Ob) (o_me_court : Ob) (o_me_court_isles : Ob) (o_me_court_isles_now : Ob) (o_me_court_machine : Ob) (o_pool : List CR) (p0 : Int32) (p1 : Int32) (hI_me : IvX7 o_me) (hI_me_court : IvX1 o_me_court) (hI_me_court_isles : IvX2 o_pool o_me_court_isles) (hI_me_court_isles_now : IvX4 o_me_court_isles_now) (hI_me_court_machine : IvX3 o_me_court_machine) (hI_pool : PLok o_pool) (q0 : 0 ≤ p1.toInt ∧ p1.toInt ≤ 3) : wp (f_X7_alikeMost   o_me o_me_court o_me_court_isles o_me_court_isles_now o_me_court_machine o_pool p0 p1) (fun (y : Int32 × Ob × Ob) => (0 ≤ y.1.toInt ∧ y.1.toInt ≤ 2147483647) ∧ IvX7 y.2.1 ∧ Kp [] [2, 3] [] o_me y.2.1 ∧ IvX3 y.2.2 ∧ Kp [] [] [] o_me_court_machine y.2.2) := by
  unfold f_X7_alikeMost
  refine wp_bd (s_J7_fill_53178_AX7_6   o_me (0 : Int32)  hI_me  ) (fun z1 hz1 => ?_)
  obtain ⟨hz1_0, hz1_1⟩ := hz1
  have hkpz1_me : Kp [] [2, 3] [] o_me z1 := Kp.rf.trans (hz1_1.mono (by decide) (by decide) (by decide))
  have lp1 : ∀ (N1 : Nat) (v1_1 : Int32) (v2_1 : Int32) (v3_1 : Int32) (v4_1 : Int32) (o_me_1 : Ob) (o_me_court_machine_1 : Ob), IvX7 o_me_1 → Kp [] [2, 3] [] o_me o_me_1 → IvX3 o_me_court_machine_1 → Kp [] [] [] o_me_court_machine o_me_court_machine_1 → (0 ≤ v2_1.toInt ∧ v2_1.toInt ≤ 3) → (0 ≤ v3_1.toInt ∧ v3_1.toInt ≤ 2147483647) → (0 ≤ v4_1.toInt ∧ v4_1.toInt ≤ 7) → (7 - v4_1.toInt).toNat < N1 → wp (lp_X7_alikeMost_13 o_me_court o_me_court_isles o_me_court_isles_now o_pool  N1 (v1_1, v2_1, v3_1, v4_1, o_me_1, o_me_court_machine_1)) (fun (y : Int32 × Ob × Ob) => (0 ≤ y.1.toInt ∧ y.1.toInt ≤ 2147483647) ∧ IvX7 y.2.1 ∧ Kp [] [2, 3] [] o_me y.2.1 ∧ IvX3 y.2.2 ∧ Kp [] [] [] o_me_court_machine y.2.2) := by
    intro N1
    induction N1 with
    | zero =>
      intro v1_1 v2_1 v3_1 v4_1 o_me_1 o_me_court_machine_1 hI_me_1 hkp_me_1 hI_me_court_machine_1 hkp_me_court_machine_1 hh2 hh3 hh4 hN1
      exact absurd hN1 (Nat.not_lt_zero _)
    | succ N1 ihx =>
      have ih1 := ihx
      intro v1_1 v2_1 v3_1 v4_1 o_me_1 o_me_court_machine_1 hI_me_1 hkp_me_1 hI_me_court_machine_1 hkp_me_court_machine_1 hh2 hh3 hh4 hN1
      show wp (lb_X7_alikeMost_13 o_me_court o_me_court_isles o_me_court_isles_now o_pool  (lp_X7_alikeMost_13 o_me_court o_me_court_isles o_me_court_isles_now o_pool  N1) v1_1 v2_1 v3_1 v4_1 o_me_1 o_me_court_machine_1) (fun (y : Int32 × Ob × Ob) => (0 ≤ y.1.toInt ∧ y.1.toInt ≤ 2147483647) ∧ IvX7 y.2.1 ∧ Kp [] [2, 3] [] o_me y.2.1 ∧ IvX3 y.2.2 ∧ Kp [] [] [] o_me_court_machine y.2.2)
      unfold lb_X7_alikeMost_13
      have t5 := igX2_7 hI_me_court_isles
      refine wp_if (fun c6 => ?_) (fun c6 => ?_)
      · have c6 := cv_ge (a := v4_1.toInt) (b := (gI o_me_court_isles 7).toInt) rfl rfl c6
        refine wp_some ?_
        exact (show (0 ≤ v3_1.toInt ∧ v3_1.toInt ≤ 2147483647) ∧ IvX7 o_me_1 ∧ Kp [] [2, 3] [] o_me o_me_1 ∧ IvX3 o_me_court_machine_1 ∧ Kp [] [] [] o_me_court_machine o_me_court_machine_1 from ⟨⟨hh3.1, hh3.2⟩, hI_me_1, hkp_me_1, hI_me_court_machine_1, hkp_me_court_machine_1⟩)
      · have c6 := cv_nge (a := v4_1.toInt) (b := (gI o_me_court_isles 7).toInt) rfl rfl c6
        refine wp_if (fun c9 => ?_) (fun c9 => ?_)
        · refine wp_bd (s_X2_lawInForce   o_me_court_isles  hI_me_court_isles  ) (fun z10 hz10 => ?_)
          have hz10_0 := hz10
          refine wp_bd (s_X1_turnsTo_Q   o_me_court o_me_court_isles o_me_court_isles_now o_me_court_machine_1 o_pool z10 v4_1 v2_1  hI_me_court hI_me_court_isles hI_me_court_isles_now hI_me_court_machine_1 hI_pool hz10_0 ⟨hh4.1, (zu_e (zl_d c6) t5.2 (by decide))⟩ ⟨hh2.1, hh2.2⟩) (fun z11 hz11 => ?_)
          obtain ⟨hz11_0, hz11_1, hz11_2⟩ := hz11
          have hkpz11_me_court_machine : Kp [] [] [] o_me_court_machine z11.2 := hkp_me_court_machine_1.trans (hz11_2.mono (by decide) (by decide) (by decide))
          refine wp_gd (zin_of (m := 10) rfl hz11_0.1 (zlt_m (c := 9) hz11_0.2 (by decide))) ?_
          refine wp_gd (zin_of (m := 10) rfl hz11_0.1 (zlt_m (c := 9) hz11_0.2 (by decide))) ?_
          refine wp_lt (fun o12 eo12 => ?_)
          have hIo12 : IvX7 o12 := by rw [eo12]; exact hI_me_1
          have hkpo12 : Kp [] [2, 3] [] o_me o12 := hkp_me_1.trans (by rw [eo12]; exact Kp.tA (by decide) (by decide))
          refine wp_gd (zin_of (m := 10) rfl hz11_0.1 (zlt_m (c := 9) hz11_0.2 (by decide))) ?_
          have rg15 := i32_rg (gA o12 6 z11.1.toNatClampNeg)
          have t13 : 0 ≤ (if v3_1 < (gA o12 6 z11.1.toNatClampNeg) then (gA o12 6 z11.1.toNatClampNeg) else v3_1).toInt ∧ (if v3_1 < (gA o12 6 z11.1.toNatClampNeg) then (gA o12 6 z11.1.toNatClampNeg) else v3_1).toInt ≤ 2147483647 := z_max (a := v3_1.toInt) (b := (gA o12 6 z11.1.toNatClampNeg).toInt) rfl rfl (Or.inl hh3.1) ⟨hh3.2, rg15.2⟩
          refine wp_lt (fun x17 ex17 => ?_)
          have tx17 : x17.toInt = (if v3_1 < (gA o12 6 z11.1.toNatClampNeg) then (gA o12 6 z11.1.toNatClampNeg) else v3_1).toInt := by rw [ex17]
          unfold bk_X7_alikeMost_77
          refine wp_lt (fun x18 ex18 => ?_)
          have tx18 : x18.toInt = v4_1.toInt + 1 := by rw [ex18]; exact i32_add rfl (by decide) (zk_l hh4.1 (by decide)) (zk_u (zu_e (k := 6) (zl_d c6) t5.2 (by decide)) (by decide))
          have rg19 := i32_rg x17
          exact ih1 v1_1 v2_1 x17 x18 o12 z11.2 hIo12 hkpo12 hz11_1 hkpz11_me_court_machine ⟨hh2.1, hh2.2⟩ ⟨(zl_e (zq_0 tx17.symm) t13.1 (by decide)), rg19.2⟩ ⟨(zl_e (zq_r (c := (-1)) tx18 (by decide)) hh4.1 (by decide)), (zu_e (zd_e (c := 0) (Int.le_of_eq tx18) (zl_d c6) (by decide)) t5.2 (by decide))⟩ (zms_u (c := 6) hN1 (zq_r (c := (-1)) tx18 (by decide)) (zu_e (zl_d c6) t5.2 (by decide)) (by decide))
        · unfold bk_X7_alikeMost_77
          refine wp_lt (fun x20 ex20 => ?_)
          have tx20 : x20.toInt = v4_1.toInt + 1 := by rw [ex20]; exact i32_add rfl (by decide) (zk_l hh4.1 (by decide)) (zk_u (zu_e (k := 6) (zl_d c6) t5.2 (by decide)) (by decide))
          exact ih1 v1_1 v2_1 v3_1 x20 o_me_1 o_me_court_machine_1 hI_me_1 hkp_me_1 hI_me_court_machine_1 hkp_me_court_machine_1 ⟨hh2.1, hh2.2⟩ ⟨hh3.1, hh3.2⟩ ⟨(zl_e (zq_r (c := (-1)) tx20 (by decide)) hh4.1 (by decide)), (zu_e (zd_e (c := 0) (Int.le_of_eq tx20) (zl_d c6) (by decide)) t5.2 (by decide))⟩ (zms_u (c := 6) hN1 (zq_r (c := (-1)) tx20 (by decide)) (zu_e (zl_d c6) t5.2 (by decide)) (by decide))
  exact lp1 zfu p0 p1 (0 : Int32) (0 : Int32) z1 o_me_court_machine hz1_0 hkpz1_me hI_me_court_machine Kp.rf ⟨q0.1, q0.2⟩ ⟨by decide, by decide⟩ ⟨by decide, by decide⟩ (zme_u (l := 0) (Int.le_of_eq tz0.symm) (by decide))

set_option maxHeartbeats 4000000 in
set_option maxRecDepth 100000 in
theorem s_X7_raceToWatch (o_me : Ob) (o_me_court : Ob) (o_me_court_isles : Ob) (o_me_court_isles_now : Ob) (o_me_court_machine : Ob) (o_pool : List CR) (hI_me : IvX7 o_me) (hI_me_court : IvX1 o_me_court) (hI_me_court_isles : IvX2 o_pool o_me_court_isles) (hI_me_court_isles_now : IvX4 o_me_court_isles_now) (hI_me_court_machine : IvX3 o_me_court_machine) (hI_pool : PLok o_pool)  : wp (f_X7_raceToWatch   o_me o_me_court o_me_court_isles o_me_court_isles_now o_me_court_machine o_pool) (fun (y : Int32 × Ob × Ob) => ((-1) ≤ y.1.toInt ∧ y.1.toInt ≤ 3) ∧ IvX7 y.2.1 ∧ Kp [] [2, 3] [] o_me y.2.1 ∧ IvX3 y.2.2 ∧ Kp [] [] [] o_me_court_machine y.2.2) := by
  unfold f_X7_raceToWatch
  refine wp_bd (s_X7_suspects   o_me o_me_court o_me_court_isles o_me_court_isles_now o_me_court_machine o_pool  hI_me hI_me_court hI_me_court_isles hI_me_court_isles_now hI_me_court_machine hI_pool  ) (fun z1 hz1 => ?_)
  obtain ⟨hz1_0, hz1_1, hz1_2⟩ := hz1
  have hkpz1_me_court_machine : Kp [] [] [] o_me_court_machine z1.2 := Kp.rf.trans (hz1_2.mono (by decide) (by decide) (by decide))
  refine wp_if (fun c2 => ?_) (fun c2 => ?_)
  · refine wp_some ?_
    exact (show ((-1) ≤ (-1 : Int32).toInt ∧ (-1 : Int32).toInt ≤ 3) ∧ IvX7 o_me ∧ Kp [] [2, 3] [] o_me o_me ∧ IvX3 z1.2 ∧ Kp [] [] [] o_me_court_machine z1.2 from ⟨⟨by decide, by decide⟩, hI_me, Kp.rf, hz1_1, hkpz1_me_court_machine⟩)
  · refine wp_bd (s_X7_alikeMost   o_me o_me_court o_me_court_isles o_me_court_isles_now z1.2 o_pool z1.1 (0 : Int32)  hI_me hI_me_court hI_me_court_isles hI_me_court_isles_now hz1_1 hI_pool  ⟨by decide, by decide⟩) (fun z3 hz3 => ?_)
    obtain ⟨hz3_0, hz3_1, hz3_2, hz3_3, hz3_4⟩ := hz3
    have hkpz3_me : Kp [] [2, 3] [] o_me z3.2.1 := Kp.rf.trans (hz3_2.mono (by decide) (by decide) (by decide))
    have hkpz3_me_court_machine : Kp [] [] [] o_me_court_machine z3.2.2 := hkpz1_me_court_machine.trans (hz3_4.mono (by decide) (by decide) (by decide))
    refine wp_lt (fun o4 eo4 => ?_)
    have hIo4 : IvX7 o4 := by rw [eo4]; exact hz3_1
    have hkpo4 : Kp [] [2, 3] [] o_me o4 := hkpz3_me.trans (by rw [eo4]; exact Kp.sI (by decide))
    have lp1 : ∀ (N1 : Nat) (v1_1 : Int32) (v2_1 : Int32) (v3_1 : Int32) (o_me_1 : Ob) (o_me_court_machine_1 : Ob), IvX7 o_me_1 → Kp [] [2, 3] [] o_me o_me_1 → IvX3 o_me_court_machine_1 → Kp [] [] [] o_me_court_machine o_me_court_machine_1 → (0 ≤ v2_1.toInt ∧ v2_1.toInt ≤ 3) → (1 ≤ v3_1.toInt ∧ v3_1.toInt ≤ 4) → (4 - v3_1.toInt).toNat < N1 → wp (lp_X7_raceToWatch_25 o_me_court o_me_court_isles o_me_court_isles_now o_pool  N1 (v1_1, v2_1, v3_1, o_me_1, o_me_court_machine_1)) (fun (y : Int32 × Ob × Ob) => ((-1) ≤ y.1.toInt ∧ y.1.toInt ≤ 3) ∧ IvX7 y.2.1 ∧ Kp [] [2, 3] [] o_me y.2.1 ∧ IvX3 y.2.2 ∧ Kp [] [] [] o_me_court_machine y.2.2) := by
      intro N1
      induction N1 with
      | zero =>
        intro v1_1 v2_1 v3_1 o_me_1 o_me_court_machine_1 hI_me_1 hkp_me_1 hI_me_court_machine_1 hkp_me_court_machine_1 hh5 hh6 hN1
        exact absurd hN1 (Nat.not_lt_zero _)
      | succ N1 ihx =>
        have ih1 := ihx
        intro v1_1 v2_1 v3_1 o_me_1 o_me_court_machine_1 hI_me_1 hkp_me_1 hI_me_court_machine_1 hkp_me_court_machine_1 hh5 hh6 hN1
        show wp (lb_X7_raceToWatch_25 o_me_court o_me_court_isles o_me_court_isles_now o_pool  (lp_X7_raceToWatch_25 o_me_court o_me_court_isles o_me_court_isles_now o_pool  N1) v1_1 v2_1 v3_1 o_me_1 o_me_court_machine_1) (fun (y : Int32 × Ob × Ob) => ((-1) ≤ y.1.toInt ∧ y.1.toInt ≤ 3) ∧ IvX7 y.2.1 ∧ Kp [] [2, 3] [] o_me y.2.1 ∧ IvX3 y.2.2 ∧ Kp [] [] [] o_me_court_machine y.2.2)
        unfold lb_X7_raceToWatch_25
        refine wp_if (fun c7 => ?_) (fun c7 => ?_)
        · have c7 := cv_ge (a := v3_1.toInt) (b := 4) rfl (by decide) c7
          refine wp_some ?_
          exact (show ((-1) ≤ v2_1.toInt ∧ v2_1.toInt ≤ 3) ∧ IvX7 o_me_1 ∧ Kp [] [2, 3] [] o_me o_me_1 ∧ IvX3 o_me_court_machine_1 ∧ Kp [] [] [] o_me_court_machine o_me_court_machine_1 from ⟨⟨(Int.le_trans (by decide) hh5.1), hh5.2⟩, hI_me_1, hkp_me_1, hI_me_court_machine_1, hkp_me_court_machine_1⟩)
        · have c7 := cv_nge (a := v3_1.toInt) (b := 4) rfl (by decide) c7
          refine wp_bd (s_X7_alikeMost   o_me_1 o_me_court o_me_court_isles o_me_court_isles_now o_me_court_machine_1 o_pool v1_1 v3_1  hI_me_1 hI_me_court hI_me_court_isles hI_me_court_isles_now hI_me_court_machine_1 hI_pool  ⟨(Int.le_trans (by decide) hh6.1), (zlt_u (c := 3) c7 (by decide))⟩) (fun z8 hz8 => ?_)
          obtain ⟨hz8_0, hz8_1, hz8_2, hz8_3, hz8_4⟩ := hz8
          have hkpz8_me : Kp [] [2, 3] [] o_me z8.2.1 := hkp_me_1.trans (hz8_2.mono (by decide) (by decide) (by decide))
          have hkpz8_me_court_machine : Kp [] [] [] o_me_court_machine z8.2.2 := hkp_me_court_machine_1.trans (hz8_4.mono (by decide) (by decide) (by decide))
          refine wp_if (fun c9 => ?_) (fun c9 => ?_)
          · unfold bk_X7_raceToWatch_55
            refine wp_lt (fun x12 ex12 => ?_)
            have tx12 : x12.toInt = v3_1.toInt + 1 := by rw [ex12]; exact i32_add rfl (by decide) (zk_l hh6.1 (by decide)) (zk_u (zlt_u (c := 3) c7 (by decide)) (by decide))
            exact ih1 v1_1 v2_1 x12 z8.2.1 z8.2.2 hz8_1 hkpz8_me hz8_3 hkpz8_me_court_machine ⟨hh5.1, hh5.2⟩ ⟨(zl_e (zq_r (c := (-1)) tx12 (by decide)) hh6.1 (by decide)), (zu_e (Int.le_of_eq tx12) (zlt_u (c := 3) c7 (by decide)) (by decide))⟩ (zms_u (c := 3) hN1 (zq_r (c := (-1)) tx12 (by decide)) (zlt_u (c := 3) c7 (by decide)) (by decide))
          · refine wp_lt (fun o13 eo13 => ?_)
            have hIo13 : IvX7 o13 := by rw [eo13]; exact hz8_1
            have hkpo13 : Kp [] [2, 3] [] o_me o13 := hkpz8_me.trans (by rw [eo13]; exact Kp.sI (by decide))
            unfold bk_X7_raceToWatch_55
            refine wp_lt (fun x14 ex14 => ?_)
            have tx14 : x14.toInt = v3_1.toInt + 1 := by rw [ex14]; exact i32_add rfl (by decide) (zk_l hh6.1 (by decide)) (zk_u (zlt_u (c := 3) c7 (by decide)) (by decide))
            exact ih1 v1_1 v3_1 x14 o13 z8.2.2 hIo13 hkpo13 hz8_3 hkpz8_me_court_machine ⟨(Int.le_trans (by decide) hh6.1), (zlt_u (c := 3) c7 (by decide))⟩ ⟨(zl_e (zq_r (c := (-1)) tx14 (by decide)) hh6.1 (by decide)), (zu_e (Int.le_of_eq tx14) (zlt_u (c := 3) c7 (by decide)) (by decide))⟩ (zms_u (c := 3) hN1 (zq_r (c := (-1)) tx14 (by decide)) (zlt_u (c := 3) c7 (by decide)) (by decide))
    exact lp1 zfu z1.1 (0 : Int32) (1 : Int32) o4 z3.2.2 hIo4 hkpo4 hz3_3 hkpz3_me_court_machine ⟨by decide, by decide⟩ ⟨by decide, by decide⟩ (zme_u (l := 1) (Int.le_of_eq tz1.symm) (by decide))

set_option maxHeartbeats 4000000 in
set_option maxRecDepth 100000 in
theorem s_X8_look {rI : Nat → Option Nat} (o_me : Ob) (o_me_machine : Ob) (o_me_isles : Ob) (o_me_isles_now : Ob) (o_me_court : Ob) (o_me_study : Ob) (o_pool : List CR) (p0 : Int32) (hI_me : IvX8 rI o_me) (hI_me_machine : IvX3 o_me_machine) (hI_me_isles : IvX2 o_pool o_me_isles) (hI_me_isles_now : IvX4 o_me_isles_now) (hI_me_court : IvX1 o_me_court) (hI_me_study : IvX7 o_me_study) (hI_pool : PLok o_pool)  : wp (f_X8_look   o_me o_me_machine o_me_isles o_me_isles_now o_me_court o_me_study o_pool p0) (fun (y : Int32 × Ob × Ob) => IvX3 y.2.1 ∧ Kp [] [] [] o_me_machine y.2.1 ∧ IvX7 y.2.2 ∧ Kp [] [2, 3] [] o_me_study y.2.2) := by
  unfold f_X8_look
  refine wp_if (fun c1 => ?_) (fun c1 => ?_)
  · refine wp_some ?_
    exact (show IvX3 o_me_machine ∧ Kp [] [] [] o_me_machine o_me_machine ∧ IvX7 o_me_study ∧ Kp [] [2, 3] [] o_me_study o_me_study from ⟨hI_me_machine, Kp.rf, hI_me_study, Kp.rf⟩)
  · refine wp_if (fun c2 => ?_) (fun c2 => ?_)
    · refine wp_bd (s_X7_raceToWatch   o_me_study o_me_court o_me_isles o_me_isles_now o_me_machine o_pool  hI_me_study hI_me_court hI_me_isles hI_me_isles_now hI_me_machine hI_pool  ) (fun z3 hz3 => ?_)
      obtain ⟨hz3_0, hz3_1, hz3_2, hz3_3, hz3_4⟩ := hz3
      have hkpz3_me_study : Kp [] [2, 3] [] o_me_study z3.2.1 := Kp.rf.trans (hz3_2.mono (by decide) (by decide) (by decide))
      have hkpz3_me_machine : Kp [] [] [] o_me_machine z3.2.2 := Kp.rf.trans (hz3_4.mono (by decide) (by decide) (by decide))
      refine wp_if (fun c4 => ?_) (fun c4 => ?_)
      · unfold bk_X8_look_28
        refine wp_some ?_
        exact (show IvX3 z3.2.2 ∧ Kp [] [] [] o_me_machine z3.2.2 ∧ IvX7 z3.2.1 ∧ Kp [] [2, 3] [] o_me_study z3.2.1 from ⟨hz3_3, hkpz3_me_machine, hz3_1, hkpz3_me_study⟩)
      · refine wp_if (fun c5 => ?_) (fun c5 => ?_)
        · unfold bk_X8_look_28
          refine wp_some ?_
          exact (show IvX3 z3.2.2 ∧ Kp [] [] [] o_me_machine z3.2.2 ∧ IvX7 z3.2.1 ∧ Kp [] [2, 3] [] o_me_study z3.2.1 from ⟨hz3_3, hkpz3_me_machine, hz3_1, hkpz3_me_study⟩)
        · refine wp_some ?_
          exact (show IvX3 z3.2.2 ∧ Kp [] [] [] o_me_machine z3.2.2 ∧ IvX7 z3.2.1 ∧ Kp [] [2, 3] [] o_me_study z3.2.1 from ⟨hz3_3, hkpz3_me_machine, hz3_1, hkpz3_me_study⟩)
    · refine wp_some ?_
      exact (show IvX3 o_me_machine ∧ Kp [] [] [] o_me_machine o_me_machine ∧ IvX7 o_me_study ∧ Kp [] [2, 3] [] o_me_study o_me_study from ⟨hI_me_machine, Kp.rf, hI_me_study, Kp.rf⟩)

set_option maxHeartbeats 4000000 in
set_option maxRecDepth 100000 in
theorem s_X7_neverSecond (o_me : Ob) (o_me_court : Ob) (o_me_court_isles : Ob) (o_me_court_isles_now : Ob) (o_me_court_machine : Ob) (o_pool : List CR) (hI_me : IvX7 o_me) (hI_me_court : IvX1 o_me_court) (hI_me_court_isles : IvX2 o_pool o_me_court_isles) (hI_me_court_isles_now : IvX4 o_me_court_isles_now) (hI_me_court_machine : IvX3 o_me_court_machine) (hI_pool : PLok o_pool)  : wp (f_X7_neverSecond   o_me o_me_court o_me_court_isles o_me_court_isles_now o_me_court_machine o_pool) (fun (y : Int32 × Ob × Ob) => IvX7 y.2.1 ∧ Kp [] [2, 3] [] o_me y.2.1 ∧ IvX3 y.2.2 ∧ Kp [] [] [] o_me_court_machine y.2.2) := by
  unfold f_X7_neverSecond
  have t1 := igX2_7 hI_me_court_isles
  refine wp_lt (fun x4 ex4 => ?_)
  have lp1 : ∀ (N1 : Nat) (v1_1 : Int32) (v2_1 : Int32) (o_me_1 : Ob) (o_me_court_machine_1 : Ob), IvX7 o_me_1 → Kp [] [2, 3] [] o_me o_me_1 → IvX3 o_me_court_machine_1 → Kp [] [] [] o_me_court_machine o_me_court_machine_1 → (0 ≤ v2_1.toInt ∧ v2_1.toInt ≤ 4) → (4 - v2_1.toInt).toNat < N1 → wp (lp_X7_neverSecond_14 o_me_court o_me_court_isles o_me_court_isles_now o_pool  N1 (v1_1, v2_1, o_me_1, o_me_court_machine_1)) (fun (y : Int32 × Ob × Ob) => IvX7 y.2.1 ∧ Kp [] [2, 3] [] o_me y.2.1 ∧ IvX3 y.2.2 ∧ Kp [] [] [] o_me_court_machine y.2.2) := by
    intro N1
    induction N1 with
    | zero =>
      intro v1_1 v2_1 o_me_1 o_me_court_machine_1 hI_me_1 hkp_me_1 hI_me_court_machine_1 hkp_me_court_machine_1 hh5 hN1
      exact absurd hN1 (Nat.not_lt_zero _)
    | succ N1 ihx =>
      have ih1 := ihx
      intro v1_1 v2_1 o_me_1 o_me_court_machine_1 hI_me_1 hkp_me_1 hI_me_court_machine_1 hkp_me_court_machine_1 hh5 hN1
      show wp (lb_X7_neverSecond_14 o_me_court o_me_court_isles o_me_court_isles_now o_pool  (lp_X7_neverSecond_14 o_me_court o_me_court_isles o_me_court_isles_now o_pool  N1) v1_1 v2_1 o_me_1 o_me_court_machine_1) (fun (y : Int32 × Ob × Ob) => IvX7 y.2.1 ∧ Kp [] [2, 3] [] o_me y.2.1 ∧ IvX3 y.2.2 ∧ Kp [] [] [] o_me_court_machine y.2.2)
      unfold lb_X7_neverSecond_14
      refine wp_if (fun c6 => ?_) (fun c6 => ?_)
      · have c6 := cv_ge (a := v2_1.toInt) (b := 4) rfl (by decide) c6
        refine wp_some ?_
        exact (show IvX7 o_me_1 ∧ Kp [] [2, 3] [] o_me o_me_1 ∧ IvX3 o_me_court_machine_1 ∧ Kp [] [] [] o_me_court_machine o_me_court_machine_1 from ⟨hI_me_1, hkp_me_1, hI_me_court_machine_1, hkp_me_court_machine_1⟩)
      · have c6 := cv_nge (a := v2_1.toInt) (b := 4) rfl (by decide) c6
        refine wp_bd (s_X7_setScores   o_me_1 o_me_court o_me_court_isles o_me_court_isles_now o_me_court_machine_1 o_pool v2_1  hI_me_1 hI_me_court hI_me_court_isles hI_me_court_isles_now hI_me_court_machine_1 hI_pool  ⟨hh5.1, (zlt_u (c := 3) c6 (by decide))⟩) (fun z7 hz7 => ?_)
        obtain ⟨hz7_0, hz7_1, hz7_2, hz7_3⟩ := hz7
        have hkpz7_me : Kp [] [2, 3] [] o_me z7.1 := hkp_me_1.trans (hz7_1.mono (by decide) (by decide) (by decide))
        have hkpz7_me_court_machine : Kp [] [] [] o_me_court_machine z7.2 := hkp_me_court_machine_1.trans (hz7_3.mono (by decide) (by decide) (by decide))
        have lp2 : ∀ (N2 : Nat) (v1_2 : Int32) (v2_2 : Int32) (v3_2 : Int32) (o_me_2 : Ob) (o_me_court_machine_2 : Ob), IvX7 o_me_2 → Kp [] [2, 3] [] o_me o_me_2 → IvX3 o_me_court_machine_2 → Kp [] [] [] o_me_court_machine o_me_court_machine_2 → (0 ≤ v2_2.toInt ∧ v2_2.toInt ≤ 3) → (0 ≤ v3_2.toInt ∧ v3_2.toInt ≤ 7) → (v2_1.toInt ≤ v2_2.toInt + 0) → (7 - v3_2.toInt).toNat < N2 → wp (lp_X7_neverSecond_26 o_me_court o_me_court_isles o_me_court_isles_now o_pool (lp_X7_neverSecond_14 o_me_court o_me_court_isles o_me_court_isles_now o_pool  N1) N2 (v1_2, v2_2, v3_2, o_me_2, o_me_court_machine_2)) (fun (y : Int32 × Ob × Ob) => IvX7 y.2.1 ∧ Kp [] [2, 3] [] o_me y.2.1 ∧ IvX3 y.2.2 ∧ Kp [] [] [] o_me_court_machine y.2.2) := by
          intro N2
          induction N2 with
          | zero =>
            intro v1_2 v2_2 v3_2 o_me_2 o_me_court_machine_2 hI_me_2 hkp_me_2 hI_me_court_machine_2 hkp_me_court_machine_2 hh8 hh9 hh10 hN2
            exact absurd hN2 (Nat.not_lt_zero _)
          | succ N2 ihx =>
            have ih2 := ihx
            intro v1_2 v2_2 v3_2 o_me_2 o_me_court_machine_2 hI_me_2 hkp_me_2 hI_me_court_machine_2 hkp_me_court_machine_2 hh8 hh9 hh10 hN2
            show wp (lb_X7_neverSecond_26 o_me_court o_me_court_isles o_me_court_isles_now o_pool (lp_X7_neverSecond_14 o_me_court o_me_court_isles o_me_court_isles_now o_pool  N1) (lp_X7_neverSecond_26 o_me_court o_me_court_isles o_me_court_isles_now o_pool (lp_X7_neverSecond_14 o_me_court o_me_court_isles o_me_court_isles_now o_pool  N1) N2) v1_2 v2_2 v3_2 o_me_2 o_me_court_machine_2) (fun (y : Int32 × Ob × Ob) => IvX7 y.2.1 ∧ Kp [] [2, 3] [] o_me y.2.1 ∧ IvX3 y.2.2 ∧ Kp [] [] [] o_me_court_machine y.2.2)
            unfold lb_X7_neverSecond_26
            refine wp_if (fun c11 => ?_) (fun c11 => ?_)
            · have c11 := cv_ge (a := v3_2.toInt) (b := (gI o_me_court_isles 7).toInt) rfl rfl c11
              refine wp_lt (fun x12 ex12 => ?_)
              have tx12 : x12.toInt = v2_2.toInt + 1 := by rw [ex12]; exact i32_add rfl (by decide) (zk_l hh8.1 (by decide)) (zk_u hh8.2 (by decide))
              exact ih1 v1_2 x12 o_me_2 o_me_court_machine_2 hI_me_2 hkp_me_2 hI_me_court_machine_2 hkp_me_court_machine_2 ⟨(zl_e (zq_r (c := (-1)) tx12 (by decide)) hh8.1 (by decide)), (zu_e (Int.le_of_eq tx12) hh8.2 (by decide))⟩ (zms_u (c := 3) hN1 (zd_e (c := (-1)) hh10 (zq_r (c := (-1)) tx12 (by decide)) (by decide)) (zlt_u (c := 3) c6 (by decide)) (by decide))
            · have c11 := cv_nge (a := v3_2.toInt) (b := (gI o_me_court_isles 7).toInt) rfl rfl c11
              have t13 : (v2_2 * (7 : Int32)).toInt = v2_2.toInt * 7 := i32_mul rfl (by decide) (zr_l hh8.1 (by decide) (by decide)) (zr_u hh8.2 (by decide) (by decide))
              have t14 : ((v2_2 * (7 : Int32)) + v3_2).toInt = (v2_2 * (7 : Int32)).toInt + v3_2.toInt := i32_add rfl rfl (zk_ll (zrq_l (c := 0) t13 hh8.1 (by decide) (by decide)) hh9.1 (by decide)) (zk_uu (zrq_u (c := 21) t13 hh8.2 (by decide) (by decide)) (zu_e (k := 6) (zl_d c11) t1.2 (by decide)) (by decide))
              refine wp_gd (zin_of (m := 28) rfl (zaq_l (c := 0) t14 (zrq_l (c := 0) t13 hh8.1 (by decide) (by decide)) hh9.1 (by decide)) (zlt_m (c := 27) (zaq_u (c := 27) t14 (zrq_u (c := 21) t13 hh8.2 (by decide) (by decide)) (zu_e (k := 6) (zl_d c11) t1.2 (by decide)) (by decide)) (by decide))) ?_
              refine wp_if (fun c15 => ?_) (fun c15 => ?_)
              · unfold bk_X7_neverSecond_69
                refine wp_lt (fun x16 ex16 => ?_)
                have tx16 : x16.toInt = v3_2.toInt + 1 := by rw [ex16]; exact i32_add rfl (by decide) (zk_l hh9.1 (by decide)) (zk_u (zu_e (k := 6) (zl_d c11) t1.2 (by decide)) (by decide))
                exact ih2 v1_2 v2_2 x16 o_me_2 o_me_court_machine_2 hI_me_2 hkp_me_2 hI_me_court_machine_2 hkp_me_court_machine_2 ⟨hh8.1, hh8.2⟩ ⟨(zl_e (zq_r (c := (-1)) tx16 (by decide)) hh9.1 (by decide)), (zu_e (zd_e (c := 0) (Int.le_of_eq tx16) (zl_d c11) (by decide)) t1.2 (by decide))⟩ hh10 (zms_u (c := 6) hN2 (zq_r (c := (-1)) tx16 (by decide)) (zu_e (zl_d c11) t1.2 (by decide)) (by decide))
              · refine wp_bd (s_X7_aheadOf   o_me_2 o_me_court_isles v3_2 v2_2  hI_me_2 hI_me_court_isles  ⟨hh9.1, (zu_e (zl_d c11) t1.2 (by decide))⟩ ⟨hh8.1, hh8.2⟩) (fun z17 hz17 => ?_)
                refine wp_if (fun c18 => ?_) (fun c18 => ?_)
                · unfold bk_X7_neverSecond_69
                  refine wp_lt (fun x19 ex19 => ?_)
                  have tx19 : x19.toInt = v3_2.toInt + 1 := by rw [ex19]; exact i32_add rfl (by decide) (zk_l hh9.1 (by decide)) (zk_u (zu_e (k := 6) (zl_d c11) t1.2 (by decide)) (by decide))
                  exact ih2 v1_2 v2_2 x19 o_me_2 o_me_court_machine_2 hI_me_2 hkp_me_2 hI_me_court_machine_2 hkp_me_court_machine_2 ⟨hh8.1, hh8.2⟩ ⟨(zl_e (zq_r (c := (-1)) tx19 (by decide)) hh9.1 (by decide)), (zu_e (zd_e (c := 0) (Int.le_of_eq tx19) (zl_d c11) (by decide)) t1.2 (by decide))⟩ hh10 (zms_u (c := 6) hN2 (zq_r (c := (-1)) tx19 (by decide)) (zu_e (zl_d c11) t1.2 (by decide)) (by decide))
                · refine wp_lt (fun x21 ex21 => ?_)
                  unfold bk_X7_neverSecond_69
                  refine wp_lt (fun x22 ex22 => ?_)
                  have tx22 : x22.toInt = v3_2.toInt + 1 := by rw [ex22]; exact i32_add rfl (by decide) (zk_l hh9.1 (by decide)) (zk_u (zu_e (k := 6) (zl_d c11) t1.2 (by decide)) (by decide))
                  exact ih2 x21 v2_2 x22 o_me_2 o_me_court_machine_2 hI_me_2 hkp_me_2 hI_me_court_machine_2 hkp_me_court_machine_2 ⟨hh8.1, hh8.2⟩ ⟨(zl_e (zq_r (c := (-1)) tx22 (by decide)) hh9.1 (by decide)), (zu_e (zd_e (c := 0) (Int.le_of_eq tx22) (zl_d c11) (by decide)) t1.2 (by decide))⟩ hh10 (zms_u (c := 6) hN2 (zq_r (c := (-1)) tx22 (by decide)) (zu_e (zl_d c11) t1.2 (by decide)) (by decide))
        exact lp2 zfu v1_1 v2_1 (0 : Int32) z7.1 z7.2 hz7_0 hkpz7_me hz7_2 hkpz7_me_court_machine ⟨hh5.1, (zlt_u (c := 3) c6 (by decide))⟩ ⟨by decide, by decide⟩ (zd_r (by decide)) (zme_u (l := 0) (Int.le_of_eq tz0.symm) (by decide))
  exact lp1 zfu x4 (0 : Int32) o_me o_me_court_machine hI_me Kp.rf hI_me_court_machine Kp.rf ⟨by decide, by decide⟩ (zme_u (l := 0) (Int.le_of_eq tz0.symm) (by decide))

set_option maxHeartbeats 4000000 in
set_option maxRecDepth 100000 in
theorem s_X8_never {rI : Nat → Option Nat} (o_me : Ob) (o_me_machine : Ob) (o_me_isles : Ob) (o_me_isles_now : Ob) (o_me_court : Ob) (o_me_study : Ob) (o_pool : List CR) (hI_me : IvX8 rI o_me) (hI_me_machine : IvX3 o_me_machine) (hI_me_isles : IvX2 o_pool o_me_isles) (hI_me_isles_now : IvX4 o_me_isles_now) (hI_me_court : IvX1 o_me_court) (hI_me_study : IvX7 o_me_study) (hI_pool : PLok o_pool)  : wp (f_X8_never   o_me o_me_machine o_me_isles o_me_isles_now o_me_court o_me_study o_pool) (fun (y : Int32 × Ob × Ob) => IvX3 y.2.1 ∧ Kp [] [] [] o_me_machine y.2.1 ∧ IvX7 y.2.2 ∧ Kp [] [2, 3] [] o_me_study y.2.2) := by
  unfold f_X8_never
  refine wp_bd (s_X7_neverSecond   o_me_study o_me_court o_me_isles o_me_isles_now o_me_machine o_pool  hI_me_study hI_me_court hI_me_isles hI_me_isles_now hI_me_machine hI_pool  ) (fun z1 hz1 => ?_)
  obtain ⟨hz1_0, hz1_1, hz1_2, hz1_3⟩ := hz1
  have hkpz1_me_study : Kp [] [2, 3] [] o_me_study z1.2.1 := Kp.rf.trans (hz1_1.mono (by decide) (by decide) (by decide))
  have hkpz1_me_machine : Kp [] [] [] o_me_machine z1.2.2 := Kp.rf.trans (hz1_3.mono (by decide) (by decide) (by decide))
  refine wp_some ?_
  exact (show IvX3 z1.2.2 ∧ Kp [] [] [] o_me_machine z1.2.2 ∧ IvX7 z1.2.1 ∧ Kp [] [2, 3] [] o_me_study z1.2.1 from ⟨hz1_2, hkpz1_me_machine, hz1_0, hkpz1_me_study⟩)

set_option maxHeartbeats 4000000 in
set_option maxRecDepth 100000 in
theorem s_X8_of {rI : Nat → Option Nat} (o_me : Ob) (o_me_machine : Ob) (o_me_isles : Ob) (o_me_isles_now : Ob) (o_me_court : Ob) (o_pool : List CR) (p0 : Int32) (p1 : Int32) (hI_me : IvX8 rI o_me) (hI_me_machine : IvX3 o_me_machine) (hI_me_isles : IvX2 o_pool o_me_isles) (hI_me_isles_now : IvX4 o_me_isles_now) (hI_me_court : IvX1 o_me_court) (hI_pool : PLok o_pool)  : wp (f_X8_of   o_me o_me_machine o_me_isles o_me_isles_now o_me_court o_pool p0 p1) (fun (y : Int32 × Ob) => IvX3 y.2 ∧ Kp [] [] [] o_me_machine y.2) := by
  have li0 : (-1 : Int32).toInt = (-1) := by decide
  have li1 : (0 : Int32).toInt = 0 := by decide
  have li2 : (1 : Int32).toInt = 1 := by decide
  have li3 : (12 : Int32).toInt = 12 := by decide
  have li4 : (3 : Int32).toInt = 3 := by decide
  have li5 : (4 : Int32).toInt = 4 := by decide
  have li6 : (8 : Int32).toInt = 8 := by decide
  unfold f_X8_of
  refine wp_bd (s_X2_isPerson   o_me_isles p0  hI_me_isles  ) (fun z1 hz1 => ?_)
  obtain ⟨hz1_0, hz1_1⟩ := hz1
  refine wp_if (fun c2 => ?_) (fun c2 => ?_)
  · have c2 := cv_eq (a := z1.toInt) (b := 0) rfl (by decide) c2
    refine wp_some ?_
    exact (show IvX3 o_me_machine ∧ Kp [] [] [] o_me_machine o_me_machine from ⟨hI_me_machine, Kp.rf⟩)
  · have c2z := c2
    have c2i := hz1_1 c2
    have c2 := cv_ne (a := z1.toInt) (b := 0) rfl (by decide) c2
    refine wp_if (fun c3 => ?_) (fun c3 => ?_)
    · have c3 := cv_eq (a := p1.toInt) (b := 3) rfl (by decide) c3
      refine wp_gd (zin_of (m := 7) rfl c2i.1.1 (zlt_m (c := 6) c2i.1.2 (by decide))) ?_
      refine wp_some ?_
      exact (show IvX3 o_me_machine ∧ Kp [] [] [] o_me_machine o_me_machine from ⟨hI_me_machine, Kp.rf⟩)
    · have c3 := cv_ne (a := p1.toInt) (b := 3) rfl (by decide) c3
      have t4 := i32_subw (x := p1) (y := (4 : Int32)) (b := 4) (by decide) (by decide)
      have rg5 := i32_rg p1
      refine wp_bd (s_X8_isRace   (p1 - (4 : Int32))    ) (fun z6 hz6 => ?_)
      obtain ⟨hz6_0, hz6_1⟩ := hz6
      refine wp_if (fun c7 => ?_) (fun c7 => ?_)
      · have c7 := cv_eq (a := z6.toInt) (b := 0) rfl (by decide) c7
        have t8 := i32_subw (x := p1) (y := (8 : Int32)) (b := 8) (by decide) (by decide)
        refine wp_bd (s_X8_isRace   (p1 - (8 : Int32))    ) (fun z9 hz9 => ?_)
        obtain ⟨hz9_0, hz9_1⟩ := hz9
        refine wp_if (fun c10 => ?_) (fun c10 => ?_)
        · have c10 := cv_eq (a := z9.toInt) (b := 0) rfl (by decide) c10
          have t11 := i32_subw (x := p1) (y := (12 : Int32)) (b := 12) (by decide) (by decide)
          refine wp_bd (s_X8_isRace   (p1 - (12 : Int32))    ) (fun z12 hz12 => ?_)
          obtain ⟨hz12_0, hz12_1⟩ := hz12
          refine wp_if (fun c13 => ?_) (fun c13 => ?_)
          · have c13 := cv_eq (a := z12.toInt) (b := 0) rfl (by decide) c13
            refine wp_bd (s_X4_told   o_me_isles_now p0 p1  hI_me_isles_now  ⟨c2i.1.1, c2i.1.2⟩) (fun z14 hz14 => ?_)
            refine wp_some ?_
            exact (show IvX3 o_me_machine ∧ Kp [] [] [] o_me_machine o_me_machine from ⟨hI_me_machine, Kp.rf⟩)
          · have c13z := c13
            have c13i := hz12_1 c13
            have c13 := cv_ne (a := z12.toInt) (b := 0) rfl (by decide) c13
            refine wp_bd (s_X2_lawInForce   o_me_isles  hI_me_isles  ) (fun z15 hz15 => ?_)
            have hz15_0 := hz15
            refine wp_bd (s_X1_isBarred_Q   o_me_court o_me_isles o_me_isles_now o_me_machine o_pool z15 p0 (p1 - (12 : Int32))  hI_me_court hI_me_isles hI_me_isles_now hI_me_machine hI_pool hz15_0 ⟨c2i.1.1, c2i.1.2⟩ ⟨c13i.1, c13i.2⟩) (fun z16 hz16 => ?_)
            obtain ⟨hz16_0, hz16_1, hz16_2⟩ := hz16
            have hkpz16_me_machine : Kp [] [] [] o_me_machine z16.2 := Kp.rf.trans (hz16_2.mono (by decide) (by decide) (by decide))
            refine wp_if (fun c17 => ?_) (fun c17 => ?_)
            · have c17 := cv_eq (a := z16.1.toInt) (b := 0) rfl (by decide) c17
              refine wp_some ?_
              exact (show IvX3 z16.2 ∧ Kp [] [] [] o_me_machine z16.2 from ⟨hz16_1, hkpz16_me_machine⟩)
            · have c17z := c17
              have c17 := cv_ne (a := z16.1.toInt) (b := 0) rfl (by decide) c17
              refine wp_some ?_
              exact (show IvX3 z16.2 ∧ Kp [] [] [] o_me_machine z16.2 from ⟨hz16_1, hkpz16_me_machine⟩)
        · have c10z := c10
          have c10i := hz9_1 c10
          have c10 := cv_ne (a := z9.toInt) (b := 0) rfl (by decide) c10
          refine wp_bd (s_X2_lawInForce   o_me_isles  hI_me_isles  ) (fun z18 hz18 => ?_)
          have hz18_0 := hz18
          refine wp_bd (s_X1_runsBy_Q   o_me_court o_me_isles o_me_isles_now o_me_machine o_pool z18 p0 (p1 - (8 : Int32))  hI_me_court hI_me_isles hI_me_isles_now hI_me_machine hI_pool hz18_0 ⟨c2i.1.1, c2i.1.2⟩ ⟨c10i.1, c10i.2⟩) (fun z19 hz19 => ?_)
          obtain ⟨hz19_0, hz19_1⟩ := hz19
          have hkpz19_me_machine : Kp [] [] [] o_me_machine z19.2 := Kp.rf.trans (hz19_1.mono (by decide) (by decide) (by decide))
          refine wp_some ?_
          exact (show IvX3 z19.2 ∧ Kp [] [] [] o_me_machine z19.2 from ⟨hz19_0, hkpz19_me_machine⟩)
      · have c7z := c7
        have c7i := hz6_1 c7
        have c7 := cv_ne (a := z6.toInt) (b := 0) rfl (by decide) c7
        have t20 : (p0 * (4 : Int32)).toInt = p0.toInt * 4 := i32_mul rfl (by decide) (zr_l c2i.1.1 (by decide) (by decide)) (zr_u c2i.1.2 (by decide) (by decide))
        have t21 : ((p0 * (4 : Int32)) + p1).toInt = (p0 * (4 : Int32)).toInt + p1.toInt := i32_add rfl rfl (by omega) (by omega)
        have t22 : (((p0 * (4 : Int32)) + p1) - (4 : Int32)).toInt = ((p0 * (4 : Int32)) + p1).toInt - 4 := i32_sub rfl (by decide) (by omega) (by omega)
        refine wp_gd (zin_of (m := 28) rfl (by omega) (by omega)) ?_
        refine wp_some ?_
        exact (show IvX3 o_me_machine ∧ Kp [] [] [] o_me_machine o_me_machine from ⟨hI_me_machine, Kp.rf⟩)

set_option maxHeartbeats 4000000 in
set_option maxRecDepth 100000 in
theorem s_X0_clear (nc_me : Nat) (ns_me : Nat) (o_me : Ob) (hI_me : IvX0 nc_me ns_me o_me)  : wp (f_X0_clear  nc_me ns_me o_me) (fun (y : Ob) => IvX0 nc_me ns_me y ∧ Kp [] [1] [] o_me y) := by
  have li0 : (0 : Int32).toInt = 0 := by decide
  unfold f_X0_clear
  have t9nc := igX0_7 hI_me
  have t9ns := igX0_8 hI_me
  refine wp_lt (fun o1 eo1 => ?_)
  have hIo1 : IvX0 nc_me ns_me o1 := by rw [eo1]; exact ipX0_7 hI_me ⟨by decide, by first | decide | omega⟩
  have ko1_k2 : (gI o1 8).toInt = (gI o_me 8).toInt := by rw [eo1]; rfl
  have ko1_v : (gI o1 7).toInt = 0 := by rw [eo1]; exact (show ((0 : Int32)).toInt = _ from by decide)
  have hkpo1 : Kp [] [1] [] o_me o1 := Kp.rf.trans (by rw [eo1]; exact Kp.sI (by decide))
  refine wp_lt (fun o3 eo3 => ?_)
  have hIo3 : IvX0 nc_me ns_me o3 := by rw [eo3]; exact ipX0_8 hIo1 ⟨by decide, by first | decide | omega⟩
  have ko3_k4 : (gI o3 7).toInt = (gI o1 7).toInt := by rw [eo3]; rfl
  have ko3_v : (gI o3 8).toInt = 0 := by rw [eo3]; exact (show ((0 : Int32)).toInt = _ from by decide)
  have hkpo3 : Kp [] [1] [] o_me o3 := hkpo1.trans (by rw [eo3]; exact Kp.sI (by decide))
  refine wp_some ?_
  exact (show IvX0 nc_me ns_me o3 ∧ Kp [] [1] [] o_me o3 from ⟨hIo3, hkpo3⟩)

set_option maxHeartbeats 4000000 in
set_option maxRecDepth 100000 in
theorem s_X6_byteAt (o_me : Ob) (p0 : Int32) (hI_me : IvX6 o_me)  : wp (f_X6_byteAt   o_me p0) (fun (y : Int32) => True) := by
  unfold f_X6_byteAt
  refine wp_if (fun c1 => ?_) (fun c1 => ?_)
  · have c1 := cv_lt (a := p0.toInt) (b := 0) rfl (by decide) c1
    refine wp_some ?_
    exact trivial
  · have c1 := cv_nlt (a := p0.toInt) (b := 0) rfl (by decide) c1
    have t2 := igX6_2 hI_me
    refine wp_if (fun c3 => ?_) (fun c3 => ?_)
    · have c3 := cv_ge (a := p0.toInt) (b := (gI o_me 2).toInt) rfl rfl c3
      refine wp_some ?_
      exact trivial
    · have c3 := cv_nge (a := p0.toInt) (b := (gI o_me 2).toInt) rfl rfl c3
      refine wp_if (fun c5 => ?_) (fun c5 => ?_)
      · have c5 := cv_ge (a := p0.toInt) (b := 400) rfl (by decide) c5
        exact absurd c5 (Int.not_le.mpr (zlt_m (c := 399) (zu_e (zl_d c3) t2.2 (by decide)) (by decide)))
      · have c5 := cv_nge (a := p0.toInt) (b := 400) rfl (by decide) c5
        refine wp_gd (zin_of (m := 400) rfl c1 (zlt_m (c := 399) (zlt_u (c := 399) c5 (by decide)) (by decide))) ?_
        refine wp_some ?_
        exact trivial

set_option maxHeartbeats 4000000 in
set_option maxRecDepth 100000 in
theorem s_X6_isLetter (p0 : Int32)   : wp (f_X6_isLetter   p0) (fun (y : Int32) => (0 ≤ y.toInt ∧ y.toInt ≤ 1)) := by
  unfold f_X6_isLetter
  refine wp_if (fun c1 => ?_) (fun c1 => ?_)
  · refine wp_some ?_
    exact (show (0 ≤ (0 : Int32).toInt ∧ (0 : Int32).toInt ≤ 1) from ⟨by decide, by decide⟩)
  · refine wp_if (fun c2 => ?_) (fun c2 => ?_)
    · refine wp_some ?_
      exact (show (0 ≤ (0 : Int32).toInt ∧ (0 : Int32).toInt ≤ 1) from ⟨by decide, by decide⟩)
    · refine wp_some ?_
      exact (show (0 ≤ (1 : Int32).toInt ∧ (1 : Int32).toInt ≤ 1) from ⟨by decide, by decide⟩)

set_option maxHeartbeats 4000000 in
set_option maxRecDepth 100000 in
theorem s_X6_isDigit (p0 : Int32)   : wp (f_X6_isDigit   p0) (fun (y : Int32) => (0 ≤ y.toInt ∧ y.toInt ≤ 1)) := by
  unfold f_X6_isDigit
  refine wp_if (fun c1 => ?_) (fun c1 => ?_)
  · refine wp_some ?_
    exact (show (0 ≤ (0 : Int32).toInt ∧ (0 : Int32).toInt ≤ 1) from ⟨by decide, by decide⟩)
  · refine wp_if (fun c2 => ?_) (fun c2 => ?_)
    · refine wp_some ?_
      exact (show (0 ≤ (0 : Int32).toInt ∧ (0 : Int32).toInt ≤ 1) from ⟨by decide, by decide⟩)
    · refine wp_some ?_
      exact (show (0 ≤ (1 : Int32).toInt ∧ (1 : Int32).toInt ≤ 1) from ⟨by decide, by decide⟩)

set_option maxHeartbeats 4000000 in
set_option maxRecDepth 100000 in
theorem s_X6_step (o_me : Ob) (hI_me : IvX6 o_me) (r0 : (gI o_me 8).toInt ≤ (gI o_me 2).toInt + 0) : wp (f_X6_step   o_me) (fun (y : Ob) => IvX6 y ∧ Kp [2, 3, 4, 5] [0] [] o_me y ∧ ((gI y 8).toInt ≤ (gI y 2).toInt + 0)) := by
  have li0 : (0 : Int32).toInt = 0 := by decide
  have li1 : (1 : Int32).toInt = 1 := by decide
  have li2 : (10 : Int32).toInt = 10 := by decide
  have li3 : (1001 : Int32).toInt = 1001 := by decide
  have li4 : (2 : Int32).toInt = 2 := by decide
  have li5 : (3 : Int32).toInt = 3 := by decide
  have li6 : (32 : Int32).toInt = 32 := by decide
  have li7 : (48 : Int32).toInt = 48 := by decide
  unfold f_X6_step
  have t1 := igX6_8 hI_me
  refine wp_lt (fun x2 ex2 => ?_)
  have tx2 : x2.toInt = (gI o_me 8).toInt := by rw [ex2]
  have lp1 : ∀ (N1 : Nat) (v1_1 : Int32) (o_me_1 : Ob), IvX6 o_me_1 → Kp [2, 3, 4, 5] [0] [] o_me o_me_1 → (0 ≤ v1_1.toInt ∧ v1_1.toInt ≤ 400) → (v1_1.toInt ≤ (gI o_me_1 2).toInt + 0) → (400 - v1_1.toInt).toNat < N1 → wp (lp_X6_step_5   N1 (v1_1, o_me_1)) (fun (y : Ob) => IvX6 y ∧ Kp [2, 3, 4, 5] [0] [] o_me y ∧ ((gI y 8).toInt ≤ (gI y 2).toInt + 0)) := by
    intro N1
    induction N1 with
    | zero =>
      intro v1_1 o_me_1 hI_me_1 hkp_me_1 hh5 hh6 hN1
      exact absurd hN1 (Nat.not_lt_zero _)
    | succ N1 ihx =>
      have ih1 := ihx
      intro v1_1 o_me_1 hI_me_1 hkp_me_1 hh5 hh6 hN1
      show wp (lb_X6_step_5   (lp_X6_step_5   N1) v1_1 o_me_1) (fun (y : Ob) => IvX6 y ∧ Kp [2, 3, 4, 5] [0] [] o_me y ∧ ((gI y 8).toInt ≤ (gI y 2).toInt + 0))
      unfold lb_X6_step_5
      have t8 := igX6_2 hI_me_1
      refine wp_if (fun c9 => ?_) (fun c9 => ?_)
      · have c9 := cv_ge (a := v1_1.toInt) (b := (gI o_me_1 2).toInt) rfl rfl c9
        unfold bk_X6_step_29
        refine wp_lt (fun o10 eo10 => ?_)
        have hIo10 : IvX6 o10 := by rw [eo10]; exact ipX6_7 hI_me_1 ⟨hh5.1, hh5.2⟩
        have ko10_k11 : (gI o10 2).toInt = (gI o_me_1 2).toInt := by rw [eo10]; rfl
        have ko10_v : (gI o10 7).toInt = v1_1.toInt := by rw [eo10]; rfl
        have hkpo10 : Kp [2, 3, 4, 5] [0] [] o_me o10 := hkp_me_1.trans (by rw [eo10]; exact Kp.sI (by decide))
        have t12 : (v1_1 + (1 : Int32)).toInt = v1_1.toInt + 1 := i32_add rfl (by decide) (zk_l hh5.1 (by decide)) (zk_u hh5.2 (by decide))
        refine wp_lt (fun o13 eo13 => ?_)
        have hIo13 : IvX6 o13 := by rw [eo13]; exact ipX6_8 hIo10 ⟨(zl_e (zq_r (c := (-1)) t12 (by decide)) hh5.1 (by decide)), (zu_e (Int.le_of_eq t12) hh5.2 (by decide))⟩
        have ko13_k14 : (gI o13 2).toInt = (gI o10 2).toInt := by rw [eo13]; rfl
        have ko13_k15 : (gI o13 7).toInt = (gI o10 7).toInt := by rw [eo13]; rfl
        have ko13_v : (gI o13 8).toInt = (v1_1 + (1 : Int32)).toInt := by rw [eo13]; rfl
        have hkpo13 : Kp [2, 3, 4, 5] [0] [] o_me o13 := hkpo10.trans (by rw [eo13]; exact Kp.sI (by decide))
        refine wp_lt (fun o16 eo16 => ?_)
        have hIo16 : IvX6 o16 := by rw [eo16]; exact hIo13
        have ko16_k17 : (gI o16 2).toInt = (gI o13 2).toInt := by rw [eo16]; rfl
        have ko16_k18 : (gI o16 7).toInt = (gI o13 7).toInt := by rw [eo16]; rfl
        have ko16_k19 : (gI o16 8).toInt = (gI o13 8).toInt := by rw [eo16]; rfl
        have ko16_v : (gI o16 9).toInt = 0 := by rw [eo16]; exact (show ((0 : Int32)).toInt = _ from by decide)
        have hkpo16 : Kp [2, 3, 4, 5] [0] [] o_me o16 := hkpo13.trans (by rw [eo16]; exact Kp.sI (by decide))
        refine wp_if (fun c20 => ?_) (fun c20 => ?_)
        · have c20 := cv_lt (a := v1_1.toInt) (b := (gI o16 2).toInt) rfl rfl c20
          exact absurd c20 (Int.not_lt.mpr (zz_0 (zd_e (c := 0) (zd_e (c := 0) (zd_e (c := 0) (zq_0 ko16_k17) (zq_0 ko13_k14) (by decide)) (zq_0 ko10_k11) (by decide)) (zl_0 c9) (by decide))))
        · have c20 := cv_nlt (a := v1_1.toInt) (b := (gI o16 2).toInt) rfl rfl c20
          refine wp_lt (fun o21 eo21 => ?_)
          have hIo21 : IvX6 o21 := by rw [eo21]; exact ipX6_6 hIo16 ⟨by decide, by decide⟩
          have ko21_k22 : (gI o21 2).toInt = (gI o16 2).toInt := by rw [eo21]; rfl
          have ko21_k23 : (gI o21 7).toInt = (gI o16 7).toInt := by rw [eo21]; rfl
          have ko21_k24 : (gI o21 8).toInt = (gI o16 8).toInt := by rw [eo21]; rfl
          have ko21_k25 : (gI o21 9).toInt = (gI o16 9).toInt := by rw [eo21]; rfl
          have ko21_v : (gI o21 6).toInt = 0 := by rw [eo21]; exact (show ((0 : Int32)).toInt = _ from by decide)
          have hkpo21 : Kp [2, 3, 4, 5] [0] [] o_me o21 := hkpo16.trans (by rw [eo21]; exact Kp.sI (by decide))
          refine wp_lt (fun o26 eo26 => ?_)
          have hIo26 : IvX6 o26 := by rw [eo26]; exact ipX6_8 hIo21 ⟨hh5.1, (Int.le_trans hh5.2 (by decide))⟩
          have ko26_k27 : (gI o26 2).toInt = (gI o21 2).toInt := by rw [eo26]; rfl
          have ko26_k28 : (gI o26 6).toInt = (gI o21 6).toInt := by rw [eo26]; rfl
          have ko26_k29 : (gI o26 7).toInt = (gI o21 7).toInt := by rw [eo26]; rfl
          have ko26_k30 : (gI o26 9).toInt = (gI o21 9).toInt := by rw [eo26]; rfl
          have ko26_v : (gI o26 8).toInt = v1_1.toInt := by rw [eo26]; rfl
          have hkpo26 : Kp [2, 3, 4, 5] [0] [] o_me o26 := hkpo21.trans (by rw [eo26]; exact Kp.sI (by decide))
          refine wp_some ?_
          exact (show IvX6 o26 ∧ Kp [2, 3, 4, 5] [0] [] o_me o26 ∧ ((gI o26 8).toInt ≤ (gI o26 2).toInt + 0) from ⟨hIo26, hkpo26, (by omega)⟩)
      · have c9 := cv_nge (a := v1_1.toInt) (b := (gI o_me_1 2).toInt) rfl rfl c9
        refine wp_bd (s_X6_byteAt   o_me_1 v1_1  hI_me_1  ) (fun z31 hz31 => ?_)
        refine wp_if (fun c32 => ?_) (fun c32 => ?_)
        · have c32 := cv_eq (a := z31.toInt) (b := 32) rfl (by decide) c32
          refine wp_lt (fun x33 ex33 => ?_)
          have tx33 : x33.toInt = v1_1.toInt + 1 := by rw [ex33]; exact i32_add rfl (by decide) (zk_l hh5.1 (by decide)) (zk_u (zu_e (k := 399) (zl_d c9) t8.2 (by decide)) (by decide))
          exact ih1 x33 o_me_1 hI_me_1 hkp_me_1 ⟨(zl_e (zq_r (c := (-1)) tx33 (by decide)) hh5.1 (by decide)), (zu_e (zd_e (c := 0) (Int.le_of_eq tx33) (zl_d c9) (by decide)) t8.2 (by decide))⟩ (zd_e (c := 0) (Int.le_of_eq tx33) (zl_d c9) (by decide)) (zms_u (c := 399) hN1 (zq_r (c := (-1)) tx33 (by decide)) (zu_e (zl_d c9) t8.2 (by decide)) (by decide))
        · have c32 := cv_ne (a := z31.toInt) (b := 32) rfl (by decide) c32
          unfold bk_X6_step_29
          refine wp_lt (fun o34 eo34 => ?_)
          have hIo34 : IvX6 o34 := by rw [eo34]; exact ipX6_7 hI_me_1 ⟨hh5.1, hh5.2⟩
          have ko34_k35 : (gI o34 2).toInt = (gI o_me_1 2).toInt := by rw [eo34]; rfl
          have ko34_v : (gI o34 7).toInt = v1_1.toInt := by rw [eo34]; rfl
          have hkpo34 : Kp [2, 3, 4, 5] [0] [] o_me o34 := hkp_me_1.trans (by rw [eo34]; exact Kp.sI (by decide))
          have t36 : (v1_1 + (1 : Int32)).toInt = v1_1.toInt + 1 := i32_add rfl (by decide) (zk_l hh5.1 (by decide)) (zk_u (zu_e (k := 399) (zl_d c9) t8.2 (by decide)) (by decide))
          refine wp_lt (fun o37 eo37 => ?_)
          have hIo37 : IvX6 o37 := by rw [eo37]; exact ipX6_8 hIo34 ⟨(zl_e (zq_r (c := (-1)) t36 (by decide)) hh5.1 (by decide)), (zu_e (Int.le_of_eq t36) hh5.2 (by decide))⟩
          have ko37_k38 : (gI o37 2).toInt = (gI o34 2).toInt := by rw [eo37]; rfl
          have ko37_k39 : (gI o37 7).toInt = (gI o34 7).toInt := by rw [eo37]; rfl
          have ko37_v : (gI o37 8).toInt = (v1_1 + (1 : Int32)).toInt := by rw [eo37]; rfl
          have hkpo37 : Kp [2, 3, 4, 5] [0] [] o_me o37 := hkpo34.trans (by rw [eo37]; exact Kp.sI (by decide))
          refine wp_lt (fun o40 eo40 => ?_)
          have hIo40 : IvX6 o40 := by rw [eo40]; exact hIo37
          have ko40_k41 : (gI o40 2).toInt = (gI o37 2).toInt := by rw [eo40]; rfl
          have ko40_k42 : (gI o40 7).toInt = (gI o37 7).toInt := by rw [eo40]; rfl
          have ko40_k43 : (gI o40 8).toInt = (gI o37 8).toInt := by rw [eo40]; rfl
          have ko40_v : (gI o40 9).toInt = 0 := by rw [eo40]; exact (show ((0 : Int32)).toInt = _ from by decide)
          have hkpo40 : Kp [2, 3, 4, 5] [0] [] o_me o40 := hkpo37.trans (by rw [eo40]; exact Kp.sI (by decide))
          refine wp_if (fun c44 => ?_) (fun c44 => ?_)
          · have c44 := cv_lt (a := v1_1.toInt) (b := (gI o40 2).toInt) rfl rfl c44
            refine wp_bd (s_X6_byteAt   o40 v1_1  hIo40  ) (fun z45 hz45 => ?_)
            refine wp_bd (s_X6_isLetter   z45    ) (fun z46 hz46 => ?_)
            have hz46_0 := hz46
            refine wp_if (fun c47 => ?_) (fun c47 => ?_)
            · have c47 := cv_eq (a := z46.toInt) (b := 0) rfl (by decide) c47
              refine wp_bd (s_X6_byteAt   o40 v1_1  hIo40  ) (fun z48 hz48 => ?_)
              refine wp_bd (s_X6_isDigit   z48    ) (fun z49 hz49 => ?_)
              have hz49_0 := hz49
              refine wp_if (fun c50 => ?_) (fun c50 => ?_)
              · have c50 := cv_eq (a := z49.toInt) (b := 0) rfl (by decide) c50
                refine wp_lt (fun o51 eo51 => ?_)
                have hIo51 : IvX6 o51 := by rw [eo51]; exact ipX6_6 hIo40 ⟨by decide, by decide⟩
                have ko51_k52 : (gI o51 2).toInt = (gI o40 2).toInt := by rw [eo51]; rfl
                have ko51_k53 : (gI o51 7).toInt = (gI o40 7).toInt := by rw [eo51]; rfl
                have ko51_k54 : (gI o51 8).toInt = (gI o40 8).toInt := by rw [eo51]; rfl
                have ko51_k55 : (gI o51 9).toInt = (gI o40 9).toInt := by rw [eo51]; rfl
                have ko51_v : (gI o51 6).toInt = 3 := by rw [eo51]; exact (show ((3 : Int32)).toInt = _ from by decide)
                have hkpo51 : Kp [2, 3, 4, 5] [0] [] o_me o51 := hkpo40.trans (by rw [eo51]; exact Kp.sI (by decide))
                refine wp_some ?_
                exact (show IvX6 o51 ∧ Kp [2, 3, 4, 5] [0] [] o_me o51 ∧ ((gI o51 8).toInt ≤ (gI o51 2).toInt + 0) from ⟨hIo51, hkpo51, (by omega)⟩)
              · have c50z := c50
                have c50 := cv_ne (a := z49.toInt) (b := 0) rfl (by decide) c50
                refine wp_lt (fun o56 eo56 => ?_)
                have hIo56 : IvX6 o56 := by rw [eo56]; exact ipX6_6 hIo40 ⟨by decide, by decide⟩
                have ko56_k57 : (gI o56 2).toInt = (gI o40 2).toInt := by rw [eo56]; rfl
                have ko56_k58 : (gI o56 7).toInt = (gI o40 7).toInt := by rw [eo56]; rfl
                have ko56_k59 : (gI o56 8).toInt = (gI o40 8).toInt := by rw [eo56]; rfl
                have ko56_k60 : (gI o56 9).toInt = (gI o40 9).toInt := by rw [eo56]; rfl
                have ko56_v : (gI o56 6).toInt = 2 := by rw [eo56]; exact (show ((2 : Int32)).toInt = _ from by decide)
                have hkpo56 : Kp [2, 3, 4, 5] [0] [] o_me o56 := hkpo40.trans (by rw [eo56]; exact Kp.sI (by decide))
                refine wp_bd (s_X6_byteAt   o56 v1_1  hIo56  ) (fun z61 hz61 => ?_)
                have t62 := i32_subw (x := z61) (y := (48 : Int32)) (b := 48) (by decide) (by decide)
                have rg63 := i32_rg z61
                refine wp_lt (fun o64 eo64 => ?_)
                have hIo64 : IvX6 o64 := by rw [eo64]; exact hIo56
                have ko64_k65 : (gI o64 2).toInt = (gI o56 2).toInt := by rw [eo64]; rfl
                have ko64_k66 : (gI o64 6).toInt = (gI o56 6).toInt := by rw [eo64]; rfl
                have ko64_k67 : (gI o64 7).toInt = (gI o56 7).toInt := by rw [eo64]; rfl
                have ko64_k68 : (gI o64 8).toInt = (gI o56 8).toInt := by rw [eo64]; rfl
                have ko64_v : (gI o64 9).toInt = (z61 - (48 : Int32)).toInt := by rw [eo64]; rfl
                have hkpo64 : Kp [2, 3, 4, 5] [0] [] o_me o64 := hkpo56.trans (by rw [eo64]; exact Kp.sI (by decide))
                have lp2 : ∀ (N2 : Nat) (o_me_2 : Ob), IvX6 o_me_2 → Kp [2, 3, 4, 5] [0] [] o_me o_me_2 → (1 ≤ (gI o_me_2 8).toInt ∧ (gI o_me_2 8).toInt ≤ 400) → ((gI o_me_2 8).toInt ≤ (gI o_me_2 2).toInt + 0) → (400 - (gI o_me_2 8).toInt).toNat < N2 → wp (lp_X6_step_149   N2 o_me_2) (fun (y : Ob) => IvX6 y ∧ Kp [2, 3, 4, 5] [0] [] o_me y ∧ ((gI y 8).toInt ≤ (gI y 2).toInt + 0)) := by
                  intro N2
                  induction N2 with
                  | zero =>
                    intro o_me_2 hI_me_2 hkp_me_2 hh71 hh72 hN2
                    exact absurd hN2 (Nat.not_lt_zero _)
                  | succ N2 ihx =>
                    have ih2 := ihx
                    intro o_me_2 hI_me_2 hkp_me_2 hh71 hh72 hN2
                    show wp (lb_X6_step_149   (lp_X6_step_149   N2) o_me_2) (fun (y : Ob) => IvX6 y ∧ Kp [2, 3, 4, 5] [0] [] o_me y ∧ ((gI y 8).toInt ≤ (gI y 2).toInt + 0))
                    unfold lb_X6_step_149
                    have t74 := igX6_2 hI_me_2
                    refine wp_if (fun c75 => ?_) (fun c75 => ?_)
                    · have c75 := cv_ge (a := (gI o_me_2 8).toInt) (b := (gI o_me_2 2).toInt) rfl rfl c75
                      refine wp_some ?_
                      exact (show IvX6 o_me_2 ∧ Kp [2, 3, 4, 5] [0] [] o_me o_me_2 ∧ ((gI o_me_2 8).toInt ≤ (gI o_me_2 2).toInt + 0) from ⟨hI_me_2, hkp_me_2, hh72⟩)
                    · have c75 := cv_nge (a := (gI o_me_2 8).toInt) (b := (gI o_me_2 2).toInt) rfl rfl c75
                      refine wp_bd (s_X6_byteAt   o_me_2 (gI o_me_2 8)  hI_me_2  ) (fun z76 hz76 => ?_)
                      refine wp_bd (s_X6_isDigit   z76    ) (fun z77 hz77 => ?_)
                      have hz77_0 := hz77
                      refine wp_if (fun c78 => ?_) (fun c78 => ?_)
                      · have c78 := cv_eq (a := z77.toInt) (b := 0) rfl (by decide) c78
                        refine wp_some ?_
                        exact (show IvX6 o_me_2 ∧ Kp [2, 3, 4, 5] [0] [] o_me o_me_2 ∧ ((gI o_me_2 8).toInt ≤ (gI o_me_2 2).toInt + 0) from ⟨hI_me_2, hkp_me_2, hh72⟩)
                      · have c78z := c78
                        have c78 := cv_ne (a := z77.toInt) (b := 0) rfl (by decide) c78
                        refine wp_bd (s_X6_byteAt   o_me_2 (gI o_me_2 8)  hI_me_2  ) (fun z79 hz79 => ?_)
                        have t80 := i32_subw (x := ((gI o_me_2 9) * (10 : Int32)) + z79) (y := (48 : Int32)) (b := 48) (by decide) (by decide)
                        have rg81 := i32_rg (((gI o_me_2 9) * (10 : Int32)) + z79)
                        have rg83 := i32_rg ((((gI o_me_2 9) * (10 : Int32)) + z79) - (48 : Int32))
                        have t82 : (-2147483648) ≤ (if ((((gI o_me_2 9) * (10 : Int32)) + z79) - (48 : Int32)) < (1001 : Int32) then ((((gI o_me_2 9) * (10 : Int32)) + z79) - (48 : Int32)) else (1001 : Int32)).toInt ∧ (if ((((gI o_me_2 9) * (10 : Int32)) + z79) - (48 : Int32)) < (1001 : Int32) then ((((gI o_me_2 9) * (10 : Int32)) + z79) - (48 : Int32)) else (1001 : Int32)).toInt ≤ 1001 := z_min (a := 1001) (b := ((((gI o_me_2 9) * (10 : Int32)) + z79) - (48 : Int32)).toInt) (by decide) rfl ⟨(by decide), rg83.1⟩ (Or.inl (by decide))
                        have t84 := z_mng (1001 : Int32) ((((gI o_me_2 9) * (10 : Int32)) + z79) - (48 : Int32))
                        refine wp_lt (fun o85 eo85 => ?_)
                        have hIo85 : IvX6 o85 := by rw [eo85]; exact hI_me_2
                        have ko85_k86 : (gI o85 2).toInt = (gI o_me_2 2).toInt := by rw [eo85]; rfl
                        have ko85_k87 : (gI o85 8).toInt = (gI o_me_2 8).toInt := by rw [eo85]; rfl
                        have ko85_v : (gI o85 9).toInt = (if ((((gI o_me_2 9) * (10 : Int32)) + z79) - (48 : Int32)) < (1001 : Int32) then ((((gI o_me_2 9) * (10 : Int32)) + z79) - (48 : Int32)) else (1001 : Int32)).toInt := by rw [eo85]; rfl
                        have hkpo85 : Kp [2, 3, 4, 5] [0] [] o_me o85 := hkp_me_2.trans (by rw [eo85]; exact Kp.sI (by decide))
                        have t88 : ((gI o85 8) + (1 : Int32)).toInt = (gI o85 8).toInt + 1 := i32_add rfl (by decide) (zk_l (zl_e (k := 1) (zq_0 ko85_k87.symm) hh71.1 (by decide)) (by decide)) (zk_u (zu_e (k := 399) (zd_e (c := (-1)) (zq_0 ko85_k87) (zl_d c75) (by decide)) t74.2 (by decide)) (by decide))
                        refine wp_lt (fun o89 eo89 => ?_)
                        have hIo89 : IvX6 o89 := by rw [eo89]; exact ipX6_8 hIo85 ⟨(zl_e (zd_e (c := (-1)) (zq_0 ko85_k87.symm) (zq_r (c := (-1)) t88 (by decide)) (by decide)) hh71.1 (by decide)), (zu_e (zd_e (c := 1) (Int.le_of_eq t88) (zq_0 ko85_k87) (by decide)) hh71.2 (by decide))⟩
                        have ko89_k90 : (gI o89 2).toInt = (gI o85 2).toInt := by rw [eo89]; rfl
                        have ko89_k91 : (gI o89 9).toInt = (gI o85 9).toInt := by rw [eo89]; rfl
                        have ko89_v : (gI o89 8).toInt = ((gI o85 8) + (1 : Int32)).toInt := by rw [eo89]; rfl
                        have hkpo89 : Kp [2, 3, 4, 5] [0] [] o_me o89 := hkpo85.trans (by rw [eo89]; exact Kp.sI (by decide))
                        exact ih2 o89 hIo89 hkpo89 ⟨(zl_e (zd_e (c := (-1)) (zq_0 ko85_k87.symm) (zd_e (c := (-1)) (zq_r (c := (-1)) t88 (by decide)) (zq_0 ko89_v.symm) (by decide)) (by decide)) hh71.1 (by decide)), (zu_e (zd_e (c := 0) (zd_e (c := 1) (zd_e (c := 1) (zq_0 ko89_v) (Int.le_of_eq t88) (by decide)) (zq_0 ko85_k87) (by decide)) (zl_d c75) (by decide)) t74.2 (by decide))⟩ (by omega) (zms_u (c := 399) hN2 (zd_e (c := (-1)) (zd_e (c := (-1)) (zq_0 ko85_k87.symm) (zq_r (c := (-1)) t88 (by decide)) (by decide)) (zq_0 ko89_v.symm) (by decide)) (zu_e (zl_d c75) t74.2 (by decide)) (by decide))
                exact lp2 zfu o64 hIo64 hkpo64 ⟨(by omega), (by omega)⟩ (by omega) (by show _ < 100000; omega)
            · have c47z := c47
              have c47 := cv_ne (a := z46.toInt) (b := 0) rfl (by decide) c47
              refine wp_lt (fun o92 eo92 => ?_)
              have hIo92 : IvX6 o92 := by rw [eo92]; exact ipX6_6 hIo40 ⟨by decide, by decide⟩
              have ko92_k93 : (gI o92 2).toInt = (gI o40 2).toInt := by rw [eo92]; rfl
              have ko92_k94 : (gI o92 7).toInt = (gI o40 7).toInt := by rw [eo92]; rfl
              have ko92_k95 : (gI o92 8).toInt = (gI o40 8).toInt := by rw [eo92]; rfl
              have ko92_k96 : (gI o92 9).toInt = (gI o40 9).toInt := by rw [eo92]; rfl
              have ko92_v : (gI o92 6).toInt = 1 := by rw [eo92]; exact (show ((1 : Int32)).toInt = _ from by decide)
              have hkpo92 : Kp [2, 3, 4, 5] [0] [] o_me o92 := hkpo40.trans (by rw [eo92]; exact Kp.sI (by decide))
              have lp3 : ∀ (N3 : Nat) (o_me_3 : Ob), IvX6 o_me_3 → Kp [2, 3, 4, 5] [0] [] o_me o_me_3 → (1 ≤ (gI o_me_3 8).toInt ∧ (gI o_me_3 8).toInt ≤ 400) → ((gI o_me_3 8).toInt ≤ (gI o_me_3 2).toInt + 0) → (400 - (gI o_me_3 8).toInt).toNat < N3 → wp (lp_X6_step_83   N3 o_me_3) (fun (y : Ob) => IvX6 y ∧ Kp [2, 3, 4, 5] [0] [] o_me y ∧ ((gI y 8).toInt ≤ (gI y 2).toInt + 0)) := by
                intro N3
                induction N3 with
                | zero =>
                  intro o_me_3 hI_me_3 hkp_me_3 hh99 hh100 hN3
                  exact absurd hN3 (Nat.not_lt_zero _)
                | succ N3 ihx =>
                  have ih3 := ihx
                  intro o_me_3 hI_me_3 hkp_me_3 hh99 hh100 hN3
                  show wp (lb_X6_step_83   (lp_X6_step_83   N3) o_me_3) (fun (y : Ob) => IvX6 y ∧ Kp [2, 3, 4, 5] [0] [] o_me y ∧ ((gI y 8).toInt ≤ (gI y 2).toInt + 0))
                  unfold lb_X6_step_83
                  have t102 := igX6_2 hI_me_3
                  refine wp_if (fun c103 => ?_) (fun c103 => ?_)
                  · have c103 := cv_ge (a := (gI o_me_3 8).toInt) (b := (gI o_me_3 2).toInt) rfl rfl c103
                    refine wp_some ?_
                    exact (show IvX6 o_me_3 ∧ Kp [2, 3, 4, 5] [0] [] o_me o_me_3 ∧ ((gI o_me_3 8).toInt ≤ (gI o_me_3 2).toInt + 0) from ⟨hI_me_3, hkp_me_3, hh100⟩)
                  · have c103 := cv_nge (a := (gI o_me_3 8).toInt) (b := (gI o_me_3 2).toInt) rfl rfl c103
                    refine wp_bd (s_X6_byteAt   o_me_3 (gI o_me_3 8)  hI_me_3  ) (fun z104 hz104 => ?_)
                    refine wp_bd (s_X6_isLetter   z104    ) (fun z105 hz105 => ?_)
                    have hz105_0 := hz105
                    refine wp_if (fun c106 => ?_) (fun c106 => ?_)
                    · have c106 := cv_eq (a := z105.toInt) (b := 0) rfl (by decide) c106
                      refine wp_some ?_
                      exact (show IvX6 o_me_3 ∧ Kp [2, 3, 4, 5] [0] [] o_me o_me_3 ∧ ((gI o_me_3 8).toInt ≤ (gI o_me_3 2).toInt + 0) from ⟨hI_me_3, hkp_me_3, hh100⟩)
                    · have c106z := c106
                      have c106 := cv_ne (a := z105.toInt) (b := 0) rfl (by decide) c106
                      have t107 : ((gI o_me_3 8) + (1 : Int32)).toInt = (gI o_me_3 8).toInt + 1 := i32_add rfl (by decide) (zk_l hh99.1 (by decide)) (zk_u (zu_e (k := 399) (zl_d c103) t102.2 (by decide)) (by decide))
                      refine wp_lt (fun o108 eo108 => ?_)
                      have hIo108 : IvX6 o108 := by rw [eo108]; exact ipX6_8 hI_me_3 ⟨(zl_e (zq_r (c := (-1)) t107 (by decide)) hh99.1 (by decide)), (zu_e (Int.le_of_eq t107) hh99.2 (by decide))⟩
                      have ko108_k109 : (gI o108 2).toInt = (gI o_me_3 2).toInt := by rw [eo108]; rfl
                      have ko108_v : (gI o108 8).toInt = ((gI o_me_3 8) + (1 : Int32)).toInt := by rw [eo108]; rfl
                      have hkpo108 : Kp [2, 3, 4, 5] [0] [] o_me o108 := hkp_me_3.trans (by rw [eo108]; exact Kp.sI (by decide))
                      exact ih3 o108 hIo108 hkpo108 ⟨(zl_e (zd_e (c := (-1)) (zq_r (c := (-1)) t107 (by decide)) (zq_0 ko108_v.symm) (by decide)) hh99.1 (by decide)), (zu_e (zd_e (c := 0) (zd_e (c := 1) (zq_0 ko108_v) (Int.le_of_eq t107) (by decide)) (zl_d c103) (by decide)) t102.2 (by decide))⟩ (zd_e (c := 0) (zd_e (c := 0) (zd_e (c := 1) (zq_0 ko108_v) (Int.le_of_eq t107) (by decide)) (zl_d c103) (by decide)) (zq_0 ko108_k109.symm) (by decide)) (zms_u (c := 399) hN3 (zd_e (c := (-1)) (zq_r (c := (-1)) t107 (by decide)) (zq_0 ko108_v.symm) (by decide)) (zu_e (zl_d c103) t102.2 (by decide)) (by decide))
              exact lp3 zfu o92 hIo92 hkpo92 ⟨(zl_e (zd_e (c := (-1)) (zq_r (c := (-1)) t36 (by decide)) (zd_e (c := 0) (zq_0 ko37_v.symm) (zd_e (c := 0) (zq_0 ko40_k43.symm) (zq_0 ko92_k95.symm) (by decide)) (by decide)) (by decide)) hh5.1 (by decide)), (by omega)⟩ (by omega) (zme_u (l := 1) (zl_e (k := 1) (zd_e (c := (-1)) (zq_r (c := (-1)) t36 (by decide)) (zd_e (c := 0) (zq_0 ko37_v.symm) (zd_e (c := 0) (zq_0 ko40_k43.symm) (zq_0 ko92_k95.symm) (by decide)) (by decide)) (by decide)) hh5.1 (by decide)) (by decide))
          · have c44 := cv_nlt (a := v1_1.toInt) (b := (gI o40 2).toInt) rfl rfl c44
            exact absurd c44 (Int.not_le.mpr (zz_l (zd_e (c := (-1)) (zd_e (c := (-1)) (zd_e (c := (-1)) (zl_d c9) (zq_0 ko34_k35.symm) (by decide)) (zq_0 ko37_k38.symm) (by decide)) (zq_0 ko40_k41.symm) (by decide))))
  have t110 := igX6_2 hI_me
  exact lp1 zfu x2 o_me hI_me Kp.rf ⟨(zl_e (zq_0 tx2.symm) t1.1 (by decide)), (zu_e (zd_e (c := 0) (zq_0 tx2) r0 (by decide)) t110.2 (by decide))⟩ (zd_e (c := 0) (zq_0 tx2) r0 (by decide)) (zme_u (l := 0) (zl_e (k := 0) (zq_0 tx2.symm) t1.1 (by decide)) (by decide))

set_option maxHeartbeats 4000000 in
set_option maxRecDepth 100000 in
theorem s_X6_stop (o_me : Ob) (hI_me : IvX6 o_me)  : wp (f_X6_stop   o_me) (fun (y : Int32 × Ob) => (0 ≤ y.1.toInt ∧ y.1.toInt ≤ 0) ∧ IvX6 y.2 ∧ Kp [2, 4, 5, 6, 7, 8] [0] [] o_me y.2) := by
  unfold f_X6_stop
  refine wp_lt (fun o2 eo2 => ?_)
  have hIo2 : IvX6 o2 := by rw [eo2]; exact hI_me
  have hkpo2 : Kp [2, 4, 5, 6, 7, 8] [0] [] o_me o2 := Kp.rf.trans (by rw [eo2]; exact Kp.sI (by decide))
  refine wp_some ?_
  exact (show (0 ≤ (0 : Int32).toInt ∧ (0 : Int32).toInt ≤ 0) ∧ IvX6 o2 ∧ Kp [2, 4, 5, 6, 7, 8] [0] [] o_me o2 from ⟨⟨by decide, by decide⟩, hIo2, hkpo2⟩)

-- the texts' lengths and letters
set_option maxRecDepth 100000 in
theorem tx_len : ∀ p, p < 9 → f_J0_length_8abf5 p = some (Int32.ofNat (lnS.getD p 0)) := by decide +kernel
set_option maxRecDepth 100000 in
theorem tx_chr : ∀ p, p < 9 → ∀ k, k < lnS.getD p 0 → f_J0_charAt_5068e p (Int32.ofNat k) = some ((btS.getD p []).getD k 0) := by decide +kernel
set_option maxRecDepth 100000 in
theorem ln_le : ∀ p, p < 9 → lnS.getD p 0 ≤ 100 := by decide +kernel
theorem h_isSame (o : Ob) (p : Nat) (hp : p < 9) (v2 v4 : Int32) (h7 : 0 ≤ (gI o 7).toInt) (g2 : 0 ≤ v2.toInt) (g3 : v2.toInt + v4.toInt ≤ (lnS.getD p 0 : Int)) (g4 : (gI o 7).toInt + v4.toInt ≤ 400) :
    ∀ (N : Nat) (v5 : Int32), 0 ≤ v5.toInt → (v4.toInt - v5.toInt).toNat < N → wp (lp_X6_isSame_53 o N (p, v2, v4, v5)) (fun y => 0 ≤ y.toInt ∧ y.toInt ≤ 1) := by
  have hl := ln_le p hp
  intro N
  induction N with
  | zero => intro v5 _ hN; exact absurd hN (Nat.not_lt_zero _)
  | succ N ih =>
    intro v5 h5 hN
    show wp (lb_X6_isSame_53 o (lp_X6_isSame_53 o N) p v2 v4 v5) _
    unfold lb_X6_isSame_53
    refine wp_if (fun c => wp_some ⟨by decide, by decide⟩) (fun c => ?_)
    have c := cv_nle (a := v4.toInt) (b := v5.toInt) rfl rfl c
    have r7 := i32_rg (gI o 7)
    have t1 : ((gI o 7) + v5).toInt = (gI o 7).toInt + v5.toInt := i32_add rfl rfl (by omega) (by omega)
    have t2 : (v2 + v5).toInt = v2.toInt + v5.toInt := i32_add rfl rfl (by omega) (by omega)
    refine wp_gd (zin_of (m := 400) rfl (by omega) (by omega)) ?_
    refine wp_gd (decide_eq_true hp) ?_
    have ek : v2 + v5 = Int32.ofNat (v2.toInt + v5.toInt).toNat := by
      refine Int32.toInt_inj.mp ?_
      rw [Int32.toInt_ofNat_of_lt (by omega), t2]
      omega
    refine wp_bd (Q := fun _ => True) ⟨_, by rw [ek]; exact tx_chr p hp _ (by omega), trivial⟩ (fun z _ => ?_)
    refine wp_if (fun c2 => ?_) (fun c2 => wp_some ⟨by decide, by decide⟩)
    refine wp_lt (fun x7 e7 => ?_)
    have t7 : x7.toInt = v5.toInt + 1 := by rw [e7]; exact i32_add rfl (by decide) (by omega) (by omega)
    exact ih x7 (by omega) (by omega)
set_option maxHeartbeats 4000000 in
set_option maxRecDepth 100000 in
theorem s_X6_isSame (o_me : Ob) (p0 : Nat) (p1 : Int32) (p2 : Int32) (hI_me : IvX6 o_me) (h_p0 : p0 < 9) (q0 : 0 ≤ p1.toInt ∧ p1.toInt ≤ 101) (q1 : 0 ≤ p2.toInt ∧ p2.toInt ≤ 101) : wp (f_X6_isSame   o_me p0 p1 p2) (fun (y : Int32) => (0 ≤ y.toInt ∧ y.toInt ≤ 1)) := by
  have hl := ln_le p0 h_p0
  have b7 := igX6_7 hI_me
  have b8 := igX6_8 hI_me
  unfold f_X6_isSame
  refine wp_lt (fun x1 e1 => ?_)
  have t1 : x1.toInt = p2.toInt - p1.toInt := by rw [e1]; exact i32_sub rfl rfl (by omega) (by omega)
  refine wp_if (fun c => wp_some ⟨by decide, by decide⟩) (fun c => ?_)
  refine wp_gd (decide_eq_true h_p0) ?_
  refine wp_bd (Q := fun z => z = Int32.ofNat (lnS.getD p0 0)) ⟨_, tx_len p0 h_p0, rfl⟩ (fun z2 hz2 => ?_)
  have tz : z2.toInt = (lnS.getD p0 0 : Int) := by rw [hz2]; exact Int32.toInt_ofNat_of_lt (by omega)
  refine wp_if (fun c => wp_some ⟨by decide, by decide⟩) (fun c2 => ?_)
  have c2 := cv_nlt (a := z2.toInt) (b := p2.toInt) rfl rfl c2
  refine wp_if (fun c3 => ?_) (fun c3 => wp_some ⟨by decide, by decide⟩)
  have t3 : ((gI o_me 8) - (gI o_me 7)).toInt = (gI o_me 8).toInt - (gI o_me 7).toInt := i32_sub rfl rfl (by omega) (by omega)
  have c3 := cv_eq (a := x1.toInt) (b := (gI o_me 8).toInt - (gI o_me 7).toInt) rfl t3 c3
  refine wp_if (fun c4 => wp_some ⟨by decide, by decide⟩) (fun c4 => ?_)
  refine wp_if (fun c5 => ?_) (fun c5 => wp_some ⟨by decide, by decide⟩)
  have c5 := cv_le (a := (gI o_me 8).toInt) (b := 400) rfl (by decide) c5
  have z0 : (0 : Int32).toInt = 0 := by decide
  exact h_isSame o_me p0 h_p0 p1 x1 (by omega) (by omega) (by omega) (by omega) zfu 0 (by omega) (by show _ < 100000; omega)

theorem h_wordOf (o : Ob) (hI : IvX6 o) (p : Nat) (hp : p < 9) :
    ∀ (N : Nat) (v2 v3 v4 : Int32), 0 ≤ v3.toInt → v3.toInt ≤ v4.toInt → v4.toInt ≤ (lnS.getD p 0 : Int) + 1 → ((lnS.getD p 0 : Int) + 1 - v4.toInt).toNat < N → wp (lp_X6_wordOf_17 o N (p, v2, v3, v4)) (fun _ => True) := by
  have hl := ln_le p hp
  intro N
  induction N with
  | zero => intro v2 v3 v4 _ _ _ hN; exact absurd hN (Nat.not_lt_zero _)
  | succ N ih =>
    intro v2 v3 v4 h3 h34 h4 hN
    show wp (lb_X6_wordOf_17 o (lp_X6_wordOf_17 o N) p v2 v3 v4) _
    unfold lb_X6_wordOf_17
    refine wp_gd (decide_eq_true hp) ?_
    refine wp_bd (Q := fun z => z = Int32.ofNat (lnS.getD p 0)) ⟨_, tx_len p hp, rfl⟩ (fun z1 hz1 => ?_)
    have tz : z1.toInt = (lnS.getD p 0 : Int) := by rw [hz1]; exact Int32.toInt_ofNat_of_lt (by omega)
    refine wp_if (fun c => wp_some trivial) (fun c => ?_)
    have c := cv_nlt (a := z1.toInt) (b := v4.toInt) rfl rfl c
    have h67 : ∀ w2 w3 : Int32, 0 ≤ w3.toInt → w3.toInt ≤ v4.toInt + 1 → wp (bk_X6_wordOf_67 o (lp_X6_wordOf_17 o N) p w2 w3 v4) (fun _ => True) := by
      intro w2 w3 g3 g4
      unfold bk_X6_wordOf_67
      refine wp_lt (fun x8 e8 => ?_)
      have t8 : x8.toInt = v4.toInt + 1 := by rw [e8]; exact i32_add rfl (by decide) (by omega) (by omega)
      exact ih w2 w3 x8 g3 (by omega) (by omega) (by omega)
    have h46 : wp (bk_X6_wordOf_46 o (lp_X6_wordOf_17 o N) p v2 v3 v4) (fun _ => True) := by
      unfold bk_X6_wordOf_46
      refine wp_bd (s_X6_isSame o p v3 v4 hI hp ⟨by omega, by omega⟩ ⟨by omega, by omega⟩) (fun z5 _ => ?_)
      refine wp_if (fun c => ?_) (fun c => wp_some trivial)
      refine wp_lt (fun x6 _ => ?_)
      refine wp_lt (fun x7 e7 => ?_)
      have t7 : x7.toInt = v4.toInt + 1 := by rw [e7]; exact i32_add rfl (by decide) (by omega) (by omega)
      exact h67 x6 x7 (by omega) (by omega)
    refine wp_gd (decide_eq_true hp) ?_
    refine wp_bd (Q := fun z => z = Int32.ofNat (lnS.getD p 0)) ⟨_, tx_len p hp, rfl⟩ (fun z3 hz3 => ?_)
    have tz3 : z3.toInt = (lnS.getD p 0 : Int) := by rw [hz3]; exact Int32.toInt_ofNat_of_lt (by omega)
    refine wp_if (fun c => h46) (fun c2 => ?_)
    have c2 := cv_ne (a := v4.toInt) (b := z3.toInt) rfl rfl c2
    refine wp_gd (decide_eq_true hp) ?_
    have ek : v4 = Int32.ofNat v4.toInt.toNat := by
      refine Int32.toInt_inj.mp ?_
      rw [Int32.toInt_ofNat_of_lt (by omega)]
      omega
    refine wp_bd (Q := fun _ => True) ⟨_, (congrArg (f_J0_charAt_5068e p) ek).trans (tx_chr p hp _ (by omega)), trivial⟩ (fun z9 _ => ?_)
    refine wp_if (fun c => h46) (fun c => h67 v2 v3 h3 (by omega))
set_option maxHeartbeats 4000000 in
set_option maxRecDepth 100000 in
theorem s_X6_wordOf (o_me : Ob) (p0 : Nat) (hI_me : IvX6 o_me) (h_p0 : p0 < 9)  : wp (f_X6_wordOf   o_me p0) (fun (y : Int32) => True) := by
  have hl := ln_le p0 h_p0
  unfold f_X6_wordOf
  refine wp_if (fun c => ?_) (fun c => wp_some trivial)
  have z0 : (0 : Int32).toInt = 0 := by decide
  exact h_wordOf o_me hI_me p0 h_p0 zfu 0 0 0 (by omega) (by omega) (by omega) (by show _ < 100000; omega)

set_option maxHeartbeats 4000000 in
set_option maxRecDepth 100000 in
theorem s_X6_isWord (o_me : Ob) (p0 : Nat) (hI_me : IvX6 o_me) (h_p0 : p0 < 9)  : wp (f_X6_isWord   o_me p0) (fun (y : Int32) => (0 ≤ y.toInt ∧ y.toInt ≤ 1)) := by
  unfold f_X6_isWord
  refine wp_bd (s_X6_wordOf   o_me p0  hI_me h_p0 ) (fun z1 hz1 => ?_)
  refine wp_if (fun c2 => ?_) (fun c2 => ?_)
  · refine wp_some ?_
    exact (show (0 ≤ (1 : Int32).toInt ∧ (1 : Int32).toInt ≤ 1) from ⟨by decide, by decide⟩)
  · refine wp_some ?_
    exact (show (0 ≤ (0 : Int32).toInt ∧ (0 : Int32).toInt ≤ 1) from ⟨by decide, by decide⟩)

set_option maxHeartbeats 4000000 in
set_option maxRecDepth 100000 in
theorem s_X6_isSign (o_me : Ob) (p0 : Int32) (hI_me : IvX6 o_me)  : wp (f_X6_isSign   o_me p0) (fun (y : Int32) => (0 ≤ y.toInt ∧ y.toInt ≤ 1)) := by
  unfold f_X6_isSign
  refine wp_if (fun c2 => ?_) (fun c2 => ?_)
  · refine wp_bd (s_X6_byteAt   o_me (gI o_me 7)  hI_me  ) (fun z4 hz4 => ?_)
    refine wp_if (fun c5 => ?_) (fun c5 => ?_)
    · refine wp_some ?_
      exact (show (0 ≤ (1 : Int32).toInt ∧ (1 : Int32).toInt ≤ 1) from ⟨by decide, by decide⟩)
    · refine wp_some ?_
      exact (show (0 ≤ (0 : Int32).toInt ∧ (0 : Int32).toInt ≤ 1) from ⟨by decide, by decide⟩)
  · refine wp_some ?_
    exact (show (0 ≤ (0 : Int32).toInt ∧ (0 : Int32).toInt ≤ 1) from ⟨by decide, by decide⟩)

set_option maxHeartbeats 4000000 in
set_option maxRecDepth 100000 in
theorem s_X0_add (nc_me : Nat) (ns_me : Nat) (o_me : Ob) (p0 : Int32) (p1 : Int32) (hI_me : IvX0 nc_me ns_me o_me)  : wp (f_X0_add  nc_me ns_me o_me p0 p1) (fun (y : Int32 × Ob) => ((-1) ≤ y.1.toInt ∧ y.1.toInt ≤ 399) ∧ IvX0 nc_me ns_me y.2 ∧ Kp [7] [1] [] o_me y.2) := by
  have li0 : (-1 : Int32).toInt = (-1) := by decide
  have li1 : (1 : Int32).toInt = 1 := by decide
  unfold f_X0_add
  have t9nc := igX0_7 hI_me
  have t9ns := igX0_8 hI_me
  have t1 := ofn_X0 hI_me
  refine wp_if (fun c2 => ?_) (fun c2 => ?_)
  · have c2 := cv_lt (a := (gI o_me 8).toInt) (b := (Int32.ofNat ns_me).toInt) rfl rfl c2
    refine wp_gd (zin_of (m := (ns_me : Int)) rfl t9ns.1 (by omega)) ?_
    refine wp_lt (fun o3 eo3 => ?_)
    have hIo3 : IvX0 nc_me ns_me o3 := by rw [eo3]; exact hI_me
    have ko3_k4 : (gI o3 7).toInt = (gI o_me 7).toInt := by rw [eo3]; rfl
    have ko3_k5 : (gI o3 8).toInt = (gI o_me 8).toInt := by rw [eo3]; rfl
    have ko3_v : (gA o3 5 (gI o_me 8).toNatClampNeg).toInt = p0.toInt := by rw [eo3]; exact congrArg Int32.toInt (upd_eq (g := gA o_me 5) (i := (gI o_me 8)) (v := p0))
    have hkpo3 : Kp [7] [1] [] o_me o3 := Kp.rf.trans (by rw [eo3]; exact Kp.tA (by decide) (by decide))
    refine wp_gd (zin_of (m := (ns_me : Int)) rfl (zl_e (zq_0 ko3_k5.symm) t9ns.1 (by decide)) (by omega)) ?_
    refine wp_lt (fun o6 eo6 => ?_)
    have hIo6 : IvX0 nc_me ns_me o6 := by rw [eo6]; exact hIo3
    have ko6_k7 : (gA o6 5 (gI o_me 8).toNatClampNeg).toInt = (gA o3 5 (gI o_me 8).toNatClampNeg).toInt := by rw [eo6]; rfl
    have ko6_k8 : (gI o6 7).toInt = (gI o3 7).toInt := by rw [eo6]; rfl
    have ko6_k9 : (gI o6 8).toInt = (gI o3 8).toInt := by rw [eo6]; rfl
    have ko6_v : (gA o6 6 (gI o3 8).toNatClampNeg).toInt = p1.toInt := by rw [eo6]; exact congrArg Int32.toInt (upd_eq (g := gA o3 6) (i := (gI o3 8)) (v := p1))
    have hkpo6 : Kp [7] [1] [] o_me o6 := hkpo3.trans (by rw [eo6]; exact Kp.tA (by decide) (by decide))
    have t10 : ((gI o6 8) + (1 : Int32)).toInt = (gI o6 8).toInt + 1 := i32_add rfl (by decide) (zk_l (zl_e (k := 0) (zd_e (c := 0) (zq_0 ko3_k5.symm) (zq_0 ko6_k9.symm) (by decide)) t9ns.1 (by decide)) (by decide)) (zk_u (zu_e (k := 400) (zd_e (c := 0) (zd_e (c := 0) (zq_0 ko6_k9) (zq_0 ko3_k5) (by decide)) (zl_0 t9ns.2.1) (by decide)) t9ns.2.2 (by decide)) (by decide))
    refine wp_lt (fun o11 eo11 => ?_)
    have hIo11 : IvX0 nc_me ns_me o11 := by rw [eo11]; exact ipX0_8 hIo6 ⟨(zl_e (zd_e (c := (-1)) (zq_0 ko3_k5.symm) (zd_e (c := (-1)) (zq_0 ko6_k9.symm) (zq_r (c := (-1)) t10 (by decide)) (by decide)) (by decide)) t9ns.1 (by decide)), (by omega)⟩
    have ko11_k12 : (gA o11 5 (gI o_me 8).toNatClampNeg).toInt = (gA o6 5 (gI o_me 8).toNatClampNeg).toInt := by rw [eo11]; rfl
    have ko11_k13 : (gA o11 6 (gI o3 8).toNatClampNeg).toInt = (gA o6 6 (gI o3 8).toNatClampNeg).toInt := by rw [eo11]; rfl
    have ko11_k14 : (gI o11 7).toInt = (gI o6 7).toInt := by rw [eo11]; rfl
    have ko11_v : (gI o11 8).toInt = ((gI o6 8) + (1 : Int32)).toInt := by rw [eo11]; rfl
    have hkpo11 : Kp [7] [1] [] o_me o11 := hkpo6.trans (by rw [eo11]; exact Kp.sI (by decide))
    have t15 : ((gI o11 8) - (1 : Int32)).toInt = (gI o11 8).toInt - 1 := i32_sub rfl (by decide) (by omega) (by omega)
    refine wp_some ?_
    exact (show ((-1) ≤ ((gI o11 8) - (1 : Int32)).toInt ∧ ((gI o11 8) - (1 : Int32)).toInt ≤ 399) ∧ IvX0 nc_me ns_me o11 ∧ Kp [7] [1] [] o_me o11 from ⟨⟨(by omega), (by omega)⟩, hIo11, hkpo11⟩)
  · have c2 := cv_nlt (a := (gI o_me 8).toInt) (b := (Int32.ofNat ns_me).toInt) rfl rfl c2
    refine wp_some ?_
    exact (show ((-1) ≤ (-1 : Int32).toInt ∧ (-1 : Int32).toInt ≤ 399) ∧ IvX0 nc_me ns_me o_me ∧ Kp [7] [1] [] o_me o_me from ⟨⟨by decide, by decide⟩, hI_me, Kp.rf⟩)

set_option maxHeartbeats 4000000 in
set_option maxRecDepth 100000 in
theorem s_X3_wordOfPerson (p0 : Int32) (p1 : Int32)   : wp (f_X3_wordOfPerson   p0 p1) (fun (y : Int32) => True) := by
  unfold f_X3_wordOfPerson
  refine wp_if (fun c1 => ?_) (fun c1 => ?_)
  · obtain ⟨w2, ew2⟩ : ∃ z : Int32, z = (5 : Int32) := ⟨_, rfl⟩
    rw [show bk_X3_wordOfPerson_11   p1 (5 : Int32) = bk_X3_wordOfPerson_11   p1 w2 from by rw [ew2]]
    unfold bk_X3_wordOfPerson_11
    refine wp_some ?_
    exact trivial
  · obtain ⟨w3, ew3⟩ : ∃ z : Int32, z = (12 : Int32) := ⟨_, rfl⟩
    rw [show bk_X3_wordOfPerson_11   p1 (12 : Int32) = bk_X3_wordOfPerson_11   p1 w3 from by rw [ew3]]
    unfold bk_X3_wordOfPerson_11
    refine wp_some ?_
    exact trivial

set_option maxHeartbeats 4000000 in
set_option maxRecDepth 100000 in
theorem s_X6_readSinglePart (o_me : Ob) (o_me_code : Ob) (hI_me : IvX6 o_me) (hI_me_code : IvX0 12 400 o_me_code) (r0 : (gI o_me 8).toInt ≤ (gI o_me 2).toInt + 0) : wp (f_X6_readSinglePart  12 400 o_me o_me_code) (fun (y : Int32 × Ob × Ob) => (0 ≤ y.1.toInt ∧ y.1.toInt ≤ 1) ∧ IvX6 y.2.1 ∧ Kp [2, 4] [0] [] o_me y.2.1 ∧ IvX0 12 400 y.2.2 ∧ Kp [7] [1] [] o_me_code y.2.2 ∧ ((gI y.2.1 8).toInt ≤ (gI y.2.1 2).toInt + 0)) := by
  have li0 : (-1 : Int32).toInt = (-1) := by decide
  have li1 : (0 : Int32).toInt = 0 := by decide
  have li2 : (1 : Int32).toInt = 1 := by decide
  have li3 : (1000 : Int32).toInt = 1000 := by decide
  have li4 : (2 : Int32).toInt = 2 := by decide
  have li5 : (5 : Int32).toInt = 5 := by decide
  have li6 : (50 : Int32).toInt = 50 := by decide
  have li7 : (7 : Int32).toInt = 7 := by decide
  unfold f_X6_readSinglePart
  have t1 := igX6_6 hI_me
  refine wp_if (fun c2 => ?_) (fun c2 => ?_)
  · have c2 := cv_eq (a := (gI o_me 6).toInt) (b := 2) rfl (by decide) c2
    refine wp_if (fun c3 => ?_) (fun c3 => ?_)
    · have c3 := cv_gt (a := (gI o_me 9).toInt) (b := 1000) rfl (by decide) c3
      unfold bk_X6_readSinglePart_22
      obtain ⟨w4, ew4⟩ : ∃ z : Int32, z = (0 : Int32) := ⟨_, rfl⟩
      have tw4 : w4.toInt = 0 := by rw [ew4]; decide
      rw [show bk_X6_readSinglePart_23 12 400  (0 : Int32) o_me o_me_code = bk_X6_readSinglePart_23 12 400  w4 o_me o_me_code from by rw [ew4]]
      unfold bk_X6_readSinglePart_23
      have t5 := igX6_4 hI_me
      refine wp_if (fun c6 => ?_) (fun c6 => ?_)
      · have c6 := cv_eq (a := (gI o_me 4).toInt) (b := 0) rfl (by decide) c6
        unfold bk_X6_readSinglePart_39
        refine wp_bd (s_X6_wordOf   o_me 8  hI_me (by decide) ) (fun z7 hz7 => ?_)
        refine wp_if (fun c8 => ?_) (fun c8 => ?_)
        · have c8 := cv_eq (a := w4.toInt) (b := 0) rfl (by decide) c8
          refine wp_if (fun c9 => ?_) (fun c9 => ?_)
          · have c9 := cv_eq (a := z7.toInt) (b := (-1)) rfl (by decide) c9
            unfold bk_X6_readSinglePart_61
            refine wp_bd (s_X6_stop   o_me  hI_me  ) (fun z10 hz10 => ?_)
            obtain ⟨hz10_0, hz10_1, hz10_2⟩ := hz10
            have hkpz10_me : Kp [2, 4] [0] [] o_me z10.2 := Kp.rf.trans (hz10_2.mono (by decide) (by decide) (by decide))
            have kz10_k11 : (gI z10.2 2).toInt = (gI o_me 2).toInt := congrArg Int32.toInt (hz10_2.1 2 (by decide))
            have kz10_k12 : (gI z10.2 4).toInt = (gI o_me 4).toInt := congrArg Int32.toInt (hz10_2.1 4 (by decide))
            have kz10_k13 : (gI z10.2 6).toInt = (gI o_me 6).toInt := congrArg Int32.toInt (hz10_2.1 6 (by decide))
            have kz10_k14 : (gI z10.2 8).toInt = (gI o_me 8).toInt := congrArg Int32.toInt (hz10_2.1 8 (by decide))
            refine wp_gd (zbo_of hz10_0.1 (Int.le_trans hz10_0.2 (by decide))) ?_
            refine wp_some ?_
            have t15 := igX6_8 hz10_1
            have t16 := igX6_2 hz10_1
            exact (show (0 ≤ z10.1.toInt ∧ z10.1.toInt ≤ 1) ∧ IvX6 z10.2 ∧ Kp [2, 4] [0] [] o_me z10.2 ∧ IvX0 12 400 o_me_code ∧ Kp [7] [1] [] o_me_code o_me_code ∧ ((gI z10.2 8).toInt ≤ (gI z10.2 2).toInt + 0) from ⟨⟨hz10_0.1, (Int.le_trans hz10_0.2 (by decide))⟩, hz10_1, hkpz10_me, hI_me_code, Kp.rf, (zd_e (c := 0) (zd_e (c := 0) (zq_0 kz10_k14) r0 (by decide)) (zq_0 kz10_k11.symm) (by decide))⟩)
          · have c9 := cv_ne (a := z7.toInt) (b := (-1)) rfl (by decide) c9
            unfold bk_X6_readSinglePart_52
            have t17 := igX6_5 hI_me
            refine wp_if (fun c18 => ?_) (fun c18 => ?_)
            · have c18 := cv_lt (a := (gI o_me 5).toInt) (b := 50) rfl (by decide) c18
              have t19 : ((gI o_me 5) + (1 : Int32)).toInt = (gI o_me 5).toInt + 1 := i32_add rfl (by decide) (zk_l t17.1 (by decide)) (zk_u (zlt_u (c := 49) c18 (by decide)) (by decide))
              refine wp_lt (fun o20 eo20 => ?_)
              have hIo20 : IvX6 o20 := by rw [eo20]; exact ipX6_5 hI_me ⟨(zl_e (zq_r (c := (-1)) t19 (by decide)) t17.1 (by decide)), (zu_e (Int.le_of_eq t19) (zlt_u (c := 49) c18 (by decide)) (by decide))⟩
              have ko20_k21 : (gI o20 2).toInt = (gI o_me 2).toInt := by rw [eo20]; rfl
              have ko20_k22 : (gI o20 4).toInt = (gI o_me 4).toInt := by rw [eo20]; rfl
              have ko20_k23 : (gI o20 6).toInt = (gI o_me 6).toInt := by rw [eo20]; rfl
              have ko20_k24 : (gI o20 8).toInt = (gI o_me 8).toInt := by rw [eo20]; rfl
              have ko20_k25 : (gI o20 9).toInt = (gI o_me 9).toInt := by rw [eo20]; rfl
              have ko20_v : (gI o20 5).toInt = ((gI o_me 5) + (1 : Int32)).toInt := by rw [eo20]; rfl
              have hkpo20 : Kp [2, 4] [0] [] o_me o20 := Kp.rf.trans (by rw [eo20]; exact Kp.sI (by decide))
              refine wp_if (fun c26 => ?_) (fun c26 => ?_)
              · have c26 := cv_eq (a := w4.toInt) (b := 0) rfl (by decide) c26
                have t28 := igX6_8 hIo20
                have t29 := igX6_2 hIo20
                refine wp_bd (s_X6_step   o20  hIo20  (zd_e (c := 0) (zd_e (c := 0) (zq_0 ko20_k24) r0 (by decide)) (zq_0 ko20_k21.symm) (by decide))) (fun z27 hz27 => ?_)
                obtain ⟨hz27_0, hz27_1, hz27_2⟩ := hz27
                have hkpz27_me : Kp [2, 4] [0] [] o_me z27 := hkpo20.trans (hz27_1.mono (by decide) (by decide) (by decide))
                have kz27_k30 : (gI z27 2).toInt = (gI o20 2).toInt := congrArg Int32.toInt (hz27_1.1 2 (by decide))
                have kz27_k31 : (gI z27 4).toInt = (gI o20 4).toInt := congrArg Int32.toInt (hz27_1.1 4 (by decide))
                have kz27_k32 : (gI z27 5).toInt = (gI o20 5).toInt := congrArg Int32.toInt (hz27_1.1 5 (by decide))
                refine wp_if (fun c33 => ?_) (fun c33 => ?_)
                · have c33 := cv_eq (a := (gI z27 4).toInt) (b := 0) rfl (by decide) c33
                  refine wp_if (fun c34 => ?_) (fun c34 => ?_)
                  · have c34 := cv_ge (a := z7.toInt) (b := 5) rfl (by decide) c34
                    have t35 := igX6_6 hz27_0
                    refine wp_if (fun c36 => ?_) (fun c36 => ?_)
                    · have c36 := cv_eq (a := (gI z27 6).toInt) (b := 2) rfl (by decide) c36
                      refine wp_if (fun c37 => ?_) (fun c37 => ?_)
                      · have c37 := cv_lt (a := (gI z27 9).toInt) (b := 7) rfl (by decide) c37
                        refine wp_bd (s_X3_wordOfPerson   z7 (gI z27 9)    ) (fun z38 hz38 => ?_)
                        refine wp_bd (s_X0_add  12 400 o_me_code (1 : Int32) z38  hI_me_code  ) (fun z39 hz39 => ?_)
                        obtain ⟨hz39_0, hz39_1, hz39_2⟩ := hz39
                        have hkpz39_me_code : Kp [7] [1] [] o_me_code z39.2 := Kp.rf.trans (hz39_2.mono (by decide) (by decide) (by decide))
                        have t41 := igX6_8 hz27_0
                        refine wp_bd (s_X6_step   z27  hz27_0  hz27_2) (fun z40 hz40 => ?_)
                        obtain ⟨hz40_0, hz40_1, hz40_2⟩ := hz40
                        have hkpz40_me : Kp [2, 4] [0] [] o_me z40 := hkpz27_me.trans (hz40_1.mono (by decide) (by decide) (by decide))
                        have kz40_k42 : (gI z40 2).toInt = (gI z27 2).toInt := congrArg Int32.toInt (hz40_1.1 2 (by decide))
                        have kz40_k43 : (gI z40 4).toInt = (gI z27 4).toInt := congrArg Int32.toInt (hz40_1.1 4 (by decide))
                        have kz40_k44 : (gI z40 5).toInt = (gI z27 5).toInt := congrArg Int32.toInt (hz40_1.1 5 (by decide))
                        refine wp_some ?_
                        have t45 := igX6_8 hz40_0
                        exact (show (0 ≤ (1 : Int32).toInt ∧ (1 : Int32).toInt ≤ 1) ∧ IvX6 z40 ∧ Kp [2, 4] [0] [] o_me z40 ∧ IvX0 12 400 z39.2 ∧ Kp [7] [1] [] o_me_code z39.2 ∧ ((gI z40 8).toInt ≤ (gI z40 2).toInt + 0) from ⟨⟨by decide, by decide⟩, hz40_0, hkpz40_me, hz39_1, hkpz39_me_code, hz40_2⟩)
                      · have c37 := cv_nlt (a := (gI z27 9).toInt) (b := 7) rfl (by decide) c37
                        unfold bk_X6_readSinglePart_144
                        refine wp_bd (s_X6_stop   z27  hz27_0  ) (fun z46 hz46 => ?_)
                        obtain ⟨hz46_0, hz46_1, hz46_2⟩ := hz46
                        have hkpz46_me : Kp [2, 4] [0] [] o_me z46.2 := hkpz27_me.trans (hz46_2.mono (by decide) (by decide) (by decide))
                        have kz46_k47 : (gI z46.2 2).toInt = (gI z27 2).toInt := congrArg Int32.toInt (hz46_2.1 2 (by decide))
                        have kz46_k48 : (gI z46.2 4).toInt = (gI z27 4).toInt := congrArg Int32.toInt (hz46_2.1 4 (by decide))
                        have kz46_k49 : (gI z46.2 5).toInt = (gI z27 5).toInt := congrArg Int32.toInt (hz46_2.1 5 (by decide))
                        have kz46_k50 : (gI z46.2 6).toInt = (gI z27 6).toInt := congrArg Int32.toInt (hz46_2.1 6 (by decide))
                        have kz46_k51 : (gI z46.2 8).toInt = (gI z27 8).toInt := congrArg Int32.toInt (hz46_2.1 8 (by decide))
                        refine wp_gd (zbo_of hz46_0.1 (Int.le_trans hz46_0.2 (by decide))) ?_
                        refine wp_some ?_
                        have t52 := igX6_8 hz46_1
                        exact (show (0 ≤ z46.1.toInt ∧ z46.1.toInt ≤ 1) ∧ IvX6 z46.2 ∧ Kp [2, 4] [0] [] o_me z46.2 ∧ IvX0 12 400 o_me_code ∧ Kp [7] [1] [] o_me_code o_me_code ∧ ((gI z46.2 8).toInt ≤ (gI z46.2 2).toInt + 0) from ⟨⟨hz46_0.1, (Int.le_trans hz46_0.2 (by decide))⟩, hz46_1, hkpz46_me, hI_me_code, Kp.rf, (zd_e (c := 0) (zd_e (c := 0) (zq_0 kz46_k51) hz27_2 (by decide)) (zq_0 kz46_k47.symm) (by decide))⟩)
                    · have c36 := cv_ne (a := (gI z27 6).toInt) (b := 2) rfl (by decide) c36
                      unfold bk_X6_readSinglePart_144
                      refine wp_bd (s_X6_stop   z27  hz27_0  ) (fun z53 hz53 => ?_)
                      obtain ⟨hz53_0, hz53_1, hz53_2⟩ := hz53
                      have hkpz53_me : Kp [2, 4] [0] [] o_me z53.2 := hkpz27_me.trans (hz53_2.mono (by decide) (by decide) (by decide))
                      have kz53_k54 : (gI z53.2 2).toInt = (gI z27 2).toInt := congrArg Int32.toInt (hz53_2.1 2 (by decide))
                      have kz53_k55 : (gI z53.2 4).toInt = (gI z27 4).toInt := congrArg Int32.toInt (hz53_2.1 4 (by decide))
                      have kz53_k56 : (gI z53.2 5).toInt = (gI z27 5).toInt := congrArg Int32.toInt (hz53_2.1 5 (by decide))
                      have kz53_k57 : (gI z53.2 6).toInt = (gI z27 6).toInt := congrArg Int32.toInt (hz53_2.1 6 (by decide))
                      have kz53_k58 : (gI z53.2 8).toInt = (gI z27 8).toInt := congrArg Int32.toInt (hz53_2.1 8 (by decide))
                      refine wp_gd (zbo_of hz53_0.1 (Int.le_trans hz53_0.2 (by decide))) ?_
                      refine wp_some ?_
                      have t59 := igX6_8 hz53_1
                      exact (show (0 ≤ z53.1.toInt ∧ z53.1.toInt ≤ 1) ∧ IvX6 z53.2 ∧ Kp [2, 4] [0] [] o_me z53.2 ∧ IvX0 12 400 o_me_code ∧ Kp [7] [1] [] o_me_code o_me_code ∧ ((gI z53.2 8).toInt ≤ (gI z53.2 2).toInt + 0) from ⟨⟨hz53_0.1, (Int.le_trans hz53_0.2 (by decide))⟩, hz53_1, hkpz53_me, hI_me_code, Kp.rf, (zd_e (c := 0) (zd_e (c := 0) (zq_0 kz53_k58) hz27_2 (by decide)) (zq_0 kz53_k54.symm) (by decide))⟩)
                  · have c34 := cv_nge (a := z7.toInt) (b := 5) rfl (by decide) c34
                    unfold bk_X6_readSinglePart_115
                    refine wp_bd (s_X0_add  12 400 o_me_code (1 : Int32) z7  hI_me_code  ) (fun z60 hz60 => ?_)
                    obtain ⟨hz60_0, hz60_1, hz60_2⟩ := hz60
                    have hkpz60_me_code : Kp [7] [1] [] o_me_code z60.2 := Kp.rf.trans (hz60_2.mono (by decide) (by decide) (by decide))
                    refine wp_some ?_
                    have t61 := igX6_8 hz27_0
                    exact (show (0 ≤ (1 : Int32).toInt ∧ (1 : Int32).toInt ≤ 1) ∧ IvX6 z27 ∧ Kp [2, 4] [0] [] o_me z27 ∧ IvX0 12 400 z60.2 ∧ Kp [7] [1] [] o_me_code z60.2 ∧ ((gI z27 8).toInt ≤ (gI z27 2).toInt + 0) from ⟨⟨by decide, by decide⟩, hz27_0, hkpz27_me, hz60_1, hkpz60_me_code, hz27_2⟩)
                · have c33z := c33
                  have c33 := cv_ne (a := (gI z27 4).toInt) (b := 0) rfl (by decide) c33
                  exact absurd (Int.le_antisymm (zu_e (zd_e (c := 0) (zq_0 kz27_k31) (zq_0 ko20_k22) (by decide)) (Int.le_of_eq c6) (by decide)) (zl_e (zd_e (c := 0) (zq_0 ko20_k22.symm) (zq_0 kz27_k31.symm) (by decide)) t5.1 (by decide))) c33
              · have c26z := c26
                have c26 := cv_ne (a := w4.toInt) (b := 0) rfl (by decide) c26
                exact absurd (Int.le_antisymm (Int.le_of_eq tw4) (Int.le_of_eq tw4.symm)) c26
            · have c18 := cv_nlt (a := (gI o_me 5).toInt) (b := 50) rfl (by decide) c18
              unfold bk_X6_readSinglePart_61
              refine wp_bd (s_X6_stop   o_me  hI_me  ) (fun z62 hz62 => ?_)
              obtain ⟨hz62_0, hz62_1, hz62_2⟩ := hz62
              have hkpz62_me : Kp [2, 4] [0] [] o_me z62.2 := Kp.rf.trans (hz62_2.mono (by decide) (by decide) (by decide))
              have kz62_k63 : (gI z62.2 2).toInt = (gI o_me 2).toInt := congrArg Int32.toInt (hz62_2.1 2 (by decide))
              have kz62_k64 : (gI z62.2 4).toInt = (gI o_me 4).toInt := congrArg Int32.toInt (hz62_2.1 4 (by decide))
              have kz62_k65 : (gI z62.2 5).toInt = (gI o_me 5).toInt := congrArg Int32.toInt (hz62_2.1 5 (by decide))
              have kz62_k66 : (gI z62.2 6).toInt = (gI o_me 6).toInt := congrArg Int32.toInt (hz62_2.1 6 (by decide))
              have kz62_k67 : (gI z62.2 8).toInt = (gI o_me 8).toInt := congrArg Int32.toInt (hz62_2.1 8 (by decide))
              refine wp_gd (zbo_of hz62_0.1 (Int.le_trans hz62_0.2 (by decide))) ?_
              refine wp_some ?_
              have t68 := igX6_8 hz62_1
              have t69 := igX6_2 hz62_1
              exact (show (0 ≤ z62.1.toInt ∧ z62.1.toInt ≤ 1) ∧ IvX6 z62.2 ∧ Kp [2, 4] [0] [] o_me z62.2 ∧ IvX0 12 400 o_me_code ∧ Kp [7] [1] [] o_me_code o_me_code ∧ ((gI z62.2 8).toInt ≤ (gI z62.2 2).toInt + 0) from ⟨⟨hz62_0.1, (Int.le_trans hz62_0.2 (by decide))⟩, hz62_1, hkpz62_me, hI_me_code, Kp.rf, (zd_e (c := 0) (zd_e (c := 0) (zq_0 kz62_k67) r0 (by decide)) (zq_0 kz62_k63.symm) (by decide))⟩)
        · have c8z := c8
          have c8 := cv_ne (a := w4.toInt) (b := 0) rfl (by decide) c8
          exact absurd (Int.le_antisymm (Int.le_of_eq tw4) (Int.le_of_eq tw4.symm)) c8
      · have c6z := c6
        have c6 := cv_ne (a := (gI o_me 4).toInt) (b := 0) rfl (by decide) c6
        unfold bk_X6_readSinglePart_39
        refine wp_bd (s_X6_wordOf   o_me 7  hI_me (by decide) ) (fun z70 hz70 => ?_)
        refine wp_if (fun c71 => ?_) (fun c71 => ?_)
        · have c71 := cv_eq (a := w4.toInt) (b := 0) rfl (by decide) c71
          refine wp_if (fun c72 => ?_) (fun c72 => ?_)
          · have c72 := cv_eq (a := z70.toInt) (b := (-1)) rfl (by decide) c72
            unfold bk_X6_readSinglePart_61
            refine wp_bd (s_X6_stop   o_me  hI_me  ) (fun z73 hz73 => ?_)
            obtain ⟨hz73_0, hz73_1, hz73_2⟩ := hz73
            have hkpz73_me : Kp [2, 4] [0] [] o_me z73.2 := Kp.rf.trans (hz73_2.mono (by decide) (by decide) (by decide))
            have kz73_k74 : (gI z73.2 2).toInt = (gI o_me 2).toInt := congrArg Int32.toInt (hz73_2.1 2 (by decide))
            have kz73_k75 : (gI z73.2 4).toInt = (gI o_me 4).toInt := congrArg Int32.toInt (hz73_2.1 4 (by decide))
            have kz73_k76 : (gI z73.2 6).toInt = (gI o_me 6).toInt := congrArg Int32.toInt (hz73_2.1 6 (by decide))
            have kz73_k77 : (gI z73.2 8).toInt = (gI o_me 8).toInt := congrArg Int32.toInt (hz73_2.1 8 (by decide))
            refine wp_gd (zbo_of hz73_0.1 (Int.le_trans hz73_0.2 (by decide))) ?_
            refine wp_some ?_
            have t78 := igX6_8 hz73_1
            have t79 := igX6_2 hz73_1
            exact (show (0 ≤ z73.1.toInt ∧ z73.1.toInt ≤ 1) ∧ IvX6 z73.2 ∧ Kp [2, 4] [0] [] o_me z73.2 ∧ IvX0 12 400 o_me_code ∧ Kp [7] [1] [] o_me_code o_me_code ∧ ((gI z73.2 8).toInt ≤ (gI z73.2 2).toInt + 0) from ⟨⟨hz73_0.1, (Int.le_trans hz73_0.2 (by decide))⟩, hz73_1, hkpz73_me, hI_me_code, Kp.rf, (zd_e (c := 0) (zd_e (c := 0) (zq_0 kz73_k77) r0 (by decide)) (zq_0 kz73_k74.symm) (by decide))⟩)
          · have c72 := cv_ne (a := z70.toInt) (b := (-1)) rfl (by decide) c72
            unfold bk_X6_readSinglePart_52
            have t80 := igX6_5 hI_me
            refine wp_if (fun c81 => ?_) (fun c81 => ?_)
            · have c81 := cv_lt (a := (gI o_me 5).toInt) (b := 50) rfl (by decide) c81
              have t82 : ((gI o_me 5) + (1 : Int32)).toInt = (gI o_me 5).toInt + 1 := i32_add rfl (by decide) (zk_l t80.1 (by decide)) (zk_u (zlt_u (c := 49) c81 (by decide)) (by decide))
              refine wp_lt (fun o83 eo83 => ?_)
              have hIo83 : IvX6 o83 := by rw [eo83]; exact ipX6_5 hI_me ⟨(zl_e (zq_r (c := (-1)) t82 (by decide)) t80.1 (by decide)), (zu_e (Int.le_of_eq t82) (zlt_u (c := 49) c81 (by decide)) (by decide))⟩
              have ko83_k84 : (gI o83 2).toInt = (gI o_me 2).toInt := by rw [eo83]; rfl
              have ko83_k85 : (gI o83 4).toInt = (gI o_me 4).toInt := by rw [eo83]; rfl
              have ko83_k86 : (gI o83 6).toInt = (gI o_me 6).toInt := by rw [eo83]; rfl
              have ko83_k87 : (gI o83 8).toInt = (gI o_me 8).toInt := by rw [eo83]; rfl
              have ko83_k88 : (gI o83 9).toInt = (gI o_me 9).toInt := by rw [eo83]; rfl
              have ko83_v : (gI o83 5).toInt = ((gI o_me 5) + (1 : Int32)).toInt := by rw [eo83]; rfl
              have hkpo83 : Kp [2, 4] [0] [] o_me o83 := Kp.rf.trans (by rw [eo83]; exact Kp.sI (by decide))
              refine wp_if (fun c89 => ?_) (fun c89 => ?_)
              · have c89 := cv_eq (a := w4.toInt) (b := 0) rfl (by decide) c89
                have t91 := igX6_8 hIo83
                have t92 := igX6_2 hIo83
                refine wp_bd (s_X6_step   o83  hIo83  (zd_e (c := 0) (zd_e (c := 0) (zq_0 ko83_k87) r0 (by decide)) (zq_0 ko83_k84.symm) (by decide))) (fun z90 hz90 => ?_)
                obtain ⟨hz90_0, hz90_1, hz90_2⟩ := hz90
                have hkpz90_me : Kp [2, 4] [0] [] o_me z90 := hkpo83.trans (hz90_1.mono (by decide) (by decide) (by decide))
                have kz90_k93 : (gI z90 2).toInt = (gI o83 2).toInt := congrArg Int32.toInt (hz90_1.1 2 (by decide))
                have kz90_k94 : (gI z90 4).toInt = (gI o83 4).toInt := congrArg Int32.toInt (hz90_1.1 4 (by decide))
                have kz90_k95 : (gI z90 5).toInt = (gI o83 5).toInt := congrArg Int32.toInt (hz90_1.1 5 (by decide))
                refine wp_if (fun c96 => ?_) (fun c96 => ?_)
                · have c96 := cv_eq (a := (gI z90 4).toInt) (b := 0) rfl (by decide) c96
                  exfalso; omega
                · have c96z := c96
                  have c96 := cv_ne (a := (gI z90 4).toInt) (b := 0) rfl (by decide) c96
                  unfold bk_X6_readSinglePart_115
                  refine wp_bd (s_X0_add  12 400 o_me_code (1 : Int32) z70  hI_me_code  ) (fun z97 hz97 => ?_)
                  obtain ⟨hz97_0, hz97_1, hz97_2⟩ := hz97
                  have hkpz97_me_code : Kp [7] [1] [] o_me_code z97.2 := Kp.rf.trans (hz97_2.mono (by decide) (by decide) (by decide))
                  refine wp_some ?_
                  have t98 := igX6_8 hz90_0
                  exact (show (0 ≤ (1 : Int32).toInt ∧ (1 : Int32).toInt ≤ 1) ∧ IvX6 z90 ∧ Kp [2, 4] [0] [] o_me z90 ∧ IvX0 12 400 z97.2 ∧ Kp [7] [1] [] o_me_code z97.2 ∧ ((gI z90 8).toInt ≤ (gI z90 2).toInt + 0) from ⟨⟨by decide, by decide⟩, hz90_0, hkpz90_me, hz97_1, hkpz97_me_code, hz90_2⟩)
              · have c89z := c89
                have c89 := cv_ne (a := w4.toInt) (b := 0) rfl (by decide) c89
                exact absurd (Int.le_antisymm (Int.le_of_eq tw4) (Int.le_of_eq tw4.symm)) c89
            · have c81 := cv_nlt (a := (gI o_me 5).toInt) (b := 50) rfl (by decide) c81
              unfold bk_X6_readSinglePart_61
              refine wp_bd (s_X6_stop   o_me  hI_me  ) (fun z99 hz99 => ?_)
              obtain ⟨hz99_0, hz99_1, hz99_2⟩ := hz99
              have hkpz99_me : Kp [2, 4] [0] [] o_me z99.2 := Kp.rf.trans (hz99_2.mono (by decide) (by decide) (by decide))
              have kz99_k100 : (gI z99.2 2).toInt = (gI o_me 2).toInt := congrArg Int32.toInt (hz99_2.1 2 (by decide))
              have kz99_k101 : (gI z99.2 4).toInt = (gI o_me 4).toInt := congrArg Int32.toInt (hz99_2.1 4 (by decide))
              have kz99_k102 : (gI z99.2 5).toInt = (gI o_me 5).toInt := congrArg Int32.toInt (hz99_2.1 5 (by decide))
              have kz99_k103 : (gI z99.2 6).toInt = (gI o_me 6).toInt := congrArg Int32.toInt (hz99_2.1 6 (by decide))
              have kz99_k104 : (gI z99.2 8).toInt = (gI o_me 8).toInt := congrArg Int32.toInt (hz99_2.1 8 (by decide))
              refine wp_gd (zbo_of hz99_0.1 (Int.le_trans hz99_0.2 (by decide))) ?_
              refine wp_some ?_
              have t105 := igX6_8 hz99_1
              have t106 := igX6_2 hz99_1
              exact (show (0 ≤ z99.1.toInt ∧ z99.1.toInt ≤ 1) ∧ IvX6 z99.2 ∧ Kp [2, 4] [0] [] o_me z99.2 ∧ IvX0 12 400 o_me_code ∧ Kp [7] [1] [] o_me_code o_me_code ∧ ((gI z99.2 8).toInt ≤ (gI z99.2 2).toInt + 0) from ⟨⟨hz99_0.1, (Int.le_trans hz99_0.2 (by decide))⟩, hz99_1, hkpz99_me, hI_me_code, Kp.rf, (zd_e (c := 0) (zd_e (c := 0) (zq_0 kz99_k104) r0 (by decide)) (zq_0 kz99_k100.symm) (by decide))⟩)
        · have c71z := c71
          have c71 := cv_ne (a := w4.toInt) (b := 0) rfl (by decide) c71
          exact absurd (Int.le_antisymm (Int.le_of_eq tw4) (Int.le_of_eq tw4.symm)) c71
    · have c3 := cv_ngt (a := (gI o_me 9).toInt) (b := 1000) rfl (by decide) c3
      obtain ⟨w107, ew107⟩ : ∃ z : Int32, z = (1 : Int32) := ⟨_, rfl⟩
      have tw107 : w107.toInt = 1 := by rw [ew107]; decide
      rw [show bk_X6_readSinglePart_23 12 400  (1 : Int32) o_me o_me_code = bk_X6_readSinglePart_23 12 400  w107 o_me o_me_code from by rw [ew107]]
      unfold bk_X6_readSinglePart_23
      have t108 := igX6_4 hI_me
      refine wp_if (fun c109 => ?_) (fun c109 => ?_)
      · have c109 := cv_eq (a := (gI o_me 4).toInt) (b := 0) rfl (by decide) c109
        unfold bk_X6_readSinglePart_39
        refine wp_bd (s_X6_wordOf   o_me 8  hI_me (by decide) ) (fun z110 hz110 => ?_)
        refine wp_if (fun c111 => ?_) (fun c111 => ?_)
        · have c111 := cv_eq (a := w107.toInt) (b := 0) rfl (by decide) c111
          exact absurd c111 (zne_r (k := 0) (l := 1) (by decide) (Int.le_of_eq tw107.symm) (by decide))
        · have c111z := c111
          have c111 := cv_ne (a := w107.toInt) (b := 0) rfl (by decide) c111
          unfold bk_X6_readSinglePart_52
          have t112 := igX6_5 hI_me
          refine wp_if (fun c113 => ?_) (fun c113 => ?_)
          · have c113 := cv_lt (a := (gI o_me 5).toInt) (b := 50) rfl (by decide) c113
            have t114 : ((gI o_me 5) + (1 : Int32)).toInt = (gI o_me 5).toInt + 1 := i32_add rfl (by decide) (zk_l t112.1 (by decide)) (zk_u (zlt_u (c := 49) c113 (by decide)) (by decide))
            refine wp_lt (fun o115 eo115 => ?_)
            have hIo115 : IvX6 o115 := by rw [eo115]; exact ipX6_5 hI_me ⟨(zl_e (zq_r (c := (-1)) t114 (by decide)) t112.1 (by decide)), (zu_e (Int.le_of_eq t114) (zlt_u (c := 49) c113 (by decide)) (by decide))⟩
            have ko115_k116 : (gI o115 2).toInt = (gI o_me 2).toInt := by rw [eo115]; rfl
            have ko115_k117 : (gI o115 4).toInt = (gI o_me 4).toInt := by rw [eo115]; rfl
            have ko115_k118 : (gI o115 6).toInt = (gI o_me 6).toInt := by rw [eo115]; rfl
            have ko115_k119 : (gI o115 8).toInt = (gI o_me 8).toInt := by rw [eo115]; rfl
            have ko115_k120 : (gI o115 9).toInt = (gI o_me 9).toInt := by rw [eo115]; rfl
            have ko115_v : (gI o115 5).toInt = ((gI o_me 5) + (1 : Int32)).toInt := by rw [eo115]; rfl
            have hkpo115 : Kp [2, 4] [0] [] o_me o115 := Kp.rf.trans (by rw [eo115]; exact Kp.sI (by decide))
            refine wp_if (fun c121 => ?_) (fun c121 => ?_)
            · have c121 := cv_eq (a := w107.toInt) (b := 0) rfl (by decide) c121
              exact absurd c121 c111
            · have c121z := c121
              have c121 := cv_ne (a := w107.toInt) (b := 0) rfl (by decide) c121
              refine wp_bd (s_X0_add  12 400 o_me_code (0 : Int32) (gI o115 9)  hI_me_code  ) (fun z122 hz122 => ?_)
              obtain ⟨hz122_0, hz122_1, hz122_2⟩ := hz122
              have hkpz122_me_code : Kp [7] [1] [] o_me_code z122.2 := Kp.rf.trans (hz122_2.mono (by decide) (by decide) (by decide))
              have t124 := igX6_8 hIo115
              have t125 := igX6_2 hIo115
              refine wp_bd (s_X6_step   o115  hIo115  (zd_e (c := 0) (zd_e (c := 0) (zq_0 ko115_k119) r0 (by decide)) (zq_0 ko115_k116.symm) (by decide))) (fun z123 hz123 => ?_)
              obtain ⟨hz123_0, hz123_1, hz123_2⟩ := hz123
              have hkpz123_me : Kp [2, 4] [0] [] o_me z123 := hkpo115.trans (hz123_1.mono (by decide) (by decide) (by decide))
              have kz123_k126 : (gI z123 2).toInt = (gI o115 2).toInt := congrArg Int32.toInt (hz123_1.1 2 (by decide))
              have kz123_k127 : (gI z123 4).toInt = (gI o115 4).toInt := congrArg Int32.toInt (hz123_1.1 4 (by decide))
              have kz123_k128 : (gI z123 5).toInt = (gI o115 5).toInt := congrArg Int32.toInt (hz123_1.1 5 (by decide))
              refine wp_some ?_
              have t129 := igX6_8 hz123_0
              exact (show (0 ≤ (1 : Int32).toInt ∧ (1 : Int32).toInt ≤ 1) ∧ IvX6 z123 ∧ Kp [2, 4] [0] [] o_me z123 ∧ IvX0 12 400 z122.2 ∧ Kp [7] [1] [] o_me_code z122.2 ∧ ((gI z123 8).toInt ≤ (gI z123 2).toInt + 0) from ⟨⟨by decide, by decide⟩, hz123_0, hkpz123_me, hz122_1, hkpz122_me_code, hz123_2⟩)
          · have c113 := cv_nlt (a := (gI o_me 5).toInt) (b := 50) rfl (by decide) c113
            unfold bk_X6_readSinglePart_61
            refine wp_bd (s_X6_stop   o_me  hI_me  ) (fun z130 hz130 => ?_)
            obtain ⟨hz130_0, hz130_1, hz130_2⟩ := hz130
            have hkpz130_me : Kp [2, 4] [0] [] o_me z130.2 := Kp.rf.trans (hz130_2.mono (by decide) (by decide) (by decide))
            have kz130_k131 : (gI z130.2 2).toInt = (gI o_me 2).toInt := congrArg Int32.toInt (hz130_2.1 2 (by decide))
            have kz130_k132 : (gI z130.2 4).toInt = (gI o_me 4).toInt := congrArg Int32.toInt (hz130_2.1 4 (by decide))
            have kz130_k133 : (gI z130.2 5).toInt = (gI o_me 5).toInt := congrArg Int32.toInt (hz130_2.1 5 (by decide))
            have kz130_k134 : (gI z130.2 6).toInt = (gI o_me 6).toInt := congrArg Int32.toInt (hz130_2.1 6 (by decide))
            have kz130_k135 : (gI z130.2 8).toInt = (gI o_me 8).toInt := congrArg Int32.toInt (hz130_2.1 8 (by decide))
            refine wp_gd (zbo_of hz130_0.1 (Int.le_trans hz130_0.2 (by decide))) ?_
            refine wp_some ?_
            have t136 := igX6_8 hz130_1
            have t137 := igX6_2 hz130_1
            exact (show (0 ≤ z130.1.toInt ∧ z130.1.toInt ≤ 1) ∧ IvX6 z130.2 ∧ Kp [2, 4] [0] [] o_me z130.2 ∧ IvX0 12 400 o_me_code ∧ Kp [7] [1] [] o_me_code o_me_code ∧ ((gI z130.2 8).toInt ≤ (gI z130.2 2).toInt + 0) from ⟨⟨hz130_0.1, (Int.le_trans hz130_0.2 (by decide))⟩, hz130_1, hkpz130_me, hI_me_code, Kp.rf, (zd_e (c := 0) (zd_e (c := 0) (zq_0 kz130_k135) r0 (by decide)) (zq_0 kz130_k131.symm) (by decide))⟩)
      · have c109z := c109
        have c109 := cv_ne (a := (gI o_me 4).toInt) (b := 0) rfl (by decide) c109
        unfold bk_X6_readSinglePart_39
        refine wp_bd (s_X6_wordOf   o_me 7  hI_me (by decide) ) (fun z138 hz138 => ?_)
        refine wp_if (fun c139 => ?_) (fun c139 => ?_)
        · have c139 := cv_eq (a := w107.toInt) (b := 0) rfl (by decide) c139
          exact absurd c139 (zne_r (k := 0) (l := 1) (by decide) (Int.le_of_eq tw107.symm) (by decide))
        · have c139z := c139
          have c139 := cv_ne (a := w107.toInt) (b := 0) rfl (by decide) c139
          unfold bk_X6_readSinglePart_52
          have t140 := igX6_5 hI_me
          refine wp_if (fun c141 => ?_) (fun c141 => ?_)
          · have c141 := cv_lt (a := (gI o_me 5).toInt) (b := 50) rfl (by decide) c141
            have t142 : ((gI o_me 5) + (1 : Int32)).toInt = (gI o_me 5).toInt + 1 := i32_add rfl (by decide) (zk_l t140.1 (by decide)) (zk_u (zlt_u (c := 49) c141 (by decide)) (by decide))
            refine wp_lt (fun o143 eo143 => ?_)
            have hIo143 : IvX6 o143 := by rw [eo143]; exact ipX6_5 hI_me ⟨(zl_e (zq_r (c := (-1)) t142 (by decide)) t140.1 (by decide)), (zu_e (Int.le_of_eq t142) (zlt_u (c := 49) c141 (by decide)) (by decide))⟩
            have ko143_k144 : (gI o143 2).toInt = (gI o_me 2).toInt := by rw [eo143]; rfl
            have ko143_k145 : (gI o143 4).toInt = (gI o_me 4).toInt := by rw [eo143]; rfl
            have ko143_k146 : (gI o143 6).toInt = (gI o_me 6).toInt := by rw [eo143]; rfl
            have ko143_k147 : (gI o143 8).toInt = (gI o_me 8).toInt := by rw [eo143]; rfl
            have ko143_k148 : (gI o143 9).toInt = (gI o_me 9).toInt := by rw [eo143]; rfl
            have ko143_v : (gI o143 5).toInt = ((gI o_me 5) + (1 : Int32)).toInt := by rw [eo143]; rfl
            have hkpo143 : Kp [2, 4] [0] [] o_me o143 := Kp.rf.trans (by rw [eo143]; exact Kp.sI (by decide))
            refine wp_if (fun c149 => ?_) (fun c149 => ?_)
            · have c149 := cv_eq (a := w107.toInt) (b := 0) rfl (by decide) c149
              exact absurd c149 c139
            · have c149z := c149
              have c149 := cv_ne (a := w107.toInt) (b := 0) rfl (by decide) c149
              refine wp_bd (s_X0_add  12 400 o_me_code (0 : Int32) (gI o143 9)  hI_me_code  ) (fun z150 hz150 => ?_)
              obtain ⟨hz150_0, hz150_1, hz150_2⟩ := hz150
              have hkpz150_me_code : Kp [7] [1] [] o_me_code z150.2 := Kp.rf.trans (hz150_2.mono (by decide) (by decide) (by decide))
              have t152 := igX6_8 hIo143
              have t153 := igX6_2 hIo143
              refine wp_bd (s_X6_step   o143  hIo143  (zd_e (c := 0) (zd_e (c := 0) (zq_0 ko143_k147) r0 (by decide)) (zq_0 ko143_k144.symm) (by decide))) (fun z151 hz151 => ?_)
              obtain ⟨hz151_0, hz151_1, hz151_2⟩ := hz151
              have hkpz151_me : Kp [2, 4] [0] [] o_me z151 := hkpo143.trans (hz151_1.mono (by decide) (by decide) (by decide))
              have kz151_k154 : (gI z151 2).toInt = (gI o143 2).toInt := congrArg Int32.toInt (hz151_1.1 2 (by decide))
              have kz151_k155 : (gI z151 4).toInt = (gI o143 4).toInt := congrArg Int32.toInt (hz151_1.1 4 (by decide))
              have kz151_k156 : (gI z151 5).toInt = (gI o143 5).toInt := congrArg Int32.toInt (hz151_1.1 5 (by decide))
              refine wp_some ?_
              have t157 := igX6_8 hz151_0
              exact (show (0 ≤ (1 : Int32).toInt ∧ (1 : Int32).toInt ≤ 1) ∧ IvX6 z151 ∧ Kp [2, 4] [0] [] o_me z151 ∧ IvX0 12 400 z150.2 ∧ Kp [7] [1] [] o_me_code z150.2 ∧ ((gI z151 8).toInt ≤ (gI z151 2).toInt + 0) from ⟨⟨by decide, by decide⟩, hz151_0, hkpz151_me, hz150_1, hkpz150_me_code, hz151_2⟩)
          · have c141 := cv_nlt (a := (gI o_me 5).toInt) (b := 50) rfl (by decide) c141
            unfold bk_X6_readSinglePart_61
            refine wp_bd (s_X6_stop   o_me  hI_me  ) (fun z158 hz158 => ?_)
            obtain ⟨hz158_0, hz158_1, hz158_2⟩ := hz158
            have hkpz158_me : Kp [2, 4] [0] [] o_me z158.2 := Kp.rf.trans (hz158_2.mono (by decide) (by decide) (by decide))
            have kz158_k159 : (gI z158.2 2).toInt = (gI o_me 2).toInt := congrArg Int32.toInt (hz158_2.1 2 (by decide))
            have kz158_k160 : (gI z158.2 4).toInt = (gI o_me 4).toInt := congrArg Int32.toInt (hz158_2.1 4 (by decide))
            have kz158_k161 : (gI z158.2 5).toInt = (gI o_me 5).toInt := congrArg Int32.toInt (hz158_2.1 5 (by decide))
            have kz158_k162 : (gI z158.2 6).toInt = (gI o_me 6).toInt := congrArg Int32.toInt (hz158_2.1 6 (by decide))
            have kz158_k163 : (gI z158.2 8).toInt = (gI o_me 8).toInt := congrArg Int32.toInt (hz158_2.1 8 (by decide))
            refine wp_gd (zbo_of hz158_0.1 (Int.le_trans hz158_0.2 (by decide))) ?_
            refine wp_some ?_
            have t164 := igX6_8 hz158_1
            have t165 := igX6_2 hz158_1
            exact (show (0 ≤ z158.1.toInt ∧ z158.1.toInt ≤ 1) ∧ IvX6 z158.2 ∧ Kp [2, 4] [0] [] o_me z158.2 ∧ IvX0 12 400 o_me_code ∧ Kp [7] [1] [] o_me_code o_me_code ∧ ((gI z158.2 8).toInt ≤ (gI z158.2 2).toInt + 0) from ⟨⟨hz158_0.1, (Int.le_trans hz158_0.2 (by decide))⟩, hz158_1, hkpz158_me, hI_me_code, Kp.rf, (zd_e (c := 0) (zd_e (c := 0) (zq_0 kz158_k163) r0 (by decide)) (zq_0 kz158_k159.symm) (by decide))⟩)
  · have c2 := cv_ne (a := (gI o_me 6).toInt) (b := 2) rfl (by decide) c2
    unfold bk_X6_readSinglePart_22
    obtain ⟨w166, ew166⟩ : ∃ z : Int32, z = (0 : Int32) := ⟨_, rfl⟩
    have tw166 : w166.toInt = 0 := by rw [ew166]; decide
    rw [show bk_X6_readSinglePart_23 12 400  (0 : Int32) o_me o_me_code = bk_X6_readSinglePart_23 12 400  w166 o_me o_me_code from by rw [ew166]]
    unfold bk_X6_readSinglePart_23
    have t167 := igX6_4 hI_me
    refine wp_if (fun c168 => ?_) (fun c168 => ?_)
    · have c168 := cv_eq (a := (gI o_me 4).toInt) (b := 0) rfl (by decide) c168
      unfold bk_X6_readSinglePart_39
      refine wp_bd (s_X6_wordOf   o_me 8  hI_me (by decide) ) (fun z169 hz169 => ?_)
      refine wp_if (fun c170 => ?_) (fun c170 => ?_)
      · have c170 := cv_eq (a := w166.toInt) (b := 0) rfl (by decide) c170
        refine wp_if (fun c171 => ?_) (fun c171 => ?_)
        · have c171 := cv_eq (a := z169.toInt) (b := (-1)) rfl (by decide) c171
          unfold bk_X6_readSinglePart_61
          refine wp_bd (s_X6_stop   o_me  hI_me  ) (fun z172 hz172 => ?_)
          obtain ⟨hz172_0, hz172_1, hz172_2⟩ := hz172
          have hkpz172_me : Kp [2, 4] [0] [] o_me z172.2 := Kp.rf.trans (hz172_2.mono (by decide) (by decide) (by decide))
          have kz172_k173 : (gI z172.2 2).toInt = (gI o_me 2).toInt := congrArg Int32.toInt (hz172_2.1 2 (by decide))
          have kz172_k174 : (gI z172.2 4).toInt = (gI o_me 4).toInt := congrArg Int32.toInt (hz172_2.1 4 (by decide))
          have kz172_k175 : (gI z172.2 6).toInt = (gI o_me 6).toInt := congrArg Int32.toInt (hz172_2.1 6 (by decide))
          have kz172_k176 : (gI z172.2 8).toInt = (gI o_me 8).toInt := congrArg Int32.toInt (hz172_2.1 8 (by decide))
          refine wp_gd (zbo_of hz172_0.1 (Int.le_trans hz172_0.2 (by decide))) ?_
          refine wp_some ?_
          have t177 := igX6_8 hz172_1
          have t178 := igX6_2 hz172_1
          exact (show (0 ≤ z172.1.toInt ∧ z172.1.toInt ≤ 1) ∧ IvX6 z172.2 ∧ Kp [2, 4] [0] [] o_me z172.2 ∧ IvX0 12 400 o_me_code ∧ Kp [7] [1] [] o_me_code o_me_code ∧ ((gI z172.2 8).toInt ≤ (gI z172.2 2).toInt + 0) from ⟨⟨hz172_0.1, (Int.le_trans hz172_0.2 (by decide))⟩, hz172_1, hkpz172_me, hI_me_code, Kp.rf, (zd_e (c := 0) (zd_e (c := 0) (zq_0 kz172_k176) r0 (by decide)) (zq_0 kz172_k173.symm) (by decide))⟩)
        · have c171 := cv_ne (a := z169.toInt) (b := (-1)) rfl (by decide) c171
          unfold bk_X6_readSinglePart_52
          have t179 := igX6_5 hI_me
          refine wp_if (fun c180 => ?_) (fun c180 => ?_)
          · have c180 := cv_lt (a := (gI o_me 5).toInt) (b := 50) rfl (by decide) c180
            have t181 : ((gI o_me 5) + (1 : Int32)).toInt = (gI o_me 5).toInt + 1 := i32_add rfl (by decide) (zk_l t179.1 (by decide)) (zk_u (zlt_u (c := 49) c180 (by decide)) (by decide))
            refine wp_lt (fun o182 eo182 => ?_)
            have hIo182 : IvX6 o182 := by rw [eo182]; exact ipX6_5 hI_me ⟨(zl_e (zq_r (c := (-1)) t181 (by decide)) t179.1 (by decide)), (zu_e (Int.le_of_eq t181) (zlt_u (c := 49) c180 (by decide)) (by decide))⟩
            have ko182_k183 : (gI o182 2).toInt = (gI o_me 2).toInt := by rw [eo182]; rfl
            have ko182_k184 : (gI o182 4).toInt = (gI o_me 4).toInt := by rw [eo182]; rfl
            have ko182_k185 : (gI o182 6).toInt = (gI o_me 6).toInt := by rw [eo182]; rfl
            have ko182_k186 : (gI o182 8).toInt = (gI o_me 8).toInt := by rw [eo182]; rfl
            have ko182_v : (gI o182 5).toInt = ((gI o_me 5) + (1 : Int32)).toInt := by rw [eo182]; rfl
            have hkpo182 : Kp [2, 4] [0] [] o_me o182 := Kp.rf.trans (by rw [eo182]; exact Kp.sI (by decide))
            refine wp_if (fun c187 => ?_) (fun c187 => ?_)
            · have c187 := cv_eq (a := w166.toInt) (b := 0) rfl (by decide) c187
              have t189 := igX6_8 hIo182
              have t190 := igX6_2 hIo182
              refine wp_bd (s_X6_step   o182  hIo182  (zd_e (c := 0) (zd_e (c := 0) (zq_0 ko182_k186) r0 (by decide)) (zq_0 ko182_k183.symm) (by decide))) (fun z188 hz188 => ?_)
              obtain ⟨hz188_0, hz188_1, hz188_2⟩ := hz188
              have hkpz188_me : Kp [2, 4] [0] [] o_me z188 := hkpo182.trans (hz188_1.mono (by decide) (by decide) (by decide))
              have kz188_k191 : (gI z188 2).toInt = (gI o182 2).toInt := congrArg Int32.toInt (hz188_1.1 2 (by decide))
              have kz188_k192 : (gI z188 4).toInt = (gI o182 4).toInt := congrArg Int32.toInt (hz188_1.1 4 (by decide))
              have kz188_k193 : (gI z188 5).toInt = (gI o182 5).toInt := congrArg Int32.toInt (hz188_1.1 5 (by decide))
              refine wp_if (fun c194 => ?_) (fun c194 => ?_)
              · have c194 := cv_eq (a := (gI z188 4).toInt) (b := 0) rfl (by decide) c194
                refine wp_if (fun c195 => ?_) (fun c195 => ?_)
                · have c195 := cv_ge (a := z169.toInt) (b := 5) rfl (by decide) c195
                  have t196 := igX6_6 hz188_0
                  refine wp_if (fun c197 => ?_) (fun c197 => ?_)
                  · have c197 := cv_eq (a := (gI z188 6).toInt) (b := 2) rfl (by decide) c197
                    refine wp_if (fun c198 => ?_) (fun c198 => ?_)
                    · have c198 := cv_lt (a := (gI z188 9).toInt) (b := 7) rfl (by decide) c198
                      refine wp_bd (s_X3_wordOfPerson   z169 (gI z188 9)    ) (fun z199 hz199 => ?_)
                      refine wp_bd (s_X0_add  12 400 o_me_code (1 : Int32) z199  hI_me_code  ) (fun z200 hz200 => ?_)
                      obtain ⟨hz200_0, hz200_1, hz200_2⟩ := hz200
                      have hkpz200_me_code : Kp [7] [1] [] o_me_code z200.2 := Kp.rf.trans (hz200_2.mono (by decide) (by decide) (by decide))
                      have t202 := igX6_8 hz188_0
                      refine wp_bd (s_X6_step   z188  hz188_0  hz188_2) (fun z201 hz201 => ?_)
                      obtain ⟨hz201_0, hz201_1, hz201_2⟩ := hz201
                      have hkpz201_me : Kp [2, 4] [0] [] o_me z201 := hkpz188_me.trans (hz201_1.mono (by decide) (by decide) (by decide))
                      have kz201_k203 : (gI z201 2).toInt = (gI z188 2).toInt := congrArg Int32.toInt (hz201_1.1 2 (by decide))
                      have kz201_k204 : (gI z201 4).toInt = (gI z188 4).toInt := congrArg Int32.toInt (hz201_1.1 4 (by decide))
                      have kz201_k205 : (gI z201 5).toInt = (gI z188 5).toInt := congrArg Int32.toInt (hz201_1.1 5 (by decide))
                      refine wp_some ?_
                      have t206 := igX6_8 hz201_0
                      exact (show (0 ≤ (1 : Int32).toInt ∧ (1 : Int32).toInt ≤ 1) ∧ IvX6 z201 ∧ Kp [2, 4] [0] [] o_me z201 ∧ IvX0 12 400 z200.2 ∧ Kp [7] [1] [] o_me_code z200.2 ∧ ((gI z201 8).toInt ≤ (gI z201 2).toInt + 0) from ⟨⟨by decide, by decide⟩, hz201_0, hkpz201_me, hz200_1, hkpz200_me_code, hz201_2⟩)
                    · have c198 := cv_nlt (a := (gI z188 9).toInt) (b := 7) rfl (by decide) c198
                      unfold bk_X6_readSinglePart_144
                      refine wp_bd (s_X6_stop   z188  hz188_0  ) (fun z207 hz207 => ?_)
                      obtain ⟨hz207_0, hz207_1, hz207_2⟩ := hz207
                      have hkpz207_me : Kp [2, 4] [0] [] o_me z207.2 := hkpz188_me.trans (hz207_2.mono (by decide) (by decide) (by decide))
                      have kz207_k208 : (gI z207.2 2).toInt = (gI z188 2).toInt := congrArg Int32.toInt (hz207_2.1 2 (by decide))
                      have kz207_k209 : (gI z207.2 4).toInt = (gI z188 4).toInt := congrArg Int32.toInt (hz207_2.1 4 (by decide))
                      have kz207_k210 : (gI z207.2 5).toInt = (gI z188 5).toInt := congrArg Int32.toInt (hz207_2.1 5 (by decide))
                      have kz207_k211 : (gI z207.2 6).toInt = (gI z188 6).toInt := congrArg Int32.toInt (hz207_2.1 6 (by decide))
                      have kz207_k212 : (gI z207.2 8).toInt = (gI z188 8).toInt := congrArg Int32.toInt (hz207_2.1 8 (by decide))
                      refine wp_gd (zbo_of hz207_0.1 (Int.le_trans hz207_0.2 (by decide))) ?_
                      refine wp_some ?_
                      have t213 := igX6_8 hz207_1
                      exact (show (0 ≤ z207.1.toInt ∧ z207.1.toInt ≤ 1) ∧ IvX6 z207.2 ∧ Kp [2, 4] [0] [] o_me z207.2 ∧ IvX0 12 400 o_me_code ∧ Kp [7] [1] [] o_me_code o_me_code ∧ ((gI z207.2 8).toInt ≤ (gI z207.2 2).toInt + 0) from ⟨⟨hz207_0.1, (Int.le_trans hz207_0.2 (by decide))⟩, hz207_1, hkpz207_me, hI_me_code, Kp.rf, (zd_e (c := 0) (zd_e (c := 0) (zq_0 kz207_k212) hz188_2 (by decide)) (zq_0 kz207_k208.symm) (by decide))⟩)
                  · have c197 := cv_ne (a := (gI z188 6).toInt) (b := 2) rfl (by decide) c197
                    unfold bk_X6_readSinglePart_144
                    refine wp_bd (s_X6_stop   z188  hz188_0  ) (fun z214 hz214 => ?_)
                    obtain ⟨hz214_0, hz214_1, hz214_2⟩ := hz214
                    have hkpz214_me : Kp [2, 4] [0] [] o_me z214.2 := hkpz188_me.trans (hz214_2.mono (by decide) (by decide) (by decide))
                    have kz214_k215 : (gI z214.2 2).toInt = (gI z188 2).toInt := congrArg Int32.toInt (hz214_2.1 2 (by decide))
                    have kz214_k216 : (gI z214.2 4).toInt = (gI z188 4).toInt := congrArg Int32.toInt (hz214_2.1 4 (by decide))
                    have kz214_k217 : (gI z214.2 5).toInt = (gI z188 5).toInt := congrArg Int32.toInt (hz214_2.1 5 (by decide))
                    have kz214_k218 : (gI z214.2 6).toInt = (gI z188 6).toInt := congrArg Int32.toInt (hz214_2.1 6 (by decide))
                    have kz214_k219 : (gI z214.2 8).toInt = (gI z188 8).toInt := congrArg Int32.toInt (hz214_2.1 8 (by decide))
                    refine wp_gd (zbo_of hz214_0.1 (Int.le_trans hz214_0.2 (by decide))) ?_
                    refine wp_some ?_
                    have t220 := igX6_8 hz214_1
                    exact (show (0 ≤ z214.1.toInt ∧ z214.1.toInt ≤ 1) ∧ IvX6 z214.2 ∧ Kp [2, 4] [0] [] o_me z214.2 ∧ IvX0 12 400 o_me_code ∧ Kp [7] [1] [] o_me_code o_me_code ∧ ((gI z214.2 8).toInt ≤ (gI z214.2 2).toInt + 0) from ⟨⟨hz214_0.1, (Int.le_trans hz214_0.2 (by decide))⟩, hz214_1, hkpz214_me, hI_me_code, Kp.rf, (zd_e (c := 0) (zd_e (c := 0) (zq_0 kz214_k219) hz188_2 (by decide)) (zq_0 kz214_k215.symm) (by decide))⟩)
                · have c195 := cv_nge (a := z169.toInt) (b := 5) rfl (by decide) c195
                  unfold bk_X6_readSinglePart_115
                  refine wp_bd (s_X0_add  12 400 o_me_code (1 : Int32) z169  hI_me_code  ) (fun z221 hz221 => ?_)
                  obtain ⟨hz221_0, hz221_1, hz221_2⟩ := hz221
                  have hkpz221_me_code : Kp [7] [1] [] o_me_code z221.2 := Kp.rf.trans (hz221_2.mono (by decide) (by decide) (by decide))
                  refine wp_some ?_
                  have t222 := igX6_8 hz188_0
                  exact (show (0 ≤ (1 : Int32).toInt ∧ (1 : Int32).toInt ≤ 1) ∧ IvX6 z188 ∧ Kp [2, 4] [0] [] o_me z188 ∧ IvX0 12 400 z221.2 ∧ Kp [7] [1] [] o_me_code z221.2 ∧ ((gI z188 8).toInt ≤ (gI z188 2).toInt + 0) from ⟨⟨by decide, by decide⟩, hz188_0, hkpz188_me, hz221_1, hkpz221_me_code, hz188_2⟩)
              · have c194z := c194
                have c194 := cv_ne (a := (gI z188 4).toInt) (b := 0) rfl (by decide) c194
                exact absurd (Int.le_antisymm (zu_e (zd_e (c := 0) (zq_0 kz188_k192) (zq_0 ko182_k184) (by decide)) (Int.le_of_eq c168) (by decide)) (zl_e (zd_e (c := 0) (zq_0 ko182_k184.symm) (zq_0 kz188_k192.symm) (by decide)) t167.1 (by decide))) c194
            · have c187z := c187
              have c187 := cv_ne (a := w166.toInt) (b := 0) rfl (by decide) c187
              exact absurd (Int.le_antisymm (Int.le_of_eq tw166) (Int.le_of_eq tw166.symm)) c187
          · have c180 := cv_nlt (a := (gI o_me 5).toInt) (b := 50) rfl (by decide) c180
            unfold bk_X6_readSinglePart_61
            refine wp_bd (s_X6_stop   o_me  hI_me  ) (fun z223 hz223 => ?_)
            obtain ⟨hz223_0, hz223_1, hz223_2⟩ := hz223
            have hkpz223_me : Kp [2, 4] [0] [] o_me z223.2 := Kp.rf.trans (hz223_2.mono (by decide) (by decide) (by decide))
            have kz223_k224 : (gI z223.2 2).toInt = (gI o_me 2).toInt := congrArg Int32.toInt (hz223_2.1 2 (by decide))
            have kz223_k225 : (gI z223.2 4).toInt = (gI o_me 4).toInt := congrArg Int32.toInt (hz223_2.1 4 (by decide))
            have kz223_k226 : (gI z223.2 5).toInt = (gI o_me 5).toInt := congrArg Int32.toInt (hz223_2.1 5 (by decide))
            have kz223_k227 : (gI z223.2 6).toInt = (gI o_me 6).toInt := congrArg Int32.toInt (hz223_2.1 6 (by decide))
            have kz223_k228 : (gI z223.2 8).toInt = (gI o_me 8).toInt := congrArg Int32.toInt (hz223_2.1 8 (by decide))
            refine wp_gd (zbo_of hz223_0.1 (Int.le_trans hz223_0.2 (by decide))) ?_
            refine wp_some ?_
            have t229 := igX6_8 hz223_1
            have t230 := igX6_2 hz223_1
            exact (show (0 ≤ z223.1.toInt ∧ z223.1.toInt ≤ 1) ∧ IvX6 z223.2 ∧ Kp [2, 4] [0] [] o_me z223.2 ∧ IvX0 12 400 o_me_code ∧ Kp [7] [1] [] o_me_code o_me_code ∧ ((gI z223.2 8).toInt ≤ (gI z223.2 2).toInt + 0) from ⟨⟨hz223_0.1, (Int.le_trans hz223_0.2 (by decide))⟩, hz223_1, hkpz223_me, hI_me_code, Kp.rf, (zd_e (c := 0) (zd_e (c := 0) (zq_0 kz223_k228) r0 (by decide)) (zq_0 kz223_k224.symm) (by decide))⟩)
      · have c170z := c170
        have c170 := cv_ne (a := w166.toInt) (b := 0) rfl (by decide) c170
        exact absurd (Int.le_antisymm (Int.le_of_eq tw166) (Int.le_of_eq tw166.symm)) c170
    · have c168z := c168
      have c168 := cv_ne (a := (gI o_me 4).toInt) (b := 0) rfl (by decide) c168
      unfold bk_X6_readSinglePart_39
      refine wp_bd (s_X6_wordOf   o_me 7  hI_me (by decide) ) (fun z231 hz231 => ?_)
      refine wp_if (fun c232 => ?_) (fun c232 => ?_)
      · have c232 := cv_eq (a := w166.toInt) (b := 0) rfl (by decide) c232
        refine wp_if (fun c233 => ?_) (fun c233 => ?_)
        · have c233 := cv_eq (a := z231.toInt) (b := (-1)) rfl (by decide) c233
          unfold bk_X6_readSinglePart_61
          refine wp_bd (s_X6_stop   o_me  hI_me  ) (fun z234 hz234 => ?_)
          obtain ⟨hz234_0, hz234_1, hz234_2⟩ := hz234
          have hkpz234_me : Kp [2, 4] [0] [] o_me z234.2 := Kp.rf.trans (hz234_2.mono (by decide) (by decide) (by decide))
          have kz234_k235 : (gI z234.2 2).toInt = (gI o_me 2).toInt := congrArg Int32.toInt (hz234_2.1 2 (by decide))
          have kz234_k236 : (gI z234.2 4).toInt = (gI o_me 4).toInt := congrArg Int32.toInt (hz234_2.1 4 (by decide))
          have kz234_k237 : (gI z234.2 6).toInt = (gI o_me 6).toInt := congrArg Int32.toInt (hz234_2.1 6 (by decide))
          have kz234_k238 : (gI z234.2 8).toInt = (gI o_me 8).toInt := congrArg Int32.toInt (hz234_2.1 8 (by decide))
          refine wp_gd (zbo_of hz234_0.1 (Int.le_trans hz234_0.2 (by decide))) ?_
          refine wp_some ?_
          have t239 := igX6_8 hz234_1
          have t240 := igX6_2 hz234_1
          exact (show (0 ≤ z234.1.toInt ∧ z234.1.toInt ≤ 1) ∧ IvX6 z234.2 ∧ Kp [2, 4] [0] [] o_me z234.2 ∧ IvX0 12 400 o_me_code ∧ Kp [7] [1] [] o_me_code o_me_code ∧ ((gI z234.2 8).toInt ≤ (gI z234.2 2).toInt + 0) from ⟨⟨hz234_0.1, (Int.le_trans hz234_0.2 (by decide))⟩, hz234_1, hkpz234_me, hI_me_code, Kp.rf, (zd_e (c := 0) (zd_e (c := 0) (zq_0 kz234_k238) r0 (by decide)) (zq_0 kz234_k235.symm) (by decide))⟩)
        · have c233 := cv_ne (a := z231.toInt) (b := (-1)) rfl (by decide) c233
          unfold bk_X6_readSinglePart_52
          have t241 := igX6_5 hI_me
          refine wp_if (fun c242 => ?_) (fun c242 => ?_)
          · have c242 := cv_lt (a := (gI o_me 5).toInt) (b := 50) rfl (by decide) c242
            have t243 : ((gI o_me 5) + (1 : Int32)).toInt = (gI o_me 5).toInt + 1 := i32_add rfl (by decide) (zk_l t241.1 (by decide)) (zk_u (zlt_u (c := 49) c242 (by decide)) (by decide))
            refine wp_lt (fun o244 eo244 => ?_)
            have hIo244 : IvX6 o244 := by rw [eo244]; exact ipX6_5 hI_me ⟨(zl_e (zq_r (c := (-1)) t243 (by decide)) t241.1 (by decide)), (zu_e (Int.le_of_eq t243) (zlt_u (c := 49) c242 (by decide)) (by decide))⟩
            have ko244_k245 : (gI o244 2).toInt = (gI o_me 2).toInt := by rw [eo244]; rfl
            have ko244_k246 : (gI o244 4).toInt = (gI o_me 4).toInt := by rw [eo244]; rfl
            have ko244_k247 : (gI o244 6).toInt = (gI o_me 6).toInt := by rw [eo244]; rfl
            have ko244_k248 : (gI o244 8).toInt = (gI o_me 8).toInt := by rw [eo244]; rfl
            have ko244_v : (gI o244 5).toInt = ((gI o_me 5) + (1 : Int32)).toInt := by rw [eo244]; rfl
            have hkpo244 : Kp [2, 4] [0] [] o_me o244 := Kp.rf.trans (by rw [eo244]; exact Kp.sI (by decide))
            refine wp_if (fun c249 => ?_) (fun c249 => ?_)
            · have c249 := cv_eq (a := w166.toInt) (b := 0) rfl (by decide) c249
              have t251 := igX6_8 hIo244
              have t252 := igX6_2 hIo244
              refine wp_bd (s_X6_step   o244  hIo244  (zd_e (c := 0) (zd_e (c := 0) (zq_0 ko244_k248) r0 (by decide)) (zq_0 ko244_k245.symm) (by decide))) (fun z250 hz250 => ?_)
              obtain ⟨hz250_0, hz250_1, hz250_2⟩ := hz250
              have hkpz250_me : Kp [2, 4] [0] [] o_me z250 := hkpo244.trans (hz250_1.mono (by decide) (by decide) (by decide))
              have kz250_k253 : (gI z250 2).toInt = (gI o244 2).toInt := congrArg Int32.toInt (hz250_1.1 2 (by decide))
              have kz250_k254 : (gI z250 4).toInt = (gI o244 4).toInt := congrArg Int32.toInt (hz250_1.1 4 (by decide))
              have kz250_k255 : (gI z250 5).toInt = (gI o244 5).toInt := congrArg Int32.toInt (hz250_1.1 5 (by decide))
              refine wp_if (fun c256 => ?_) (fun c256 => ?_)
              · have c256 := cv_eq (a := (gI z250 4).toInt) (b := 0) rfl (by decide) c256
                exfalso; omega
              · have c256z := c256
                have c256 := cv_ne (a := (gI z250 4).toInt) (b := 0) rfl (by decide) c256
                unfold bk_X6_readSinglePart_115
                refine wp_bd (s_X0_add  12 400 o_me_code (1 : Int32) z231  hI_me_code  ) (fun z257 hz257 => ?_)
                obtain ⟨hz257_0, hz257_1, hz257_2⟩ := hz257
                have hkpz257_me_code : Kp [7] [1] [] o_me_code z257.2 := Kp.rf.trans (hz257_2.mono (by decide) (by decide) (by decide))
                refine wp_some ?_
                have t258 := igX6_8 hz250_0
                exact (show (0 ≤ (1 : Int32).toInt ∧ (1 : Int32).toInt ≤ 1) ∧ IvX6 z250 ∧ Kp [2, 4] [0] [] o_me z250 ∧ IvX0 12 400 z257.2 ∧ Kp [7] [1] [] o_me_code z257.2 ∧ ((gI z250 8).toInt ≤ (gI z250 2).toInt + 0) from ⟨⟨by decide, by decide⟩, hz250_0, hkpz250_me, hz257_1, hkpz257_me_code, hz250_2⟩)
            · have c249z := c249
              have c249 := cv_ne (a := w166.toInt) (b := 0) rfl (by decide) c249
              exact absurd (Int.le_antisymm (Int.le_of_eq tw166) (Int.le_of_eq tw166.symm)) c249
          · have c242 := cv_nlt (a := (gI o_me 5).toInt) (b := 50) rfl (by decide) c242
            unfold bk_X6_readSinglePart_61
            refine wp_bd (s_X6_stop   o_me  hI_me  ) (fun z259 hz259 => ?_)
            obtain ⟨hz259_0, hz259_1, hz259_2⟩ := hz259
            have hkpz259_me : Kp [2, 4] [0] [] o_me z259.2 := Kp.rf.trans (hz259_2.mono (by decide) (by decide) (by decide))
            have kz259_k260 : (gI z259.2 2).toInt = (gI o_me 2).toInt := congrArg Int32.toInt (hz259_2.1 2 (by decide))
            have kz259_k261 : (gI z259.2 4).toInt = (gI o_me 4).toInt := congrArg Int32.toInt (hz259_2.1 4 (by decide))
            have kz259_k262 : (gI z259.2 5).toInt = (gI o_me 5).toInt := congrArg Int32.toInt (hz259_2.1 5 (by decide))
            have kz259_k263 : (gI z259.2 6).toInt = (gI o_me 6).toInt := congrArg Int32.toInt (hz259_2.1 6 (by decide))
            have kz259_k264 : (gI z259.2 8).toInt = (gI o_me 8).toInt := congrArg Int32.toInt (hz259_2.1 8 (by decide))
            refine wp_gd (zbo_of hz259_0.1 (Int.le_trans hz259_0.2 (by decide))) ?_
            refine wp_some ?_
            have t265 := igX6_8 hz259_1
            have t266 := igX6_2 hz259_1
            exact (show (0 ≤ z259.1.toInt ∧ z259.1.toInt ≤ 1) ∧ IvX6 z259.2 ∧ Kp [2, 4] [0] [] o_me z259.2 ∧ IvX0 12 400 o_me_code ∧ Kp [7] [1] [] o_me_code o_me_code ∧ ((gI z259.2 8).toInt ≤ (gI z259.2 2).toInt + 0) from ⟨⟨hz259_0.1, (Int.le_trans hz259_0.2 (by decide))⟩, hz259_1, hkpz259_me, hI_me_code, Kp.rf, (zd_e (c := 0) (zd_e (c := 0) (zq_0 kz259_k264) r0 (by decide)) (zq_0 kz259_k260.symm) (by decide))⟩)
      · have c232z := c232
        have c232 := cv_ne (a := w166.toInt) (b := 0) rfl (by decide) c232
        exact absurd (Int.le_antisymm (Int.le_of_eq tw166) (Int.le_of_eq tw166.symm)) c232


set_option maxHeartbeats 4000000 in
set_option maxRecDepth 100000 in
theorem s_X6_readPart (rS : Ob → Ob → Int32 → Option (Int32 × Ob × Ob)) (o_me : Ob) (o_me_code : Ob) (p0 : Int32) (hrS : ∀ (o9 c9 : Ob) (p9 : Int32), IvX6 o9 → IvX0 12 400 c9 → p0.toInt < p9.toInt → 0 ≤ p9.toInt ∧ p9.toInt ≤ 8 → (gI o9 8).toInt ≤ (gI o9 2).toInt + 0 → wp (rS o9 c9 p9) (fun (y : Int32 × Ob × Ob) => (0 ≤ y.1.toInt ∧ y.1.toInt ≤ 1) ∧ IvX6 y.2.1 ∧ Kp [2, 4] [0] [] o9 y.2.1 ∧ IvX0 12 400 y.2.2 ∧ Kp [7] [1] [] c9 y.2.2 ∧ ((gI y.2.1 8).toInt ≤ (gI y.2.1 2).toInt + 0))) (hI_me : IvX6 o_me) (hI_me_code : IvX0 12 400 o_me_code) (q0 : 0 ≤ p0.toInt ∧ p0.toInt ≤ 8) (r0 : (gI o_me 8).toInt ≤ (gI o_me 2).toInt + 0) : wp (f_X6_readPart rS 12 400 o_me o_me_code p0) (fun (y : Int32 × Ob × Ob) => (0 ≤ y.1.toInt ∧ y.1.toInt ≤ 1) ∧ IvX6 y.2.1 ∧ Kp [2, 4] [0] [] o_me y.2.1 ∧ IvX0 12 400 y.2.2 ∧ Kp [7] [1] [] o_me_code y.2.2 ∧ ((gI y.2.1 8).toInt ≤ (gI y.2.1 2).toInt + 0)) := by
  have li0 : (0 : Int32).toInt = 0 := by decide
  have li1 : (1 : Int32).toInt = 1 := by decide
  have li2 : (8 : Int32).toInt = 8 := by decide
  have li3 : (91 : Int32).toInt = 91 := by decide
  have li4 : (93 : Int32).toInt = 93 := by decide
  unfold f_X6_readPart
  refine wp_bd (s_X6_isSign   o_me (91 : Int32)  hI_me  ) (fun z1 hz1 => ?_)
  have hz1_0 := hz1
  refine wp_if (fun c2 => ?_) (fun c2 => ?_)
  · have c2 := cv_eq (a := z1.toInt) (b := 0) rfl (by decide) c2
    have t4 := igX6_8 hI_me
    have t5 := igX6_2 hI_me
    refine wp_bd (s_X6_readSinglePart   o_me o_me_code  hI_me hI_me_code  r0) (fun z3 hz3 => ?_)
    obtain ⟨hz3_0, hz3_1, hz3_2, hz3_3, hz3_4, hz3_5⟩ := hz3
    have hkpz3_me : Kp [2, 4] [0] [] o_me z3.2.1 := Kp.rf.trans (hz3_2.mono (by decide) (by decide) (by decide))
    have kz3_k6 : (gI z3.2.1 2).toInt = (gI o_me 2).toInt := congrArg Int32.toInt (hz3_2.1 2 (by decide))
    have hkpz3_me_code : Kp [7] [1] [] o_me_code z3.2.2 := Kp.rf.trans (hz3_4.mono (by decide) (by decide) (by decide))
    refine wp_gd (zbo_of hz3_0.1 hz3_0.2) ?_
    refine wp_some ?_
    have t7 := igX6_8 hz3_1
    exact (show (0 ≤ z3.1.toInt ∧ z3.1.toInt ≤ 1) ∧ IvX6 z3.2.1 ∧ Kp [2, 4] [0] [] o_me z3.2.1 ∧ IvX0 12 400 z3.2.2 ∧ Kp [7] [1] [] o_me_code z3.2.2 ∧ ((gI z3.2.1 8).toInt ≤ (gI z3.2.1 2).toInt + 0) from ⟨⟨hz3_0.1, hz3_0.2⟩, hz3_1, hkpz3_me, hz3_3, hkpz3_me_code, hz3_5⟩)
  · have c2z := c2
    have c2 := cv_ne (a := z1.toInt) (b := 0) rfl (by decide) c2
    refine wp_if (fun c8 => ?_) (fun c8 => ?_)
    · have c8 := cv_lt (a := p0.toInt) (b := 8) rfl (by decide) c8
      have t10 := igX6_8 hI_me
      have t11 := igX6_2 hI_me
      refine wp_bd (s_X6_step   o_me  hI_me  r0) (fun z9 hz9 => ?_)
      obtain ⟨hz9_0, hz9_1, hz9_2⟩ := hz9
      have hkpz9_me : Kp [2, 4] [0] [] o_me z9 := Kp.rf.trans (hz9_1.mono (by decide) (by decide) (by decide))
      have kz9_k12 : (gI z9 2).toInt = (gI o_me 2).toInt := congrArg Int32.toInt (hz9_1.1 2 (by decide))
      have t13 : (p0 + (1 : Int32)).toInt = p0.toInt + 1 := i32_add rfl (by decide) (zk_l q0.1 (by decide)) (zk_u (zlt_u (c := 7) c8 (by decide)) (by decide))
      have t15 := igX6_8 hz9_0
      refine wp_bd (hrS   z9 o_me_code (p0 + (1 : Int32))  hz9_0 hI_me_code (by omega) ⟨(zl_e (zq_r (c := (-1)) t13 (by decide)) q0.1 (by decide)), (zu_e (Int.le_of_eq t13) (zlt_u (c := 7) c8 (by decide)) (by decide))⟩ hz9_2) (fun z14 hz14 => ?_)
      obtain ⟨hz14_0, hz14_1, hz14_2, hz14_3, hz14_4, hz14_5⟩ := hz14
      have hkpz14_me : Kp [2, 4] [0] [] o_me z14.2.1 := hkpz9_me.trans (hz14_2.mono (by decide) (by decide) (by decide))
      have kz14_k16 : (gI z14.2.1 2).toInt = (gI z9 2).toInt := congrArg Int32.toInt (hz14_2.1 2 (by decide))
      have hkpz14_me_code : Kp [7] [1] [] o_me_code z14.2.2 := Kp.rf.trans (hz14_4.mono (by decide) (by decide) (by decide))
      refine wp_if (fun c17 => ?_) (fun c17 => ?_)
      · have c17 := cv_eq (a := z14.1.toInt) (b := 0) rfl (by decide) c17
        refine wp_some ?_
        have t18 := igX6_8 hz14_1
        exact (show (0 ≤ (0 : Int32).toInt ∧ (0 : Int32).toInt ≤ 1) ∧ IvX6 z14.2.1 ∧ Kp [2, 4] [0] [] o_me z14.2.1 ∧ IvX0 12 400 z14.2.2 ∧ Kp [7] [1] [] o_me_code z14.2.2 ∧ ((gI z14.2.1 8).toInt ≤ (gI z14.2.1 2).toInt + 0) from ⟨⟨by decide, by decide⟩, hz14_1, hkpz14_me, hz14_3, hkpz14_me_code, hz14_5⟩)
      · have c17z := c17
        have c17 := cv_ne (a := z14.1.toInt) (b := 0) rfl (by decide) c17
        refine wp_bd (s_X6_isSign   z14.2.1 (93 : Int32)  hz14_1  ) (fun z19 hz19 => ?_)
        have hz19_0 := hz19
        refine wp_if (fun c20 => ?_) (fun c20 => ?_)
        · have c20 := cv_eq (a := z19.toInt) (b := 0) rfl (by decide) c20
          refine wp_bd (s_X6_stop   z14.2.1  hz14_1  ) (fun z21 hz21 => ?_)
          obtain ⟨hz21_0, hz21_1, hz21_2⟩ := hz21
          have hkpz21_me : Kp [2, 4] [0] [] o_me z21.2 := hkpz14_me.trans (hz21_2.mono (by decide) (by decide) (by decide))
          have kz21_k22 : (gI z21.2 2).toInt = (gI z14.2.1 2).toInt := congrArg Int32.toInt (hz21_2.1 2 (by decide))
          have kz21_k23 : (gI z21.2 8).toInt = (gI z14.2.1 8).toInt := congrArg Int32.toInt (hz21_2.1 8 (by decide))
          refine wp_gd (zbo_of hz21_0.1 (Int.le_trans hz21_0.2 (by decide))) ?_
          refine wp_some ?_
          have t24 := igX6_8 hz21_1
          exact (show (0 ≤ z21.1.toInt ∧ z21.1.toInt ≤ 1) ∧ IvX6 z21.2 ∧ Kp [2, 4] [0] [] o_me z21.2 ∧ IvX0 12 400 z14.2.2 ∧ Kp [7] [1] [] o_me_code z14.2.2 ∧ ((gI z21.2 8).toInt ≤ (gI z21.2 2).toInt + 0) from ⟨⟨hz21_0.1, (Int.le_trans hz21_0.2 (by decide))⟩, hz21_1, hkpz21_me, hz14_3, hkpz14_me_code, (zd_e (c := 0) (zd_e (c := 0) (zq_0 kz21_k23) hz14_5 (by decide)) (zq_0 kz21_k22.symm) (by decide))⟩)
        · have c20z := c20
          have c20 := cv_ne (a := z19.toInt) (b := 0) rfl (by decide) c20
          have t26 := igX6_8 hz14_1
          refine wp_bd (s_X6_step   z14.2.1  hz14_1  hz14_5) (fun z25 hz25 => ?_)
          obtain ⟨hz25_0, hz25_1, hz25_2⟩ := hz25
          have hkpz25_me : Kp [2, 4] [0] [] o_me z25 := hkpz14_me.trans (hz25_1.mono (by decide) (by decide) (by decide))
          have kz25_k27 : (gI z25 2).toInt = (gI z14.2.1 2).toInt := congrArg Int32.toInt (hz25_1.1 2 (by decide))
          refine wp_some ?_
          have t28 := igX6_8 hz25_0
          exact (show (0 ≤ (1 : Int32).toInt ∧ (1 : Int32).toInt ≤ 1) ∧ IvX6 z25 ∧ Kp [2, 4] [0] [] o_me z25 ∧ IvX0 12 400 z14.2.2 ∧ Kp [7] [1] [] o_me_code z14.2.2 ∧ ((gI z25 8).toInt ≤ (gI z25 2).toInt + 0) from ⟨⟨by decide, by decide⟩, hz25_0, hkpz25_me, hz14_3, hkpz14_me_code, hz25_2⟩)
    · have c8 := cv_nlt (a := p0.toInt) (b := 8) rfl (by decide) c8
      refine wp_bd (s_X6_stop   o_me  hI_me  ) (fun z29 hz29 => ?_)
      obtain ⟨hz29_0, hz29_1, hz29_2⟩ := hz29
      have hkpz29_me : Kp [2, 4] [0] [] o_me z29.2 := Kp.rf.trans (hz29_2.mono (by decide) (by decide) (by decide))
      have kz29_k30 : (gI z29.2 2).toInt = (gI o_me 2).toInt := congrArg Int32.toInt (hz29_2.1 2 (by decide))
      have kz29_k31 : (gI z29.2 8).toInt = (gI o_me 8).toInt := congrArg Int32.toInt (hz29_2.1 8 (by decide))
      refine wp_gd (zbo_of hz29_0.1 (Int.le_trans hz29_0.2 (by decide))) ?_
      refine wp_some ?_
      have t32 := igX6_8 hz29_1
      have t33 := igX6_2 hz29_1
      exact (show (0 ≤ z29.1.toInt ∧ z29.1.toInt ≤ 1) ∧ IvX6 z29.2 ∧ Kp [2, 4] [0] [] o_me z29.2 ∧ IvX0 12 400 o_me_code ∧ Kp [7] [1] [] o_me_code o_me_code ∧ ((gI z29.2 8).toInt ≤ (gI z29.2 2).toInt + 0) from ⟨⟨hz29_0.1, (Int.le_trans hz29_0.2 (by decide))⟩, hz29_1, hkpz29_me, hI_me_code, Kp.rf, (zd_e (c := 0) (zd_e (c := 0) (zq_0 kz29_k31) r0 (by decide)) (zq_0 kz29_k30.symm) (by decide))⟩)

set_option maxHeartbeats 4000000 in
set_option maxRecDepth 100000 in
theorem s_X6_readTerm (rS : Ob → Ob → Int32 → Option (Int32 × Ob × Ob)) (o_me : Ob) (o_me_code : Ob) (p0 : Int32) (hrS : ∀ (o9 c9 : Ob) (p9 : Int32), IvX6 o9 → IvX0 12 400 c9 → p0.toInt < p9.toInt → 0 ≤ p9.toInt ∧ p9.toInt ≤ 8 → (gI o9 8).toInt ≤ (gI o9 2).toInt + 0 → wp (rS o9 c9 p9) (fun (y : Int32 × Ob × Ob) => (0 ≤ y.1.toInt ∧ y.1.toInt ≤ 1) ∧ IvX6 y.2.1 ∧ Kp [2, 4] [0] [] o9 y.2.1 ∧ IvX0 12 400 y.2.2 ∧ Kp [7] [1] [] c9 y.2.2 ∧ ((gI y.2.1 8).toInt ≤ (gI y.2.1 2).toInt + 0))) (hI_me : IvX6 o_me) (hI_me_code : IvX0 12 400 o_me_code) (q0 : 0 ≤ p0.toInt ∧ p0.toInt ≤ 8) (r0 : (gI o_me 8).toInt ≤ (gI o_me 2).toInt + 0) : wp (f_X6_readTerm rS 12 400 o_me o_me_code p0) (fun (y : Int32 × Ob × Ob) => (0 ≤ y.1.toInt ∧ y.1.toInt ≤ 1) ∧ IvX6 y.2.1 ∧ Kp [2, 4] [0] [] o_me y.2.1 ∧ IvX0 12 400 y.2.2 ∧ Kp [7] [1] [] o_me_code y.2.2 ∧ ((gI y.2.1 8).toInt ≤ (gI y.2.1 2).toInt + 0)) := by
  have li0 : (0 : Int32).toInt = 0 := by decide
  have li1 : (1 : Int32).toInt = 1 := by decide
  have li2 : (37 : Int32).toInt = 37 := by decide
  have li3 : (400 : Int32).toInt = 400 := by decide
  have li4 : (42 : Int32).toInt = 42 := by decide
  have li5 : (47 : Int32).toInt = 47 := by decide
  have li6 : (7 : Int32).toInt = 7 := by decide
  have li7 : (8 : Int32).toInt = 8 := by decide
  have li8 : (9 : Int32).toInt = 9 := by decide
  unfold f_X6_readTerm
  have t2 := igX6_8 hI_me
  have t3 := igX6_2 hI_me
  refine wp_bd (s_X6_readPart rS  o_me o_me_code p0 (fun o c p h1 h2 h3 h4 h5 => hrS o c p h1 h2 (by omega) h4 h5) hI_me hI_me_code  ⟨q0.1, q0.2⟩ r0) (fun z1 hz1 => ?_)
  obtain ⟨hz1_0, hz1_1, hz1_2, hz1_3, hz1_4, hz1_5⟩ := hz1
  have hkpz1_me : Kp [2, 4] [0] [] o_me z1.2.1 := Kp.rf.trans (hz1_2.mono (by decide) (by decide) (by decide))
  have kz1_k4 : (gI z1.2.1 2).toInt = (gI o_me 2).toInt := congrArg Int32.toInt (hz1_2.1 2 (by decide))
  have hkpz1_me_code : Kp [7] [1] [] o_me_code z1.2.2 := Kp.rf.trans (hz1_4.mono (by decide) (by decide) (by decide))
  refine wp_if (fun c5 => ?_) (fun c5 => ?_)
  · have c5 := cv_eq (a := z1.1.toInt) (b := 0) rfl (by decide) c5
    refine wp_some ?_
    have t6 := igX6_8 hz1_1
    exact (show (0 ≤ (0 : Int32).toInt ∧ (0 : Int32).toInt ≤ 1) ∧ IvX6 z1.2.1 ∧ Kp [2, 4] [0] [] o_me z1.2.1 ∧ IvX0 12 400 z1.2.2 ∧ Kp [7] [1] [] o_me_code z1.2.2 ∧ ((gI z1.2.1 8).toInt ≤ (gI z1.2.1 2).toInt + 0) from ⟨⟨by decide, by decide⟩, hz1_1, hkpz1_me, hz1_3, hkpz1_me_code, hz1_5⟩)
  · have c5z := c5
    have c5 := cv_ne (a := z1.1.toInt) (b := 0) rfl (by decide) c5
    have lp1 : ∀ (N1 : Nat) (v1_1 : Int32) (v2_1 : Int32) (o_me_1 : Ob) (o_me_code_1 : Ob), IvX6 o_me_1 → Kp [2, 4] [0] [] o_me o_me_1 → IvX0 12 400 o_me_code_1 → Kp [7] [1] [] o_me_code o_me_code_1 → (0 ≤ v1_1.toInt ∧ v1_1.toInt ≤ 8) → (0 ≤ v2_1.toInt ∧ v2_1.toInt ≤ 400) → (0 ≤ (gI o_me_1 2).toInt ∧ (gI o_me_1 2).toInt ≤ 400) → (0 ≤ (gI o_me_1 8).toInt ∧ (gI o_me_1 8).toInt ≤ 400) → ((gI o_me_1 8).toInt ≤ (gI o_me_1 2).toInt + 0) → (v1_1.toInt ≤ p0.toInt + 0) → (p0.toInt ≤ v1_1.toInt + 0) → (400 - v2_1.toInt).toNat < N1 → wp (lp_X6_readTerm_12 rS 12 400  N1 (v1_1, v2_1, o_me_1, o_me_code_1)) (fun (y : Int32 × Ob × Ob) => (0 ≤ y.1.toInt ∧ y.1.toInt ≤ 1) ∧ IvX6 y.2.1 ∧ Kp [2, 4] [0] [] o_me y.2.1 ∧ IvX0 12 400 y.2.2 ∧ Kp [7] [1] [] o_me_code y.2.2 ∧ ((gI y.2.1 8).toInt ≤ (gI y.2.1 2).toInt + 0)) := by
      intro N1
      induction N1 with
      | zero =>
        intro v1_1 v2_1 o_me_1 o_me_code_1 hI_me_1 hkp_me_1 hI_me_code_1 hkp_me_code_1 hh10 hh11 hh12 hh13 hh14 hh15 hh16 hN1
        exact absurd hN1 (Nat.not_lt_zero _)
      | succ N1 ihx =>
        have ih1 := ihx
        intro v1_1 v2_1 o_me_1 o_me_code_1 hI_me_1 hkp_me_1 hI_me_code_1 hkp_me_code_1 hh10 hh11 hh12 hh13 hh14 hh15 hh16 hN1
        show wp (lb_X6_readTerm_12 rS 12 400  (lp_X6_readTerm_12 rS 12 400  N1) v1_1 v2_1 o_me_1 o_me_code_1) (fun (y : Int32 × Ob × Ob) => (0 ≤ y.1.toInt ∧ y.1.toInt ≤ 1) ∧ IvX6 y.2.1 ∧ Kp [2, 4] [0] [] o_me y.2.1 ∧ IvX0 12 400 y.2.2 ∧ Kp [7] [1] [] o_me_code y.2.2 ∧ ((gI y.2.1 8).toInt ≤ (gI y.2.1 2).toInt + 0))
        unfold lb_X6_readTerm_12
        refine wp_if (fun c17 => ?_) (fun c17 => ?_)
        · have c17 := cv_ge (a := v2_1.toInt) (b := 400) rfl (by decide) c17
          refine wp_some ?_
          exact (show (0 ≤ (1 : Int32).toInt ∧ (1 : Int32).toInt ≤ 1) ∧ IvX6 o_me_1 ∧ Kp [2, 4] [0] [] o_me o_me_1 ∧ IvX0 12 400 o_me_code_1 ∧ Kp [7] [1] [] o_me_code o_me_code_1 ∧ ((gI o_me_1 8).toInt ≤ (gI o_me_1 2).toInt + 0) from ⟨⟨by decide, by decide⟩, hI_me_1, hkp_me_1, hI_me_code_1, hkp_me_code_1, hh14⟩)
        · have c17 := cv_nge (a := v2_1.toInt) (b := 400) rfl (by decide) c17
          refine wp_bd (s_X6_isSign   o_me_1 (42 : Int32)  hI_me_1  ) (fun z18 hz18 => ?_)
          have hz18_0 := hz18
          refine wp_if (fun c19 => ?_) (fun c19 => ?_)
          · have c19 := cv_eq (a := z18.toInt) (b := 0) rfl (by decide) c19
            refine wp_bd (s_X6_isSign   o_me_1 (47 : Int32)  hI_me_1  ) (fun z20 hz20 => ?_)
            have hz20_0 := hz20
            refine wp_if (fun c21 => ?_) (fun c21 => ?_)
            · have c21 := cv_eq (a := z20.toInt) (b := 0) rfl (by decide) c21
              refine wp_bd (s_X6_isSign   o_me_1 (37 : Int32)  hI_me_1  ) (fun z22 hz22 => ?_)
              have hz22_0 := hz22
              refine wp_if (fun c23 => ?_) (fun c23 => ?_)
              · have c23 := cv_eq (a := z22.toInt) (b := 0) rfl (by decide) c23
                refine wp_some ?_
                exact (show (0 ≤ (1 : Int32).toInt ∧ (1 : Int32).toInt ≤ 1) ∧ IvX6 o_me_1 ∧ Kp [2, 4] [0] [] o_me o_me_1 ∧ IvX0 12 400 o_me_code_1 ∧ Kp [7] [1] [] o_me_code o_me_code_1 ∧ ((gI o_me_1 8).toInt ≤ (gI o_me_1 2).toInt + 0) from ⟨⟨by decide, by decide⟩, hI_me_1, hkp_me_1, hI_me_code_1, hkp_me_code_1, hh14⟩)
              · have c23z := c23
                have c23 := cv_ne (a := z22.toInt) (b := 0) rfl (by decide) c23
                unfold bk_X6_readTerm_46
                refine wp_bd (s_X6_isSign   o_me_1 (42 : Int32)  hI_me_1  ) (fun z24 hz24 => ?_)
                have hz24_0 := hz24
                refine wp_if (fun c25 => ?_) (fun c25 => ?_)
                · have c25 := cv_eq (a := z24.toInt) (b := 0) rfl (by decide) c25
                  refine wp_bd (s_X6_isSign   o_me_1 (47 : Int32)  hI_me_1  ) (fun z26 hz26 => ?_)
                  have hz26_0 := hz26
                  refine wp_if (fun c27 => ?_) (fun c27 => ?_)
                  · have c27 := cv_eq (a := z26.toInt) (b := 0) rfl (by decide) c27
                    obtain ⟨w28, ew28⟩ : ∃ z : Int32, z = (9 : Int32) := ⟨_, rfl⟩
                    have tw28 : w28.toInt = 9 := by rw [ew28]; decide
                    rw [show bk_X6_readTerm_76 rS 12 400 (lp_X6_readTerm_12 rS 12 400  N1) v1_1 v2_1 (9 : Int32) o_me_1 o_me_code_1 = bk_X6_readTerm_76 rS 12 400 (lp_X6_readTerm_12 rS 12 400  N1) v1_1 v2_1 w28 o_me_1 o_me_code_1 from by rw [ew28]]
                    unfold bk_X6_readTerm_76
                    refine wp_bd (s_X6_step   o_me_1  hI_me_1  hh14) (fun z29 hz29 => ?_)
                    obtain ⟨hz29_0, hz29_1, hz29_2⟩ := hz29
                    have hkpz29_me : Kp [2, 4] [0] [] o_me z29 := hkp_me_1.trans (hz29_1.mono (by decide) (by decide) (by decide))
                    have kz29_k30 : (gI z29 2).toInt = (gI o_me_1 2).toInt := congrArg Int32.toInt (hz29_1.1 2 (by decide))
                    have t32 := igX6_8 hz29_0
                    refine wp_bd (s_X6_readPart rS  z29 o_me_code_1 v1_1 (fun o c p h1 h2 h3 h4 h5 => hrS o c p h1 h2 (by omega) h4 h5) hz29_0 hI_me_code_1  ⟨hh10.1, hh10.2⟩ hz29_2) (fun z31 hz31 => ?_)
                    obtain ⟨hz31_0, hz31_1, hz31_2, hz31_3, hz31_4, hz31_5⟩ := hz31
                    have hkpz31_me : Kp [2, 4] [0] [] o_me z31.2.1 := hkpz29_me.trans (hz31_2.mono (by decide) (by decide) (by decide))
                    have kz31_k33 : (gI z31.2.1 2).toInt = (gI z29 2).toInt := congrArg Int32.toInt (hz31_2.1 2 (by decide))
                    have hkpz31_me_code : Kp [7] [1] [] o_me_code z31.2.2 := hkp_me_code_1.trans (hz31_4.mono (by decide) (by decide) (by decide))
                    refine wp_if (fun c34 => ?_) (fun c34 => ?_)
                    · have c34 := cv_eq (a := z31.1.toInt) (b := 0) rfl (by decide) c34
                      refine wp_some ?_
                      have t35 := igX6_8 hz31_1
                      exact (show (0 ≤ (0 : Int32).toInt ∧ (0 : Int32).toInt ≤ 1) ∧ IvX6 z31.2.1 ∧ Kp [2, 4] [0] [] o_me z31.2.1 ∧ IvX0 12 400 z31.2.2 ∧ Kp [7] [1] [] o_me_code z31.2.2 ∧ ((gI z31.2.1 8).toInt ≤ (gI z31.2.1 2).toInt + 0) from ⟨⟨by decide, by decide⟩, hz31_1, hkpz31_me, hz31_3, hkpz31_me_code, hz31_5⟩)
                    · have c34z := c34
                      have c34 := cv_ne (a := z31.1.toInt) (b := 0) rfl (by decide) c34
                      refine wp_bd (s_X0_add  12 400 z31.2.2 w28 (0 : Int32)  hz31_3  ) (fun z36 hz36 => ?_)
                      obtain ⟨hz36_0, hz36_1, hz36_2⟩ := hz36
                      have hkpz36_me_code : Kp [7] [1] [] o_me_code z36.2 := hkpz31_me_code.trans (hz36_2.mono (by decide) (by decide) (by decide))
                      refine wp_lt (fun x37 ex37 => ?_)
                      have tx37 : x37.toInt = v2_1.toInt + 1 := by rw [ex37]; exact i32_add rfl (by decide) (zk_l hh11.1 (by decide)) (zk_u (zlt_u (c := 399) c17 (by decide)) (by decide))
                      have t38 := igX6_8 hz31_1
                      exact ih1 v1_1 x37 z31.2.1 z36.2 hz31_1 hkpz31_me hz36_1 hkpz36_me_code ⟨hh10.1, hh10.2⟩ ⟨(zl_e (zq_r (c := (-1)) tx37 (by decide)) hh11.1 (by decide)), (zu_e (Int.le_of_eq tx37) (zlt_u (c := 399) c17 (by decide)) (by decide))⟩ ⟨(zl_e hz31_5 t38.1 (by decide)), (zu_e (zd_e (c := 0) (zq_0 kz31_k33) (zq_0 kz29_k30) (by decide)) hh12.2 (by decide))⟩ ⟨t38.1, (zu_e (zd_e (c := 0) (zd_e (c := 0) hz31_5 (zq_0 kz31_k33) (by decide)) (zq_0 kz29_k30) (by decide)) hh12.2 (by decide))⟩ hz31_5 hh15 hh16 (zms_u (c := 399) hN1 (zq_r (c := (-1)) tx37 (by decide)) (zlt_u (c := 399) c17 (by decide)) (by decide))
                  · have c27z := c27
                    have c27 := cv_ne (a := z26.toInt) (b := 0) rfl (by decide) c27
                    obtain ⟨w39, ew39⟩ : ∃ z : Int32, z = (8 : Int32) := ⟨_, rfl⟩
                    have tw39 : w39.toInt = 8 := by rw [ew39]; decide
                    rw [show bk_X6_readTerm_76 rS 12 400 (lp_X6_readTerm_12 rS 12 400  N1) v1_1 v2_1 (8 : Int32) o_me_1 o_me_code_1 = bk_X6_readTerm_76 rS 12 400 (lp_X6_readTerm_12 rS 12 400  N1) v1_1 v2_1 w39 o_me_1 o_me_code_1 from by rw [ew39]]
                    unfold bk_X6_readTerm_76
                    refine wp_bd (s_X6_step   o_me_1  hI_me_1  hh14) (fun z40 hz40 => ?_)
                    obtain ⟨hz40_0, hz40_1, hz40_2⟩ := hz40
                    have hkpz40_me : Kp [2, 4] [0] [] o_me z40 := hkp_me_1.trans (hz40_1.mono (by decide) (by decide) (by decide))
                    have kz40_k41 : (gI z40 2).toInt = (gI o_me_1 2).toInt := congrArg Int32.toInt (hz40_1.1 2 (by decide))
                    have t43 := igX6_8 hz40_0
                    refine wp_bd (s_X6_readPart rS  z40 o_me_code_1 v1_1 (fun o c p h1 h2 h3 h4 h5 => hrS o c p h1 h2 (by omega) h4 h5) hz40_0 hI_me_code_1  ⟨hh10.1, hh10.2⟩ hz40_2) (fun z42 hz42 => ?_)
                    obtain ⟨hz42_0, hz42_1, hz42_2, hz42_3, hz42_4, hz42_5⟩ := hz42
                    have hkpz42_me : Kp [2, 4] [0] [] o_me z42.2.1 := hkpz40_me.trans (hz42_2.mono (by decide) (by decide) (by decide))
                    have kz42_k44 : (gI z42.2.1 2).toInt = (gI z40 2).toInt := congrArg Int32.toInt (hz42_2.1 2 (by decide))
                    have hkpz42_me_code : Kp [7] [1] [] o_me_code z42.2.2 := hkp_me_code_1.trans (hz42_4.mono (by decide) (by decide) (by decide))
                    refine wp_if (fun c45 => ?_) (fun c45 => ?_)
                    · have c45 := cv_eq (a := z42.1.toInt) (b := 0) rfl (by decide) c45
                      refine wp_some ?_
                      have t46 := igX6_8 hz42_1
                      exact (show (0 ≤ (0 : Int32).toInt ∧ (0 : Int32).toInt ≤ 1) ∧ IvX6 z42.2.1 ∧ Kp [2, 4] [0] [] o_me z42.2.1 ∧ IvX0 12 400 z42.2.2 ∧ Kp [7] [1] [] o_me_code z42.2.2 ∧ ((gI z42.2.1 8).toInt ≤ (gI z42.2.1 2).toInt + 0) from ⟨⟨by decide, by decide⟩, hz42_1, hkpz42_me, hz42_3, hkpz42_me_code, hz42_5⟩)
                    · have c45z := c45
                      have c45 := cv_ne (a := z42.1.toInt) (b := 0) rfl (by decide) c45
                      refine wp_bd (s_X0_add  12 400 z42.2.2 w39 (0 : Int32)  hz42_3  ) (fun z47 hz47 => ?_)
                      obtain ⟨hz47_0, hz47_1, hz47_2⟩ := hz47
                      have hkpz47_me_code : Kp [7] [1] [] o_me_code z47.2 := hkpz42_me_code.trans (hz47_2.mono (by decide) (by decide) (by decide))
                      refine wp_lt (fun x48 ex48 => ?_)
                      have tx48 : x48.toInt = v2_1.toInt + 1 := by rw [ex48]; exact i32_add rfl (by decide) (zk_l hh11.1 (by decide)) (zk_u (zlt_u (c := 399) c17 (by decide)) (by decide))
                      have t49 := igX6_8 hz42_1
                      exact ih1 v1_1 x48 z42.2.1 z47.2 hz42_1 hkpz42_me hz47_1 hkpz47_me_code ⟨hh10.1, hh10.2⟩ ⟨(zl_e (zq_r (c := (-1)) tx48 (by decide)) hh11.1 (by decide)), (zu_e (Int.le_of_eq tx48) (zlt_u (c := 399) c17 (by decide)) (by decide))⟩ ⟨(zl_e hz42_5 t49.1 (by decide)), (zu_e (zd_e (c := 0) (zq_0 kz42_k44) (zq_0 kz40_k41) (by decide)) hh12.2 (by decide))⟩ ⟨t49.1, (zu_e (zd_e (c := 0) (zd_e (c := 0) hz42_5 (zq_0 kz42_k44) (by decide)) (zq_0 kz40_k41) (by decide)) hh12.2 (by decide))⟩ hz42_5 hh15 hh16 (zms_u (c := 399) hN1 (zq_r (c := (-1)) tx48 (by decide)) (zlt_u (c := 399) c17 (by decide)) (by decide))
                · have c25z := c25
                  have c25 := cv_ne (a := z24.toInt) (b := 0) rfl (by decide) c25
                  obtain ⟨w50, ew50⟩ : ∃ z : Int32, z = (7 : Int32) := ⟨_, rfl⟩
                  have tw50 : w50.toInt = 7 := by rw [ew50]; decide
                  rw [show bk_X6_readTerm_76 rS 12 400 (lp_X6_readTerm_12 rS 12 400  N1) v1_1 v2_1 (7 : Int32) o_me_1 o_me_code_1 = bk_X6_readTerm_76 rS 12 400 (lp_X6_readTerm_12 rS 12 400  N1) v1_1 v2_1 w50 o_me_1 o_me_code_1 from by rw [ew50]]
                  unfold bk_X6_readTerm_76
                  refine wp_bd (s_X6_step   o_me_1  hI_me_1  hh14) (fun z51 hz51 => ?_)
                  obtain ⟨hz51_0, hz51_1, hz51_2⟩ := hz51
                  have hkpz51_me : Kp [2, 4] [0] [] o_me z51 := hkp_me_1.trans (hz51_1.mono (by decide) (by decide) (by decide))
                  have kz51_k52 : (gI z51 2).toInt = (gI o_me_1 2).toInt := congrArg Int32.toInt (hz51_1.1 2 (by decide))
                  have t54 := igX6_8 hz51_0
                  refine wp_bd (s_X6_readPart rS  z51 o_me_code_1 v1_1 (fun o c p h1 h2 h3 h4 h5 => hrS o c p h1 h2 (by omega) h4 h5) hz51_0 hI_me_code_1  ⟨hh10.1, hh10.2⟩ hz51_2) (fun z53 hz53 => ?_)
                  obtain ⟨hz53_0, hz53_1, hz53_2, hz53_3, hz53_4, hz53_5⟩ := hz53
                  have hkpz53_me : Kp [2, 4] [0] [] o_me z53.2.1 := hkpz51_me.trans (hz53_2.mono (by decide) (by decide) (by decide))
                  have kz53_k55 : (gI z53.2.1 2).toInt = (gI z51 2).toInt := congrArg Int32.toInt (hz53_2.1 2 (by decide))
                  have hkpz53_me_code : Kp [7] [1] [] o_me_code z53.2.2 := hkp_me_code_1.trans (hz53_4.mono (by decide) (by decide) (by decide))
                  refine wp_if (fun c56 => ?_) (fun c56 => ?_)
                  · have c56 := cv_eq (a := z53.1.toInt) (b := 0) rfl (by decide) c56
                    refine wp_some ?_
                    have t57 := igX6_8 hz53_1
                    exact (show (0 ≤ (0 : Int32).toInt ∧ (0 : Int32).toInt ≤ 1) ∧ IvX6 z53.2.1 ∧ Kp [2, 4] [0] [] o_me z53.2.1 ∧ IvX0 12 400 z53.2.2 ∧ Kp [7] [1] [] o_me_code z53.2.2 ∧ ((gI z53.2.1 8).toInt ≤ (gI z53.2.1 2).toInt + 0) from ⟨⟨by decide, by decide⟩, hz53_1, hkpz53_me, hz53_3, hkpz53_me_code, hz53_5⟩)
                  · have c56z := c56
                    have c56 := cv_ne (a := z53.1.toInt) (b := 0) rfl (by decide) c56
                    refine wp_bd (s_X0_add  12 400 z53.2.2 w50 (0 : Int32)  hz53_3  ) (fun z58 hz58 => ?_)
                    obtain ⟨hz58_0, hz58_1, hz58_2⟩ := hz58
                    have hkpz58_me_code : Kp [7] [1] [] o_me_code z58.2 := hkpz53_me_code.trans (hz58_2.mono (by decide) (by decide) (by decide))
                    refine wp_lt (fun x59 ex59 => ?_)
                    have tx59 : x59.toInt = v2_1.toInt + 1 := by rw [ex59]; exact i32_add rfl (by decide) (zk_l hh11.1 (by decide)) (zk_u (zlt_u (c := 399) c17 (by decide)) (by decide))
                    have t60 := igX6_8 hz53_1
                    exact ih1 v1_1 x59 z53.2.1 z58.2 hz53_1 hkpz53_me hz58_1 hkpz58_me_code ⟨hh10.1, hh10.2⟩ ⟨(zl_e (zq_r (c := (-1)) tx59 (by decide)) hh11.1 (by decide)), (zu_e (Int.le_of_eq tx59) (zlt_u (c := 399) c17 (by decide)) (by decide))⟩ ⟨(zl_e hz53_5 t60.1 (by decide)), (zu_e (zd_e (c := 0) (zq_0 kz53_k55) (zq_0 kz51_k52) (by decide)) hh12.2 (by decide))⟩ ⟨t60.1, (zu_e (zd_e (c := 0) (zd_e (c := 0) hz53_5 (zq_0 kz53_k55) (by decide)) (zq_0 kz51_k52) (by decide)) hh12.2 (by decide))⟩ hz53_5 hh15 hh16 (zms_u (c := 399) hN1 (zq_r (c := (-1)) tx59 (by decide)) (zlt_u (c := 399) c17 (by decide)) (by decide))
            · have c21z := c21
              have c21 := cv_ne (a := z20.toInt) (b := 0) rfl (by decide) c21
              unfold bk_X6_readTerm_46
              refine wp_bd (s_X6_isSign   o_me_1 (42 : Int32)  hI_me_1  ) (fun z61 hz61 => ?_)
              have hz61_0 := hz61
              refine wp_if (fun c62 => ?_) (fun c62 => ?_)
              · have c62 := cv_eq (a := z61.toInt) (b := 0) rfl (by decide) c62
                refine wp_bd (s_X6_isSign   o_me_1 (47 : Int32)  hI_me_1  ) (fun z63 hz63 => ?_)
                have hz63_0 := hz63
                refine wp_if (fun c64 => ?_) (fun c64 => ?_)
                · have c64 := cv_eq (a := z63.toInt) (b := 0) rfl (by decide) c64
                  obtain ⟨w65, ew65⟩ : ∃ z : Int32, z = (9 : Int32) := ⟨_, rfl⟩
                  have tw65 : w65.toInt = 9 := by rw [ew65]; decide
                  rw [show bk_X6_readTerm_76 rS 12 400 (lp_X6_readTerm_12 rS 12 400  N1) v1_1 v2_1 (9 : Int32) o_me_1 o_me_code_1 = bk_X6_readTerm_76 rS 12 400 (lp_X6_readTerm_12 rS 12 400  N1) v1_1 v2_1 w65 o_me_1 o_me_code_1 from by rw [ew65]]
                  unfold bk_X6_readTerm_76
                  refine wp_bd (s_X6_step   o_me_1  hI_me_1  hh14) (fun z66 hz66 => ?_)
                  obtain ⟨hz66_0, hz66_1, hz66_2⟩ := hz66
                  have hkpz66_me : Kp [2, 4] [0] [] o_me z66 := hkp_me_1.trans (hz66_1.mono (by decide) (by decide) (by decide))
                  have kz66_k67 : (gI z66 2).toInt = (gI o_me_1 2).toInt := congrArg Int32.toInt (hz66_1.1 2 (by decide))
                  have t69 := igX6_8 hz66_0
                  refine wp_bd (s_X6_readPart rS  z66 o_me_code_1 v1_1 (fun o c p h1 h2 h3 h4 h5 => hrS o c p h1 h2 (by omega) h4 h5) hz66_0 hI_me_code_1  ⟨hh10.1, hh10.2⟩ hz66_2) (fun z68 hz68 => ?_)
                  obtain ⟨hz68_0, hz68_1, hz68_2, hz68_3, hz68_4, hz68_5⟩ := hz68
                  have hkpz68_me : Kp [2, 4] [0] [] o_me z68.2.1 := hkpz66_me.trans (hz68_2.mono (by decide) (by decide) (by decide))
                  have kz68_k70 : (gI z68.2.1 2).toInt = (gI z66 2).toInt := congrArg Int32.toInt (hz68_2.1 2 (by decide))
                  have hkpz68_me_code : Kp [7] [1] [] o_me_code z68.2.2 := hkp_me_code_1.trans (hz68_4.mono (by decide) (by decide) (by decide))
                  refine wp_if (fun c71 => ?_) (fun c71 => ?_)
                  · have c71 := cv_eq (a := z68.1.toInt) (b := 0) rfl (by decide) c71
                    refine wp_some ?_
                    have t72 := igX6_8 hz68_1
                    exact (show (0 ≤ (0 : Int32).toInt ∧ (0 : Int32).toInt ≤ 1) ∧ IvX6 z68.2.1 ∧ Kp [2, 4] [0] [] o_me z68.2.1 ∧ IvX0 12 400 z68.2.2 ∧ Kp [7] [1] [] o_me_code z68.2.2 ∧ ((gI z68.2.1 8).toInt ≤ (gI z68.2.1 2).toInt + 0) from ⟨⟨by decide, by decide⟩, hz68_1, hkpz68_me, hz68_3, hkpz68_me_code, hz68_5⟩)
                  · have c71z := c71
                    have c71 := cv_ne (a := z68.1.toInt) (b := 0) rfl (by decide) c71
                    refine wp_bd (s_X0_add  12 400 z68.2.2 w65 (0 : Int32)  hz68_3  ) (fun z73 hz73 => ?_)
                    obtain ⟨hz73_0, hz73_1, hz73_2⟩ := hz73
                    have hkpz73_me_code : Kp [7] [1] [] o_me_code z73.2 := hkpz68_me_code.trans (hz73_2.mono (by decide) (by decide) (by decide))
                    refine wp_lt (fun x74 ex74 => ?_)
                    have tx74 : x74.toInt = v2_1.toInt + 1 := by rw [ex74]; exact i32_add rfl (by decide) (zk_l hh11.1 (by decide)) (zk_u (zlt_u (c := 399) c17 (by decide)) (by decide))
                    have t75 := igX6_8 hz68_1
                    exact ih1 v1_1 x74 z68.2.1 z73.2 hz68_1 hkpz68_me hz73_1 hkpz73_me_code ⟨hh10.1, hh10.2⟩ ⟨(zl_e (zq_r (c := (-1)) tx74 (by decide)) hh11.1 (by decide)), (zu_e (Int.le_of_eq tx74) (zlt_u (c := 399) c17 (by decide)) (by decide))⟩ ⟨(zl_e hz68_5 t75.1 (by decide)), (zu_e (zd_e (c := 0) (zq_0 kz68_k70) (zq_0 kz66_k67) (by decide)) hh12.2 (by decide))⟩ ⟨t75.1, (zu_e (zd_e (c := 0) (zd_e (c := 0) hz68_5 (zq_0 kz68_k70) (by decide)) (zq_0 kz66_k67) (by decide)) hh12.2 (by decide))⟩ hz68_5 hh15 hh16 (zms_u (c := 399) hN1 (zq_r (c := (-1)) tx74 (by decide)) (zlt_u (c := 399) c17 (by decide)) (by decide))
                · have c64z := c64
                  have c64 := cv_ne (a := z63.toInt) (b := 0) rfl (by decide) c64
                  obtain ⟨w76, ew76⟩ : ∃ z : Int32, z = (8 : Int32) := ⟨_, rfl⟩
                  have tw76 : w76.toInt = 8 := by rw [ew76]; decide
                  rw [show bk_X6_readTerm_76 rS 12 400 (lp_X6_readTerm_12 rS 12 400  N1) v1_1 v2_1 (8 : Int32) o_me_1 o_me_code_1 = bk_X6_readTerm_76 rS 12 400 (lp_X6_readTerm_12 rS 12 400  N1) v1_1 v2_1 w76 o_me_1 o_me_code_1 from by rw [ew76]]
                  unfold bk_X6_readTerm_76
                  refine wp_bd (s_X6_step   o_me_1  hI_me_1  hh14) (fun z77 hz77 => ?_)
                  obtain ⟨hz77_0, hz77_1, hz77_2⟩ := hz77
                  have hkpz77_me : Kp [2, 4] [0] [] o_me z77 := hkp_me_1.trans (hz77_1.mono (by decide) (by decide) (by decide))
                  have kz77_k78 : (gI z77 2).toInt = (gI o_me_1 2).toInt := congrArg Int32.toInt (hz77_1.1 2 (by decide))
                  have t80 := igX6_8 hz77_0
                  refine wp_bd (s_X6_readPart rS  z77 o_me_code_1 v1_1 (fun o c p h1 h2 h3 h4 h5 => hrS o c p h1 h2 (by omega) h4 h5) hz77_0 hI_me_code_1  ⟨hh10.1, hh10.2⟩ hz77_2) (fun z79 hz79 => ?_)
                  obtain ⟨hz79_0, hz79_1, hz79_2, hz79_3, hz79_4, hz79_5⟩ := hz79
                  have hkpz79_me : Kp [2, 4] [0] [] o_me z79.2.1 := hkpz77_me.trans (hz79_2.mono (by decide) (by decide) (by decide))
                  have kz79_k81 : (gI z79.2.1 2).toInt = (gI z77 2).toInt := congrArg Int32.toInt (hz79_2.1 2 (by decide))
                  have hkpz79_me_code : Kp [7] [1] [] o_me_code z79.2.2 := hkp_me_code_1.trans (hz79_4.mono (by decide) (by decide) (by decide))
                  refine wp_if (fun c82 => ?_) (fun c82 => ?_)
                  · have c82 := cv_eq (a := z79.1.toInt) (b := 0) rfl (by decide) c82
                    refine wp_some ?_
                    have t83 := igX6_8 hz79_1
                    exact (show (0 ≤ (0 : Int32).toInt ∧ (0 : Int32).toInt ≤ 1) ∧ IvX6 z79.2.1 ∧ Kp [2, 4] [0] [] o_me z79.2.1 ∧ IvX0 12 400 z79.2.2 ∧ Kp [7] [1] [] o_me_code z79.2.2 ∧ ((gI z79.2.1 8).toInt ≤ (gI z79.2.1 2).toInt + 0) from ⟨⟨by decide, by decide⟩, hz79_1, hkpz79_me, hz79_3, hkpz79_me_code, hz79_5⟩)
                  · have c82z := c82
                    have c82 := cv_ne (a := z79.1.toInt) (b := 0) rfl (by decide) c82
                    refine wp_bd (s_X0_add  12 400 z79.2.2 w76 (0 : Int32)  hz79_3  ) (fun z84 hz84 => ?_)
                    obtain ⟨hz84_0, hz84_1, hz84_2⟩ := hz84
                    have hkpz84_me_code : Kp [7] [1] [] o_me_code z84.2 := hkpz79_me_code.trans (hz84_2.mono (by decide) (by decide) (by decide))
                    refine wp_lt (fun x85 ex85 => ?_)
                    have tx85 : x85.toInt = v2_1.toInt + 1 := by rw [ex85]; exact i32_add rfl (by decide) (zk_l hh11.1 (by decide)) (zk_u (zlt_u (c := 399) c17 (by decide)) (by decide))
                    have t86 := igX6_8 hz79_1
                    exact ih1 v1_1 x85 z79.2.1 z84.2 hz79_1 hkpz79_me hz84_1 hkpz84_me_code ⟨hh10.1, hh10.2⟩ ⟨(zl_e (zq_r (c := (-1)) tx85 (by decide)) hh11.1 (by decide)), (zu_e (Int.le_of_eq tx85) (zlt_u (c := 399) c17 (by decide)) (by decide))⟩ ⟨(zl_e hz79_5 t86.1 (by decide)), (zu_e (zd_e (c := 0) (zq_0 kz79_k81) (zq_0 kz77_k78) (by decide)) hh12.2 (by decide))⟩ ⟨t86.1, (zu_e (zd_e (c := 0) (zd_e (c := 0) hz79_5 (zq_0 kz79_k81) (by decide)) (zq_0 kz77_k78) (by decide)) hh12.2 (by decide))⟩ hz79_5 hh15 hh16 (zms_u (c := 399) hN1 (zq_r (c := (-1)) tx85 (by decide)) (zlt_u (c := 399) c17 (by decide)) (by decide))
              · have c62z := c62
                have c62 := cv_ne (a := z61.toInt) (b := 0) rfl (by decide) c62
                obtain ⟨w87, ew87⟩ : ∃ z : Int32, z = (7 : Int32) := ⟨_, rfl⟩
                have tw87 : w87.toInt = 7 := by rw [ew87]; decide
                rw [show bk_X6_readTerm_76 rS 12 400 (lp_X6_readTerm_12 rS 12 400  N1) v1_1 v2_1 (7 : Int32) o_me_1 o_me_code_1 = bk_X6_readTerm_76 rS 12 400 (lp_X6_readTerm_12 rS 12 400  N1) v1_1 v2_1 w87 o_me_1 o_me_code_1 from by rw [ew87]]
                unfold bk_X6_readTerm_76
                refine wp_bd (s_X6_step   o_me_1  hI_me_1  hh14) (fun z88 hz88 => ?_)
                obtain ⟨hz88_0, hz88_1, hz88_2⟩ := hz88
                have hkpz88_me : Kp [2, 4] [0] [] o_me z88 := hkp_me_1.trans (hz88_1.mono (by decide) (by decide) (by decide))
                have kz88_k89 : (gI z88 2).toInt = (gI o_me_1 2).toInt := congrArg Int32.toInt (hz88_1.1 2 (by decide))
                have t91 := igX6_8 hz88_0
                refine wp_bd (s_X6_readPart rS  z88 o_me_code_1 v1_1 (fun o c p h1 h2 h3 h4 h5 => hrS o c p h1 h2 (by omega) h4 h5) hz88_0 hI_me_code_1  ⟨hh10.1, hh10.2⟩ hz88_2) (fun z90 hz90 => ?_)
                obtain ⟨hz90_0, hz90_1, hz90_2, hz90_3, hz90_4, hz90_5⟩ := hz90
                have hkpz90_me : Kp [2, 4] [0] [] o_me z90.2.1 := hkpz88_me.trans (hz90_2.mono (by decide) (by decide) (by decide))
                have kz90_k92 : (gI z90.2.1 2).toInt = (gI z88 2).toInt := congrArg Int32.toInt (hz90_2.1 2 (by decide))
                have hkpz90_me_code : Kp [7] [1] [] o_me_code z90.2.2 := hkp_me_code_1.trans (hz90_4.mono (by decide) (by decide) (by decide))
                refine wp_if (fun c93 => ?_) (fun c93 => ?_)
                · have c93 := cv_eq (a := z90.1.toInt) (b := 0) rfl (by decide) c93
                  refine wp_some ?_
                  have t94 := igX6_8 hz90_1
                  exact (show (0 ≤ (0 : Int32).toInt ∧ (0 : Int32).toInt ≤ 1) ∧ IvX6 z90.2.1 ∧ Kp [2, 4] [0] [] o_me z90.2.1 ∧ IvX0 12 400 z90.2.2 ∧ Kp [7] [1] [] o_me_code z90.2.2 ∧ ((gI z90.2.1 8).toInt ≤ (gI z90.2.1 2).toInt + 0) from ⟨⟨by decide, by decide⟩, hz90_1, hkpz90_me, hz90_3, hkpz90_me_code, hz90_5⟩)
                · have c93z := c93
                  have c93 := cv_ne (a := z90.1.toInt) (b := 0) rfl (by decide) c93
                  refine wp_bd (s_X0_add  12 400 z90.2.2 w87 (0 : Int32)  hz90_3  ) (fun z95 hz95 => ?_)
                  obtain ⟨hz95_0, hz95_1, hz95_2⟩ := hz95
                  have hkpz95_me_code : Kp [7] [1] [] o_me_code z95.2 := hkpz90_me_code.trans (hz95_2.mono (by decide) (by decide) (by decide))
                  refine wp_lt (fun x96 ex96 => ?_)
                  have tx96 : x96.toInt = v2_1.toInt + 1 := by rw [ex96]; exact i32_add rfl (by decide) (zk_l hh11.1 (by decide)) (zk_u (zlt_u (c := 399) c17 (by decide)) (by decide))
                  have t97 := igX6_8 hz90_1
                  exact ih1 v1_1 x96 z90.2.1 z95.2 hz90_1 hkpz90_me hz95_1 hkpz95_me_code ⟨hh10.1, hh10.2⟩ ⟨(zl_e (zq_r (c := (-1)) tx96 (by decide)) hh11.1 (by decide)), (zu_e (Int.le_of_eq tx96) (zlt_u (c := 399) c17 (by decide)) (by decide))⟩ ⟨(zl_e hz90_5 t97.1 (by decide)), (zu_e (zd_e (c := 0) (zq_0 kz90_k92) (zq_0 kz88_k89) (by decide)) hh12.2 (by decide))⟩ ⟨t97.1, (zu_e (zd_e (c := 0) (zd_e (c := 0) hz90_5 (zq_0 kz90_k92) (by decide)) (zq_0 kz88_k89) (by decide)) hh12.2 (by decide))⟩ hz90_5 hh15 hh16 (zms_u (c := 399) hN1 (zq_r (c := (-1)) tx96 (by decide)) (zlt_u (c := 399) c17 (by decide)) (by decide))
          · have c19z := c19
            have c19 := cv_ne (a := z18.toInt) (b := 0) rfl (by decide) c19
            unfold bk_X6_readTerm_46
            refine wp_bd (s_X6_isSign   o_me_1 (42 : Int32)  hI_me_1  ) (fun z98 hz98 => ?_)
            have hz98_0 := hz98
            refine wp_if (fun c99 => ?_) (fun c99 => ?_)
            · have c99 := cv_eq (a := z98.toInt) (b := 0) rfl (by decide) c99
              refine wp_bd (s_X6_isSign   o_me_1 (47 : Int32)  hI_me_1  ) (fun z100 hz100 => ?_)
              have hz100_0 := hz100
              refine wp_if (fun c101 => ?_) (fun c101 => ?_)
              · have c101 := cv_eq (a := z100.toInt) (b := 0) rfl (by decide) c101
                obtain ⟨w102, ew102⟩ : ∃ z : Int32, z = (9 : Int32) := ⟨_, rfl⟩
                have tw102 : w102.toInt = 9 := by rw [ew102]; decide
                rw [show bk_X6_readTerm_76 rS 12 400 (lp_X6_readTerm_12 rS 12 400  N1) v1_1 v2_1 (9 : Int32) o_me_1 o_me_code_1 = bk_X6_readTerm_76 rS 12 400 (lp_X6_readTerm_12 rS 12 400  N1) v1_1 v2_1 w102 o_me_1 o_me_code_1 from by rw [ew102]]
                unfold bk_X6_readTerm_76
                refine wp_bd (s_X6_step   o_me_1  hI_me_1  hh14) (fun z103 hz103 => ?_)
                obtain ⟨hz103_0, hz103_1, hz103_2⟩ := hz103
                have hkpz103_me : Kp [2, 4] [0] [] o_me z103 := hkp_me_1.trans (hz103_1.mono (by decide) (by decide) (by decide))
                have kz103_k104 : (gI z103 2).toInt = (gI o_me_1 2).toInt := congrArg Int32.toInt (hz103_1.1 2 (by decide))
                have t106 := igX6_8 hz103_0
                refine wp_bd (s_X6_readPart rS  z103 o_me_code_1 v1_1 (fun o c p h1 h2 h3 h4 h5 => hrS o c p h1 h2 (by omega) h4 h5) hz103_0 hI_me_code_1  ⟨hh10.1, hh10.2⟩ hz103_2) (fun z105 hz105 => ?_)
                obtain ⟨hz105_0, hz105_1, hz105_2, hz105_3, hz105_4, hz105_5⟩ := hz105
                have hkpz105_me : Kp [2, 4] [0] [] o_me z105.2.1 := hkpz103_me.trans (hz105_2.mono (by decide) (by decide) (by decide))
                have kz105_k107 : (gI z105.2.1 2).toInt = (gI z103 2).toInt := congrArg Int32.toInt (hz105_2.1 2 (by decide))
                have hkpz105_me_code : Kp [7] [1] [] o_me_code z105.2.2 := hkp_me_code_1.trans (hz105_4.mono (by decide) (by decide) (by decide))
                refine wp_if (fun c108 => ?_) (fun c108 => ?_)
                · have c108 := cv_eq (a := z105.1.toInt) (b := 0) rfl (by decide) c108
                  refine wp_some ?_
                  have t109 := igX6_8 hz105_1
                  exact (show (0 ≤ (0 : Int32).toInt ∧ (0 : Int32).toInt ≤ 1) ∧ IvX6 z105.2.1 ∧ Kp [2, 4] [0] [] o_me z105.2.1 ∧ IvX0 12 400 z105.2.2 ∧ Kp [7] [1] [] o_me_code z105.2.2 ∧ ((gI z105.2.1 8).toInt ≤ (gI z105.2.1 2).toInt + 0) from ⟨⟨by decide, by decide⟩, hz105_1, hkpz105_me, hz105_3, hkpz105_me_code, hz105_5⟩)
                · have c108z := c108
                  have c108 := cv_ne (a := z105.1.toInt) (b := 0) rfl (by decide) c108
                  refine wp_bd (s_X0_add  12 400 z105.2.2 w102 (0 : Int32)  hz105_3  ) (fun z110 hz110 => ?_)
                  obtain ⟨hz110_0, hz110_1, hz110_2⟩ := hz110
                  have hkpz110_me_code : Kp [7] [1] [] o_me_code z110.2 := hkpz105_me_code.trans (hz110_2.mono (by decide) (by decide) (by decide))
                  refine wp_lt (fun x111 ex111 => ?_)
                  have tx111 : x111.toInt = v2_1.toInt + 1 := by rw [ex111]; exact i32_add rfl (by decide) (zk_l hh11.1 (by decide)) (zk_u (zlt_u (c := 399) c17 (by decide)) (by decide))
                  have t112 := igX6_8 hz105_1
                  exact ih1 v1_1 x111 z105.2.1 z110.2 hz105_1 hkpz105_me hz110_1 hkpz110_me_code ⟨hh10.1, hh10.2⟩ ⟨(zl_e (zq_r (c := (-1)) tx111 (by decide)) hh11.1 (by decide)), (zu_e (Int.le_of_eq tx111) (zlt_u (c := 399) c17 (by decide)) (by decide))⟩ ⟨(zl_e hz105_5 t112.1 (by decide)), (zu_e (zd_e (c := 0) (zq_0 kz105_k107) (zq_0 kz103_k104) (by decide)) hh12.2 (by decide))⟩ ⟨t112.1, (zu_e (zd_e (c := 0) (zd_e (c := 0) hz105_5 (zq_0 kz105_k107) (by decide)) (zq_0 kz103_k104) (by decide)) hh12.2 (by decide))⟩ hz105_5 hh15 hh16 (zms_u (c := 399) hN1 (zq_r (c := (-1)) tx111 (by decide)) (zlt_u (c := 399) c17 (by decide)) (by decide))
              · have c101z := c101
                have c101 := cv_ne (a := z100.toInt) (b := 0) rfl (by decide) c101
                obtain ⟨w113, ew113⟩ : ∃ z : Int32, z = (8 : Int32) := ⟨_, rfl⟩
                have tw113 : w113.toInt = 8 := by rw [ew113]; decide
                rw [show bk_X6_readTerm_76 rS 12 400 (lp_X6_readTerm_12 rS 12 400  N1) v1_1 v2_1 (8 : Int32) o_me_1 o_me_code_1 = bk_X6_readTerm_76 rS 12 400 (lp_X6_readTerm_12 rS 12 400  N1) v1_1 v2_1 w113 o_me_1 o_me_code_1 from by rw [ew113]]
                unfold bk_X6_readTerm_76
                refine wp_bd (s_X6_step   o_me_1  hI_me_1  hh14) (fun z114 hz114 => ?_)
                obtain ⟨hz114_0, hz114_1, hz114_2⟩ := hz114
                have hkpz114_me : Kp [2, 4] [0] [] o_me z114 := hkp_me_1.trans (hz114_1.mono (by decide) (by decide) (by decide))
                have kz114_k115 : (gI z114 2).toInt = (gI o_me_1 2).toInt := congrArg Int32.toInt (hz114_1.1 2 (by decide))
                have t117 := igX6_8 hz114_0
                refine wp_bd (s_X6_readPart rS  z114 o_me_code_1 v1_1 (fun o c p h1 h2 h3 h4 h5 => hrS o c p h1 h2 (by omega) h4 h5) hz114_0 hI_me_code_1  ⟨hh10.1, hh10.2⟩ hz114_2) (fun z116 hz116 => ?_)
                obtain ⟨hz116_0, hz116_1, hz116_2, hz116_3, hz116_4, hz116_5⟩ := hz116
                have hkpz116_me : Kp [2, 4] [0] [] o_me z116.2.1 := hkpz114_me.trans (hz116_2.mono (by decide) (by decide) (by decide))
                have kz116_k118 : (gI z116.2.1 2).toInt = (gI z114 2).toInt := congrArg Int32.toInt (hz116_2.1 2 (by decide))
                have hkpz116_me_code : Kp [7] [1] [] o_me_code z116.2.2 := hkp_me_code_1.trans (hz116_4.mono (by decide) (by decide) (by decide))
                refine wp_if (fun c119 => ?_) (fun c119 => ?_)
                · have c119 := cv_eq (a := z116.1.toInt) (b := 0) rfl (by decide) c119
                  refine wp_some ?_
                  have t120 := igX6_8 hz116_1
                  exact (show (0 ≤ (0 : Int32).toInt ∧ (0 : Int32).toInt ≤ 1) ∧ IvX6 z116.2.1 ∧ Kp [2, 4] [0] [] o_me z116.2.1 ∧ IvX0 12 400 z116.2.2 ∧ Kp [7] [1] [] o_me_code z116.2.2 ∧ ((gI z116.2.1 8).toInt ≤ (gI z116.2.1 2).toInt + 0) from ⟨⟨by decide, by decide⟩, hz116_1, hkpz116_me, hz116_3, hkpz116_me_code, hz116_5⟩)
                · have c119z := c119
                  have c119 := cv_ne (a := z116.1.toInt) (b := 0) rfl (by decide) c119
                  refine wp_bd (s_X0_add  12 400 z116.2.2 w113 (0 : Int32)  hz116_3  ) (fun z121 hz121 => ?_)
                  obtain ⟨hz121_0, hz121_1, hz121_2⟩ := hz121
                  have hkpz121_me_code : Kp [7] [1] [] o_me_code z121.2 := hkpz116_me_code.trans (hz121_2.mono (by decide) (by decide) (by decide))
                  refine wp_lt (fun x122 ex122 => ?_)
                  have tx122 : x122.toInt = v2_1.toInt + 1 := by rw [ex122]; exact i32_add rfl (by decide) (zk_l hh11.1 (by decide)) (zk_u (zlt_u (c := 399) c17 (by decide)) (by decide))
                  have t123 := igX6_8 hz116_1
                  exact ih1 v1_1 x122 z116.2.1 z121.2 hz116_1 hkpz116_me hz121_1 hkpz121_me_code ⟨hh10.1, hh10.2⟩ ⟨(zl_e (zq_r (c := (-1)) tx122 (by decide)) hh11.1 (by decide)), (zu_e (Int.le_of_eq tx122) (zlt_u (c := 399) c17 (by decide)) (by decide))⟩ ⟨(zl_e hz116_5 t123.1 (by decide)), (zu_e (zd_e (c := 0) (zq_0 kz116_k118) (zq_0 kz114_k115) (by decide)) hh12.2 (by decide))⟩ ⟨t123.1, (zu_e (zd_e (c := 0) (zd_e (c := 0) hz116_5 (zq_0 kz116_k118) (by decide)) (zq_0 kz114_k115) (by decide)) hh12.2 (by decide))⟩ hz116_5 hh15 hh16 (zms_u (c := 399) hN1 (zq_r (c := (-1)) tx122 (by decide)) (zlt_u (c := 399) c17 (by decide)) (by decide))
            · have c99z := c99
              have c99 := cv_ne (a := z98.toInt) (b := 0) rfl (by decide) c99
              obtain ⟨w124, ew124⟩ : ∃ z : Int32, z = (7 : Int32) := ⟨_, rfl⟩
              have tw124 : w124.toInt = 7 := by rw [ew124]; decide
              rw [show bk_X6_readTerm_76 rS 12 400 (lp_X6_readTerm_12 rS 12 400  N1) v1_1 v2_1 (7 : Int32) o_me_1 o_me_code_1 = bk_X6_readTerm_76 rS 12 400 (lp_X6_readTerm_12 rS 12 400  N1) v1_1 v2_1 w124 o_me_1 o_me_code_1 from by rw [ew124]]
              unfold bk_X6_readTerm_76
              refine wp_bd (s_X6_step   o_me_1  hI_me_1  hh14) (fun z125 hz125 => ?_)
              obtain ⟨hz125_0, hz125_1, hz125_2⟩ := hz125
              have hkpz125_me : Kp [2, 4] [0] [] o_me z125 := hkp_me_1.trans (hz125_1.mono (by decide) (by decide) (by decide))
              have kz125_k126 : (gI z125 2).toInt = (gI o_me_1 2).toInt := congrArg Int32.toInt (hz125_1.1 2 (by decide))
              have t128 := igX6_8 hz125_0
              refine wp_bd (s_X6_readPart rS  z125 o_me_code_1 v1_1 (fun o c p h1 h2 h3 h4 h5 => hrS o c p h1 h2 (by omega) h4 h5) hz125_0 hI_me_code_1  ⟨hh10.1, hh10.2⟩ hz125_2) (fun z127 hz127 => ?_)
              obtain ⟨hz127_0, hz127_1, hz127_2, hz127_3, hz127_4, hz127_5⟩ := hz127
              have hkpz127_me : Kp [2, 4] [0] [] o_me z127.2.1 := hkpz125_me.trans (hz127_2.mono (by decide) (by decide) (by decide))
              have kz127_k129 : (gI z127.2.1 2).toInt = (gI z125 2).toInt := congrArg Int32.toInt (hz127_2.1 2 (by decide))
              have hkpz127_me_code : Kp [7] [1] [] o_me_code z127.2.2 := hkp_me_code_1.trans (hz127_4.mono (by decide) (by decide) (by decide))
              refine wp_if (fun c130 => ?_) (fun c130 => ?_)
              · have c130 := cv_eq (a := z127.1.toInt) (b := 0) rfl (by decide) c130
                refine wp_some ?_
                have t131 := igX6_8 hz127_1
                exact (show (0 ≤ (0 : Int32).toInt ∧ (0 : Int32).toInt ≤ 1) ∧ IvX6 z127.2.1 ∧ Kp [2, 4] [0] [] o_me z127.2.1 ∧ IvX0 12 400 z127.2.2 ∧ Kp [7] [1] [] o_me_code z127.2.2 ∧ ((gI z127.2.1 8).toInt ≤ (gI z127.2.1 2).toInt + 0) from ⟨⟨by decide, by decide⟩, hz127_1, hkpz127_me, hz127_3, hkpz127_me_code, hz127_5⟩)
              · have c130z := c130
                have c130 := cv_ne (a := z127.1.toInt) (b := 0) rfl (by decide) c130
                refine wp_bd (s_X0_add  12 400 z127.2.2 w124 (0 : Int32)  hz127_3  ) (fun z132 hz132 => ?_)
                obtain ⟨hz132_0, hz132_1, hz132_2⟩ := hz132
                have hkpz132_me_code : Kp [7] [1] [] o_me_code z132.2 := hkpz127_me_code.trans (hz132_2.mono (by decide) (by decide) (by decide))
                refine wp_lt (fun x133 ex133 => ?_)
                have tx133 : x133.toInt = v2_1.toInt + 1 := by rw [ex133]; exact i32_add rfl (by decide) (zk_l hh11.1 (by decide)) (zk_u (zlt_u (c := 399) c17 (by decide)) (by decide))
                have t134 := igX6_8 hz127_1
                exact ih1 v1_1 x133 z127.2.1 z132.2 hz127_1 hkpz127_me hz132_1 hkpz132_me_code ⟨hh10.1, hh10.2⟩ ⟨(zl_e (zq_r (c := (-1)) tx133 (by decide)) hh11.1 (by decide)), (zu_e (Int.le_of_eq tx133) (zlt_u (c := 399) c17 (by decide)) (by decide))⟩ ⟨(zl_e hz127_5 t134.1 (by decide)), (zu_e (zd_e (c := 0) (zq_0 kz127_k129) (zq_0 kz125_k126) (by decide)) hh12.2 (by decide))⟩ ⟨t134.1, (zu_e (zd_e (c := 0) (zd_e (c := 0) hz127_5 (zq_0 kz127_k129) (by decide)) (zq_0 kz125_k126) (by decide)) hh12.2 (by decide))⟩ hz127_5 hh15 hh16 (zms_u (c := 399) hN1 (zq_r (c := (-1)) tx133 (by decide)) (zlt_u (c := 399) c17 (by decide)) (by decide))
    have t135 := igX6_8 hz1_1
    exact lp1 zfu p0 (0 : Int32) z1.2.1 z1.2.2 hz1_1 hkpz1_me hz1_3 hkpz1_me_code ⟨q0.1, q0.2⟩ ⟨by decide, by decide⟩ ⟨(zl_e (zq_0 kz1_k4.symm) t3.1 (by decide)), (zu_e (zq_0 kz1_k4) t3.2 (by decide))⟩ ⟨t135.1, (zu_e (zd_e (c := 0) hz1_5 (zq_0 kz1_k4) (by decide)) t3.2 (by decide))⟩ hz1_5 (zd_r (by decide)) (zd_r (by decide)) (zme_u (l := 0) (Int.le_of_eq tz0.symm) (by decide))

set_option maxHeartbeats 4000000 in
set_option maxRecDepth 100000 in
theorem s_X6_readSum (rS : Ob → Ob → Int32 → Option (Int32 × Ob × Ob)) (o_me : Ob) (o_me_code : Ob) (p0 : Int32) (hrS : ∀ (o9 c9 : Ob) (p9 : Int32), IvX6 o9 → IvX0 12 400 c9 → p0.toInt < p9.toInt → 0 ≤ p9.toInt ∧ p9.toInt ≤ 8 → (gI o9 8).toInt ≤ (gI o9 2).toInt + 0 → wp (rS o9 c9 p9) (fun (y : Int32 × Ob × Ob) => (0 ≤ y.1.toInt ∧ y.1.toInt ≤ 1) ∧ IvX6 y.2.1 ∧ Kp [2, 4] [0] [] o9 y.2.1 ∧ IvX0 12 400 y.2.2 ∧ Kp [7] [1] [] c9 y.2.2 ∧ ((gI y.2.1 8).toInt ≤ (gI y.2.1 2).toInt + 0))) (hI_me : IvX6 o_me) (hI_me_code : IvX0 12 400 o_me_code) (q0 : 0 ≤ p0.toInt ∧ p0.toInt ≤ 8) (r0 : (gI o_me 8).toInt ≤ (gI o_me 2).toInt + 0) : wp (f_X6_readSum rS 12 400 o_me o_me_code p0) (fun (y : Int32 × Ob × Ob) => (0 ≤ y.1.toInt ∧ y.1.toInt ≤ 1) ∧ IvX6 y.2.1 ∧ Kp [2, 4] [0] [] o_me y.2.1 ∧ IvX0 12 400 y.2.2 ∧ Kp [7] [1] [] o_me_code y.2.2 ∧ ((gI y.2.1 8).toInt ≤ (gI y.2.1 2).toInt + 0)) := by
  have li0 : (0 : Int32).toInt = 0 := by decide
  have li1 : (1 : Int32).toInt = 1 := by decide
  have li2 : (400 : Int32).toInt = 400 := by decide
  have li3 : (43 : Int32).toInt = 43 := by decide
  have li4 : (45 : Int32).toInt = 45 := by decide
  have li5 : (5 : Int32).toInt = 5 := by decide
  have li6 : (6 : Int32).toInt = 6 := by decide
  unfold f_X6_readSum
  have t2 := igX6_8 hI_me
  have t3 := igX6_2 hI_me
  refine wp_bd (s_X6_readTerm rS  o_me o_me_code p0 (fun o c p h1 h2 h3 h4 h5 => hrS o c p h1 h2 (by omega) h4 h5) hI_me hI_me_code  ⟨q0.1, q0.2⟩ r0) (fun z1 hz1 => ?_)
  obtain ⟨hz1_0, hz1_1, hz1_2, hz1_3, hz1_4, hz1_5⟩ := hz1
  have hkpz1_me : Kp [2, 4] [0] [] o_me z1.2.1 := Kp.rf.trans (hz1_2.mono (by decide) (by decide) (by decide))
  have kz1_k4 : (gI z1.2.1 2).toInt = (gI o_me 2).toInt := congrArg Int32.toInt (hz1_2.1 2 (by decide))
  have hkpz1_me_code : Kp [7] [1] [] o_me_code z1.2.2 := Kp.rf.trans (hz1_4.mono (by decide) (by decide) (by decide))
  refine wp_if (fun c5 => ?_) (fun c5 => ?_)
  · have c5 := cv_eq (a := z1.1.toInt) (b := 0) rfl (by decide) c5
    refine wp_some ?_
    have t6 := igX6_8 hz1_1
    exact (show (0 ≤ (0 : Int32).toInt ∧ (0 : Int32).toInt ≤ 1) ∧ IvX6 z1.2.1 ∧ Kp [2, 4] [0] [] o_me z1.2.1 ∧ IvX0 12 400 z1.2.2 ∧ Kp [7] [1] [] o_me_code z1.2.2 ∧ ((gI z1.2.1 8).toInt ≤ (gI z1.2.1 2).toInt + 0) from ⟨⟨by decide, by decide⟩, hz1_1, hkpz1_me, hz1_3, hkpz1_me_code, hz1_5⟩)
  · have c5z := c5
    have c5 := cv_ne (a := z1.1.toInt) (b := 0) rfl (by decide) c5
    have lp1 : ∀ (N1 : Nat) (v1_1 : Int32) (v2_1 : Int32) (o_me_1 : Ob) (o_me_code_1 : Ob), IvX6 o_me_1 → Kp [2, 4] [0] [] o_me o_me_1 → IvX0 12 400 o_me_code_1 → Kp [7] [1] [] o_me_code o_me_code_1 → (0 ≤ v1_1.toInt ∧ v1_1.toInt ≤ 8) → (0 ≤ v2_1.toInt ∧ v2_1.toInt ≤ 400) → (0 ≤ (gI o_me_1 2).toInt ∧ (gI o_me_1 2).toInt ≤ 400) → (0 ≤ (gI o_me_1 8).toInt ∧ (gI o_me_1 8).toInt ≤ 400) → ((gI o_me_1 8).toInt ≤ (gI o_me_1 2).toInt + 0) → (v1_1.toInt ≤ p0.toInt + 0) → (p0.toInt ≤ v1_1.toInt + 0) → (400 - v2_1.toInt).toNat < N1 → wp (lp_X6_readSum_12 rS 12 400  N1 (v1_1, v2_1, o_me_1, o_me_code_1)) (fun (y : Int32 × Ob × Ob) => (0 ≤ y.1.toInt ∧ y.1.toInt ≤ 1) ∧ IvX6 y.2.1 ∧ Kp [2, 4] [0] [] o_me y.2.1 ∧ IvX0 12 400 y.2.2 ∧ Kp [7] [1] [] o_me_code y.2.2 ∧ ((gI y.2.1 8).toInt ≤ (gI y.2.1 2).toInt + 0)) := by
      intro N1
      induction N1 with
      | zero =>
        intro v1_1 v2_1 o_me_1 o_me_code_1 hI_me_1 hkp_me_1 hI_me_code_1 hkp_me_code_1 hh10 hh11 hh12 hh13 hh14 hh15 hh16 hN1
        exact absurd hN1 (Nat.not_lt_zero _)
      | succ N1 ihx =>
        have ih1 := ihx
        intro v1_1 v2_1 o_me_1 o_me_code_1 hI_me_1 hkp_me_1 hI_me_code_1 hkp_me_code_1 hh10 hh11 hh12 hh13 hh14 hh15 hh16 hN1
        show wp (lb_X6_readSum_12 rS 12 400  (lp_X6_readSum_12 rS 12 400  N1) v1_1 v2_1 o_me_1 o_me_code_1) (fun (y : Int32 × Ob × Ob) => (0 ≤ y.1.toInt ∧ y.1.toInt ≤ 1) ∧ IvX6 y.2.1 ∧ Kp [2, 4] [0] [] o_me y.2.1 ∧ IvX0 12 400 y.2.2 ∧ Kp [7] [1] [] o_me_code y.2.2 ∧ ((gI y.2.1 8).toInt ≤ (gI y.2.1 2).toInt + 0))
        unfold lb_X6_readSum_12
        refine wp_if (fun c17 => ?_) (fun c17 => ?_)
        · have c17 := cv_ge (a := v2_1.toInt) (b := 400) rfl (by decide) c17
          refine wp_some ?_
          exact (show (0 ≤ (1 : Int32).toInt ∧ (1 : Int32).toInt ≤ 1) ∧ IvX6 o_me_1 ∧ Kp [2, 4] [0] [] o_me o_me_1 ∧ IvX0 12 400 o_me_code_1 ∧ Kp [7] [1] [] o_me_code o_me_code_1 ∧ ((gI o_me_1 8).toInt ≤ (gI o_me_1 2).toInt + 0) from ⟨⟨by decide, by decide⟩, hI_me_1, hkp_me_1, hI_me_code_1, hkp_me_code_1, hh14⟩)
        · have c17 := cv_nge (a := v2_1.toInt) (b := 400) rfl (by decide) c17
          refine wp_bd (s_X6_isSign   o_me_1 (43 : Int32)  hI_me_1  ) (fun z18 hz18 => ?_)
          have hz18_0 := hz18
          refine wp_if (fun c19 => ?_) (fun c19 => ?_)
          · have c19 := cv_eq (a := z18.toInt) (b := 0) rfl (by decide) c19
            refine wp_bd (s_X6_isSign   o_me_1 (45 : Int32)  hI_me_1  ) (fun z20 hz20 => ?_)
            have hz20_0 := hz20
            refine wp_if (fun c21 => ?_) (fun c21 => ?_)
            · have c21 := cv_eq (a := z20.toInt) (b := 0) rfl (by decide) c21
              refine wp_some ?_
              exact (show (0 ≤ (1 : Int32).toInt ∧ (1 : Int32).toInt ≤ 1) ∧ IvX6 o_me_1 ∧ Kp [2, 4] [0] [] o_me o_me_1 ∧ IvX0 12 400 o_me_code_1 ∧ Kp [7] [1] [] o_me_code o_me_code_1 ∧ ((gI o_me_1 8).toInt ≤ (gI o_me_1 2).toInt + 0) from ⟨⟨by decide, by decide⟩, hI_me_1, hkp_me_1, hI_me_code_1, hkp_me_code_1, hh14⟩)
            · have c21z := c21
              have c21 := cv_ne (a := z20.toInt) (b := 0) rfl (by decide) c21
              unfold bk_X6_readSum_37
              refine wp_bd (s_X6_isSign   o_me_1 (43 : Int32)  hI_me_1  ) (fun z22 hz22 => ?_)
              have hz22_0 := hz22
              refine wp_if (fun c23 => ?_) (fun c23 => ?_)
              · have c23 := cv_eq (a := z22.toInt) (b := 0) rfl (by decide) c23
                obtain ⟨w24, ew24⟩ : ∃ z : Int32, z = (6 : Int32) := ⟨_, rfl⟩
                have tw24 : w24.toInt = 6 := by rw [ew24]; decide
                rw [show bk_X6_readSum_52 rS 12 400 (lp_X6_readSum_12 rS 12 400  N1) v1_1 v2_1 (6 : Int32) o_me_1 o_me_code_1 = bk_X6_readSum_52 rS 12 400 (lp_X6_readSum_12 rS 12 400  N1) v1_1 v2_1 w24 o_me_1 o_me_code_1 from by rw [ew24]]
                unfold bk_X6_readSum_52
                refine wp_bd (s_X6_step   o_me_1  hI_me_1  hh14) (fun z25 hz25 => ?_)
                obtain ⟨hz25_0, hz25_1, hz25_2⟩ := hz25
                have hkpz25_me : Kp [2, 4] [0] [] o_me z25 := hkp_me_1.trans (hz25_1.mono (by decide) (by decide) (by decide))
                have kz25_k26 : (gI z25 2).toInt = (gI o_me_1 2).toInt := congrArg Int32.toInt (hz25_1.1 2 (by decide))
                have t28 := igX6_8 hz25_0
                refine wp_bd (s_X6_readTerm rS  z25 o_me_code_1 v1_1 (fun o c p h1 h2 h3 h4 h5 => hrS o c p h1 h2 (by omega) h4 h5) hz25_0 hI_me_code_1  ⟨hh10.1, hh10.2⟩ hz25_2) (fun z27 hz27 => ?_)
                obtain ⟨hz27_0, hz27_1, hz27_2, hz27_3, hz27_4, hz27_5⟩ := hz27
                have hkpz27_me : Kp [2, 4] [0] [] o_me z27.2.1 := hkpz25_me.trans (hz27_2.mono (by decide) (by decide) (by decide))
                have kz27_k29 : (gI z27.2.1 2).toInt = (gI z25 2).toInt := congrArg Int32.toInt (hz27_2.1 2 (by decide))
                have hkpz27_me_code : Kp [7] [1] [] o_me_code z27.2.2 := hkp_me_code_1.trans (hz27_4.mono (by decide) (by decide) (by decide))
                refine wp_if (fun c30 => ?_) (fun c30 => ?_)
                · have c30 := cv_eq (a := z27.1.toInt) (b := 0) rfl (by decide) c30
                  refine wp_some ?_
                  have t31 := igX6_8 hz27_1
                  exact (show (0 ≤ (0 : Int32).toInt ∧ (0 : Int32).toInt ≤ 1) ∧ IvX6 z27.2.1 ∧ Kp [2, 4] [0] [] o_me z27.2.1 ∧ IvX0 12 400 z27.2.2 ∧ Kp [7] [1] [] o_me_code z27.2.2 ∧ ((gI z27.2.1 8).toInt ≤ (gI z27.2.1 2).toInt + 0) from ⟨⟨by decide, by decide⟩, hz27_1, hkpz27_me, hz27_3, hkpz27_me_code, hz27_5⟩)
                · have c30z := c30
                  have c30 := cv_ne (a := z27.1.toInt) (b := 0) rfl (by decide) c30
                  refine wp_bd (s_X0_add  12 400 z27.2.2 w24 (0 : Int32)  hz27_3  ) (fun z32 hz32 => ?_)
                  obtain ⟨hz32_0, hz32_1, hz32_2⟩ := hz32
                  have hkpz32_me_code : Kp [7] [1] [] o_me_code z32.2 := hkpz27_me_code.trans (hz32_2.mono (by decide) (by decide) (by decide))
                  refine wp_lt (fun x33 ex33 => ?_)
                  have tx33 : x33.toInt = v2_1.toInt + 1 := by rw [ex33]; exact i32_add rfl (by decide) (zk_l hh11.1 (by decide)) (zk_u (zlt_u (c := 399) c17 (by decide)) (by decide))
                  have t34 := igX6_8 hz27_1
                  exact ih1 v1_1 x33 z27.2.1 z32.2 hz27_1 hkpz27_me hz32_1 hkpz32_me_code ⟨hh10.1, hh10.2⟩ ⟨(zl_e (zq_r (c := (-1)) tx33 (by decide)) hh11.1 (by decide)), (zu_e (Int.le_of_eq tx33) (zlt_u (c := 399) c17 (by decide)) (by decide))⟩ ⟨(zl_e hz27_5 t34.1 (by decide)), (zu_e (zd_e (c := 0) (zq_0 kz27_k29) (zq_0 kz25_k26) (by decide)) hh12.2 (by decide))⟩ ⟨t34.1, (zu_e (zd_e (c := 0) (zd_e (c := 0) hz27_5 (zq_0 kz27_k29) (by decide)) (zq_0 kz25_k26) (by decide)) hh12.2 (by decide))⟩ hz27_5 hh15 hh16 (zms_u (c := 399) hN1 (zq_r (c := (-1)) tx33 (by decide)) (zlt_u (c := 399) c17 (by decide)) (by decide))
              · have c23z := c23
                have c23 := cv_ne (a := z22.toInt) (b := 0) rfl (by decide) c23
                obtain ⟨w35, ew35⟩ : ∃ z : Int32, z = (5 : Int32) := ⟨_, rfl⟩
                have tw35 : w35.toInt = 5 := by rw [ew35]; decide
                rw [show bk_X6_readSum_52 rS 12 400 (lp_X6_readSum_12 rS 12 400  N1) v1_1 v2_1 (5 : Int32) o_me_1 o_me_code_1 = bk_X6_readSum_52 rS 12 400 (lp_X6_readSum_12 rS 12 400  N1) v1_1 v2_1 w35 o_me_1 o_me_code_1 from by rw [ew35]]
                unfold bk_X6_readSum_52
                refine wp_bd (s_X6_step   o_me_1  hI_me_1  hh14) (fun z36 hz36 => ?_)
                obtain ⟨hz36_0, hz36_1, hz36_2⟩ := hz36
                have hkpz36_me : Kp [2, 4] [0] [] o_me z36 := hkp_me_1.trans (hz36_1.mono (by decide) (by decide) (by decide))
                have kz36_k37 : (gI z36 2).toInt = (gI o_me_1 2).toInt := congrArg Int32.toInt (hz36_1.1 2 (by decide))
                have t39 := igX6_8 hz36_0
                refine wp_bd (s_X6_readTerm rS  z36 o_me_code_1 v1_1 (fun o c p h1 h2 h3 h4 h5 => hrS o c p h1 h2 (by omega) h4 h5) hz36_0 hI_me_code_1  ⟨hh10.1, hh10.2⟩ hz36_2) (fun z38 hz38 => ?_)
                obtain ⟨hz38_0, hz38_1, hz38_2, hz38_3, hz38_4, hz38_5⟩ := hz38
                have hkpz38_me : Kp [2, 4] [0] [] o_me z38.2.1 := hkpz36_me.trans (hz38_2.mono (by decide) (by decide) (by decide))
                have kz38_k40 : (gI z38.2.1 2).toInt = (gI z36 2).toInt := congrArg Int32.toInt (hz38_2.1 2 (by decide))
                have hkpz38_me_code : Kp [7] [1] [] o_me_code z38.2.2 := hkp_me_code_1.trans (hz38_4.mono (by decide) (by decide) (by decide))
                refine wp_if (fun c41 => ?_) (fun c41 => ?_)
                · have c41 := cv_eq (a := z38.1.toInt) (b := 0) rfl (by decide) c41
                  refine wp_some ?_
                  have t42 := igX6_8 hz38_1
                  exact (show (0 ≤ (0 : Int32).toInt ∧ (0 : Int32).toInt ≤ 1) ∧ IvX6 z38.2.1 ∧ Kp [2, 4] [0] [] o_me z38.2.1 ∧ IvX0 12 400 z38.2.2 ∧ Kp [7] [1] [] o_me_code z38.2.2 ∧ ((gI z38.2.1 8).toInt ≤ (gI z38.2.1 2).toInt + 0) from ⟨⟨by decide, by decide⟩, hz38_1, hkpz38_me, hz38_3, hkpz38_me_code, hz38_5⟩)
                · have c41z := c41
                  have c41 := cv_ne (a := z38.1.toInt) (b := 0) rfl (by decide) c41
                  refine wp_bd (s_X0_add  12 400 z38.2.2 w35 (0 : Int32)  hz38_3  ) (fun z43 hz43 => ?_)
                  obtain ⟨hz43_0, hz43_1, hz43_2⟩ := hz43
                  have hkpz43_me_code : Kp [7] [1] [] o_me_code z43.2 := hkpz38_me_code.trans (hz43_2.mono (by decide) (by decide) (by decide))
                  refine wp_lt (fun x44 ex44 => ?_)
                  have tx44 : x44.toInt = v2_1.toInt + 1 := by rw [ex44]; exact i32_add rfl (by decide) (zk_l hh11.1 (by decide)) (zk_u (zlt_u (c := 399) c17 (by decide)) (by decide))
                  have t45 := igX6_8 hz38_1
                  exact ih1 v1_1 x44 z38.2.1 z43.2 hz38_1 hkpz38_me hz43_1 hkpz43_me_code ⟨hh10.1, hh10.2⟩ ⟨(zl_e (zq_r (c := (-1)) tx44 (by decide)) hh11.1 (by decide)), (zu_e (Int.le_of_eq tx44) (zlt_u (c := 399) c17 (by decide)) (by decide))⟩ ⟨(zl_e hz38_5 t45.1 (by decide)), (zu_e (zd_e (c := 0) (zq_0 kz38_k40) (zq_0 kz36_k37) (by decide)) hh12.2 (by decide))⟩ ⟨t45.1, (zu_e (zd_e (c := 0) (zd_e (c := 0) hz38_5 (zq_0 kz38_k40) (by decide)) (zq_0 kz36_k37) (by decide)) hh12.2 (by decide))⟩ hz38_5 hh15 hh16 (zms_u (c := 399) hN1 (zq_r (c := (-1)) tx44 (by decide)) (zlt_u (c := 399) c17 (by decide)) (by decide))
          · have c19z := c19
            have c19 := cv_ne (a := z18.toInt) (b := 0) rfl (by decide) c19
            unfold bk_X6_readSum_37
            refine wp_bd (s_X6_isSign   o_me_1 (43 : Int32)  hI_me_1  ) (fun z46 hz46 => ?_)
            have hz46_0 := hz46
            refine wp_if (fun c47 => ?_) (fun c47 => ?_)
            · have c47 := cv_eq (a := z46.toInt) (b := 0) rfl (by decide) c47
              obtain ⟨w48, ew48⟩ : ∃ z : Int32, z = (6 : Int32) := ⟨_, rfl⟩
              have tw48 : w48.toInt = 6 := by rw [ew48]; decide
              rw [show bk_X6_readSum_52 rS 12 400 (lp_X6_readSum_12 rS 12 400  N1) v1_1 v2_1 (6 : Int32) o_me_1 o_me_code_1 = bk_X6_readSum_52 rS 12 400 (lp_X6_readSum_12 rS 12 400  N1) v1_1 v2_1 w48 o_me_1 o_me_code_1 from by rw [ew48]]
              unfold bk_X6_readSum_52
              refine wp_bd (s_X6_step   o_me_1  hI_me_1  hh14) (fun z49 hz49 => ?_)
              obtain ⟨hz49_0, hz49_1, hz49_2⟩ := hz49
              have hkpz49_me : Kp [2, 4] [0] [] o_me z49 := hkp_me_1.trans (hz49_1.mono (by decide) (by decide) (by decide))
              have kz49_k50 : (gI z49 2).toInt = (gI o_me_1 2).toInt := congrArg Int32.toInt (hz49_1.1 2 (by decide))
              have t52 := igX6_8 hz49_0
              refine wp_bd (s_X6_readTerm rS  z49 o_me_code_1 v1_1 (fun o c p h1 h2 h3 h4 h5 => hrS o c p h1 h2 (by omega) h4 h5) hz49_0 hI_me_code_1  ⟨hh10.1, hh10.2⟩ hz49_2) (fun z51 hz51 => ?_)
              obtain ⟨hz51_0, hz51_1, hz51_2, hz51_3, hz51_4, hz51_5⟩ := hz51
              have hkpz51_me : Kp [2, 4] [0] [] o_me z51.2.1 := hkpz49_me.trans (hz51_2.mono (by decide) (by decide) (by decide))
              have kz51_k53 : (gI z51.2.1 2).toInt = (gI z49 2).toInt := congrArg Int32.toInt (hz51_2.1 2 (by decide))
              have hkpz51_me_code : Kp [7] [1] [] o_me_code z51.2.2 := hkp_me_code_1.trans (hz51_4.mono (by decide) (by decide) (by decide))
              refine wp_if (fun c54 => ?_) (fun c54 => ?_)
              · have c54 := cv_eq (a := z51.1.toInt) (b := 0) rfl (by decide) c54
                refine wp_some ?_
                have t55 := igX6_8 hz51_1
                exact (show (0 ≤ (0 : Int32).toInt ∧ (0 : Int32).toInt ≤ 1) ∧ IvX6 z51.2.1 ∧ Kp [2, 4] [0] [] o_me z51.2.1 ∧ IvX0 12 400 z51.2.2 ∧ Kp [7] [1] [] o_me_code z51.2.2 ∧ ((gI z51.2.1 8).toInt ≤ (gI z51.2.1 2).toInt + 0) from ⟨⟨by decide, by decide⟩, hz51_1, hkpz51_me, hz51_3, hkpz51_me_code, hz51_5⟩)
              · have c54z := c54
                have c54 := cv_ne (a := z51.1.toInt) (b := 0) rfl (by decide) c54
                refine wp_bd (s_X0_add  12 400 z51.2.2 w48 (0 : Int32)  hz51_3  ) (fun z56 hz56 => ?_)
                obtain ⟨hz56_0, hz56_1, hz56_2⟩ := hz56
                have hkpz56_me_code : Kp [7] [1] [] o_me_code z56.2 := hkpz51_me_code.trans (hz56_2.mono (by decide) (by decide) (by decide))
                refine wp_lt (fun x57 ex57 => ?_)
                have tx57 : x57.toInt = v2_1.toInt + 1 := by rw [ex57]; exact i32_add rfl (by decide) (zk_l hh11.1 (by decide)) (zk_u (zlt_u (c := 399) c17 (by decide)) (by decide))
                have t58 := igX6_8 hz51_1
                exact ih1 v1_1 x57 z51.2.1 z56.2 hz51_1 hkpz51_me hz56_1 hkpz56_me_code ⟨hh10.1, hh10.2⟩ ⟨(zl_e (zq_r (c := (-1)) tx57 (by decide)) hh11.1 (by decide)), (zu_e (Int.le_of_eq tx57) (zlt_u (c := 399) c17 (by decide)) (by decide))⟩ ⟨(zl_e hz51_5 t58.1 (by decide)), (zu_e (zd_e (c := 0) (zq_0 kz51_k53) (zq_0 kz49_k50) (by decide)) hh12.2 (by decide))⟩ ⟨t58.1, (zu_e (zd_e (c := 0) (zd_e (c := 0) hz51_5 (zq_0 kz51_k53) (by decide)) (zq_0 kz49_k50) (by decide)) hh12.2 (by decide))⟩ hz51_5 hh15 hh16 (zms_u (c := 399) hN1 (zq_r (c := (-1)) tx57 (by decide)) (zlt_u (c := 399) c17 (by decide)) (by decide))
            · have c47z := c47
              have c47 := cv_ne (a := z46.toInt) (b := 0) rfl (by decide) c47
              obtain ⟨w59, ew59⟩ : ∃ z : Int32, z = (5 : Int32) := ⟨_, rfl⟩
              have tw59 : w59.toInt = 5 := by rw [ew59]; decide
              rw [show bk_X6_readSum_52 rS 12 400 (lp_X6_readSum_12 rS 12 400  N1) v1_1 v2_1 (5 : Int32) o_me_1 o_me_code_1 = bk_X6_readSum_52 rS 12 400 (lp_X6_readSum_12 rS 12 400  N1) v1_1 v2_1 w59 o_me_1 o_me_code_1 from by rw [ew59]]
              unfold bk_X6_readSum_52
              refine wp_bd (s_X6_step   o_me_1  hI_me_1  hh14) (fun z60 hz60 => ?_)
              obtain ⟨hz60_0, hz60_1, hz60_2⟩ := hz60
              have hkpz60_me : Kp [2, 4] [0] [] o_me z60 := hkp_me_1.trans (hz60_1.mono (by decide) (by decide) (by decide))
              have kz60_k61 : (gI z60 2).toInt = (gI o_me_1 2).toInt := congrArg Int32.toInt (hz60_1.1 2 (by decide))
              have t63 := igX6_8 hz60_0
              refine wp_bd (s_X6_readTerm rS  z60 o_me_code_1 v1_1 (fun o c p h1 h2 h3 h4 h5 => hrS o c p h1 h2 (by omega) h4 h5) hz60_0 hI_me_code_1  ⟨hh10.1, hh10.2⟩ hz60_2) (fun z62 hz62 => ?_)
              obtain ⟨hz62_0, hz62_1, hz62_2, hz62_3, hz62_4, hz62_5⟩ := hz62
              have hkpz62_me : Kp [2, 4] [0] [] o_me z62.2.1 := hkpz60_me.trans (hz62_2.mono (by decide) (by decide) (by decide))
              have kz62_k64 : (gI z62.2.1 2).toInt = (gI z60 2).toInt := congrArg Int32.toInt (hz62_2.1 2 (by decide))
              have hkpz62_me_code : Kp [7] [1] [] o_me_code z62.2.2 := hkp_me_code_1.trans (hz62_4.mono (by decide) (by decide) (by decide))
              refine wp_if (fun c65 => ?_) (fun c65 => ?_)
              · have c65 := cv_eq (a := z62.1.toInt) (b := 0) rfl (by decide) c65
                refine wp_some ?_
                have t66 := igX6_8 hz62_1
                exact (show (0 ≤ (0 : Int32).toInt ∧ (0 : Int32).toInt ≤ 1) ∧ IvX6 z62.2.1 ∧ Kp [2, 4] [0] [] o_me z62.2.1 ∧ IvX0 12 400 z62.2.2 ∧ Kp [7] [1] [] o_me_code z62.2.2 ∧ ((gI z62.2.1 8).toInt ≤ (gI z62.2.1 2).toInt + 0) from ⟨⟨by decide, by decide⟩, hz62_1, hkpz62_me, hz62_3, hkpz62_me_code, hz62_5⟩)
              · have c65z := c65
                have c65 := cv_ne (a := z62.1.toInt) (b := 0) rfl (by decide) c65
                refine wp_bd (s_X0_add  12 400 z62.2.2 w59 (0 : Int32)  hz62_3  ) (fun z67 hz67 => ?_)
                obtain ⟨hz67_0, hz67_1, hz67_2⟩ := hz67
                have hkpz67_me_code : Kp [7] [1] [] o_me_code z67.2 := hkpz62_me_code.trans (hz67_2.mono (by decide) (by decide) (by decide))
                refine wp_lt (fun x68 ex68 => ?_)
                have tx68 : x68.toInt = v2_1.toInt + 1 := by rw [ex68]; exact i32_add rfl (by decide) (zk_l hh11.1 (by decide)) (zk_u (zlt_u (c := 399) c17 (by decide)) (by decide))
                have t69 := igX6_8 hz62_1
                exact ih1 v1_1 x68 z62.2.1 z67.2 hz62_1 hkpz62_me hz67_1 hkpz67_me_code ⟨hh10.1, hh10.2⟩ ⟨(zl_e (zq_r (c := (-1)) tx68 (by decide)) hh11.1 (by decide)), (zu_e (Int.le_of_eq tx68) (zlt_u (c := 399) c17 (by decide)) (by decide))⟩ ⟨(zl_e hz62_5 t69.1 (by decide)), (zu_e (zd_e (c := 0) (zq_0 kz62_k64) (zq_0 kz60_k61) (by decide)) hh12.2 (by decide))⟩ ⟨t69.1, (zu_e (zd_e (c := 0) (zd_e (c := 0) hz62_5 (zq_0 kz62_k64) (by decide)) (zq_0 kz60_k61) (by decide)) hh12.2 (by decide))⟩ hz62_5 hh15 hh16 (zms_u (c := 399) hN1 (zq_r (c := (-1)) tx68 (by decide)) (zlt_u (c := 399) c17 (by decide)) (by decide))
    have t70 := igX6_8 hz1_1
    exact lp1 zfu p0 (0 : Int32) z1.2.1 z1.2.2 hz1_1 hkpz1_me hz1_3 hkpz1_me_code ⟨q0.1, q0.2⟩ ⟨by decide, by decide⟩ ⟨(zl_e (zq_0 kz1_k4.symm) t3.1 (by decide)), (zu_e (zq_0 kz1_k4) t3.2 (by decide))⟩ ⟨t70.1, (zu_e (zd_e (c := 0) hz1_5 (zq_0 kz1_k4) (by decide)) t3.2 (by decide))⟩ hz1_5 (zd_r (by decide)) (zd_r (by decide)) (zme_u (l := 0) (Int.le_of_eq tz0.symm) (by decide))

