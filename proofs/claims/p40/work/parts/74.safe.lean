set_option maxHeartbeats 4000000 in
set_option maxRecDepth 100000 in
theorem s_X9_change (o_me : Ob) (p0 : Int32) (p1 : Int32) (hI_me : IvX9 o_me) (q0 : 36 ≤ p0.toInt ∧ p0.toInt ≤ 63) : wp (f_X9_change   o_me p0 p1) (fun (y : Int32 × Ob) => IvX9 y.2 ∧ Kp [8, 11, 13, 14, 15, 16, 18, 19, 20, 21, 23, 26, 29, 34, 38, 43, 56, 57, 58, 59, 62] [2, 4, 5, 7, 10, 12, 22, 24, 25, 27, 28, 42, 48, 50, 51, 55, 61] [(0, 1), (1, 2), (29, 36), (64, 71)] o_me y.2) := by
  unfold f_X9_change
  refine wp_gd (zin_of (m := 5484) rfl (Int.le_trans (by decide) q0.1) (zlt_m (c := 5483) (Int.le_trans q0.2 (by decide)) (by decide))) ?_
  refine wp_lt (fun x1 ex1 => ?_)
  refine wp_gd (zin_of (m := 5484) rfl (Int.le_trans (by decide) q0.1) (zlt_m (c := 5483) (Int.le_trans q0.2 (by decide)) (by decide))) ?_
  refine wp_lt (fun o2 eo2 => ?_)
  have hIo2 : IvX9 o2 := by rw [eo2]; exact ibX9_3 hI_me (Int.le_trans (by decide) q0.1) (Int.le_trans q0.2 (by decide)) (Or.inr (Or.inl (zlt_k (c := 1) (Int.le_trans (by decide) q0.1) (by decide)))) (Or.inr (Or.inl (zlt_k (c := 2) (Int.le_trans (by decide) q0.1) (by decide)))) (Or.inr (Or.inl (zlt_k (c := 3) (Int.le_trans (by decide) q0.1) (by decide)))) (Or.inr (Or.inl (zlt_k (c := 4) (Int.le_trans (by decide) q0.1) (by decide)))) (Or.inr (Or.inl (zlt_k (c := 8) (Int.le_trans (by decide) q0.1) (by decide)))) (Or.inr (Or.inl (zlt_k (c := 15) (Int.le_trans (by decide) q0.1) (by decide)))) (Or.inr (Or.inl (zlt_k (c := 29) (Int.le_trans (by decide) q0.1) (by decide)))) (Or.inr (Or.inl (zlt_k (c := 36) q0.1 (by decide)))) (Or.inl (zlt_m (c := 70) (Int.le_trans q0.2 (by decide)) (by decide)))
  have hkpo2 : Kp [8, 11, 13, 14, 15, 16, 18, 19, 20, 21, 23, 26, 29, 34, 38, 43, 56, 57, 58, 59, 62] [2, 4, 5, 7, 10, 12, 22, 24, 25, 27, 28, 42, 48, 50, 51, 55, 61] [(0, 1), (1, 2), (29, 36), (64, 71)] o_me o2 := Kp.rf.trans (by rw [eo2]; exact kp_bw (a := 36) (b := 64) (by decide) (by decide) (Int.le_trans (by decide) q0.1) (Int.lt_of_le_of_lt q0.2 (by decide)))
  refine wp_lt (fun o3 eo3 => ?_)
  have hIo3 : IvX9 o3 := by rw [eo3]; exact hIo2
  have hkpo3 : Kp [8, 11, 13, 14, 15, 16, 18, 19, 20, 21, 23, 26, 29, 34, 38, 43, 56, 57, 58, 59, 62] [2, 4, 5, 7, 10, 12, 22, 24, 25, 27, 28, 42, 48, 50, 51, 55, 61] [(0, 1), (1, 2), (29, 36), (64, 71)] o_me o3 := hkpo2.trans (by rw [eo3]; exact Kp.sI (by decide))
  refine wp_some ?_
  exact (show IvX9 o3 ∧ Kp [8, 11, 13, 14, 15, 16, 18, 19, 20, 21, 23, 26, 29, 34, 38, 43, 56, 57, 58, 59, 62] [2, 4, 5, 7, 10, 12, 22, 24, 25, 27, 28, 42, 48, 50, 51, 55, 61] [(0, 1), (1, 2), (29, 36), (64, 71)] o_me o3 from ⟨hIo3, hkpo3⟩)

set_option maxHeartbeats 4000000 in
set_option maxRecDepth 100000 in
theorem s_X9_circles (o_me : Ob) (hI_me : IvX9 o_me)  : wp (f_X9_circles   o_me) (fun (y : Int32 × Ob) => IvX9 y.2 ∧ Kp [1, 8, 11, 13, 14, 15, 16, 18, 19, 20, 21, 23, 26, 29, 34, 38, 43, 56, 57, 58, 59, 62] [2, 3, 4, 5, 7, 10, 12, 22, 24, 25, 27, 28, 42, 48, 50, 51, 55, 61] [(0, 1), (1, 2), (29, 36), (36, 64), (64, 71)] o_me y.2) := by
  have li0 : (0 : Int32).toInt = 0 := by decide
  have li1 : (1 : Int32).toInt = 1 := by decide
  have li2 : (64 : Int32).toInt = 64 := by decide
  unfold f_X9_circles
  refine wp_lt (fun o1 eo1 => ?_)
  have hIo1 : IvX9 o1 := by rw [eo1]; exact hI_me
  have ko1_v : (gI o1 0).toInt = 0 := by rw [eo1]; exact (show ((0 : Int32)).toInt = _ from by decide)
  have hkpo1 : Kp [1, 8, 11, 13, 14, 15, 16, 18, 19, 20, 21, 23, 26, 29, 34, 38, 43, 56, 57, 58, 59, 62] [2, 3, 4, 5, 7, 10, 12, 22, 24, 25, 27, 28, 42, 48, 50, 51, 55, 61] [(0, 1), (1, 2), (29, 36), (36, 64), (64, 71)] o_me o1 := Kp.rf.trans (by rw [eo1]; exact Kp.sI (by decide))
  have lp1 : ∀ (N1 : Nat) (v1_1 : Int32) (v2_1 : Int32) (o_me_1 : Ob), IvX9 o_me_1 → Kp [1, 8, 11, 13, 14, 15, 16, 18, 19, 20, 21, 23, 26, 29, 34, 38, 43, 56, 57, 58, 59, 62] [2, 3, 4, 5, 7, 10, 12, 22, 24, 25, 27, 28, 42, 48, 50, 51, 55, 61] [(0, 1), (1, 2), (29, 36), (36, 64), (64, 71)] o_me o_me_1 → (0 ≤ v2_1.toInt ∧ v2_1.toInt ≤ 7) → (7 - v2_1.toInt).toNat < N1 → wp (lp_X9_circles_9   N1 (v1_1, v2_1, o_me_1)) (fun (y : Int32 × Ob) => IvX9 y.2 ∧ Kp [1, 8, 11, 13, 14, 15, 16, 18, 19, 20, 21, 23, 26, 29, 34, 38, 43, 56, 57, 58, 59, 62] [2, 3, 4, 5, 7, 10, 12, 22, 24, 25, 27, 28, 42, 48, 50, 51, 55, 61] [(0, 1), (1, 2), (29, 36), (36, 64), (64, 71)] o_me y.2) := by
    intro N1
    induction N1 with
    | zero =>
      intro v1_1 v2_1 o_me_1 hI_me_1 hkp_me_1 hh2 hN1
      exact absurd hN1 (Nat.not_lt_zero _)
    | succ N1 ihx =>
      have ih1 := ihx
      intro v1_1 v2_1 o_me_1 hI_me_1 hkp_me_1 hh2 hN1
      show wp (lb_X9_circles_9   (lp_X9_circles_9   N1) v1_1 v2_1 o_me_1) (fun (y : Int32 × Ob) => IvX9 y.2 ∧ Kp [1, 8, 11, 13, 14, 15, 16, 18, 19, 20, 21, 23, 26, 29, 34, 38, 43, 56, 57, 58, 59, 62] [2, 3, 4, 5, 7, 10, 12, 22, 24, 25, 27, 28, 42, 48, 50, 51, 55, 61] [(0, 1), (1, 2), (29, 36), (36, 64), (64, 71)] o_me y.2)
      unfold lb_X9_circles_9
      have kc3 : (gA o_me_1 3 (0 : Int32).toNatClampNeg).toInt = (gA o_me 3 (0 : Int32).toNatClampNeg).toInt := congrArg Int32.toInt (hkp_me_1.2.2 (0, 1) (by decide) (0 : Int32).toNatClampNeg (by decide) (by decide))
      have t4 := iaX9_3_0 hI_me_1 (j := (0 : Int32)) (by decide) (by decide)
      refine wp_if (fun c5 => ?_) (fun c5 => ?_)
      · have c5 := cv_ge (a := v2_1.toInt) (b := (gA o_me_1 3 (0 : Int32).toNatClampNeg).toInt) rfl rfl c5
        refine wp_some ?_
        exact (show IvX9 o_me_1 ∧ Kp [1, 8, 11, 13, 14, 15, 16, 18, 19, 20, 21, 23, 26, 29, 34, 38, 43, 56, 57, 58, 59, 62] [2, 3, 4, 5, 7, 10, 12, 22, 24, 25, 27, 28, 42, 48, 50, 51, 55, 61] [(0, 1), (1, 2), (29, 36), (36, 64), (64, 71)] o_me o_me_1 from ⟨hI_me_1, hkp_me_1⟩)
      · have c5 := cv_nge (a := v2_1.toInt) (b := (gA o_me_1 3 (0 : Int32).toNatClampNeg).toInt) rfl rfl c5
        have t6 : (v2_1 + (1 : Int32)).toInt = v2_1.toInt + 1 := i32_add rfl (by decide) (zk_l hh2.1 (by decide)) (zk_u (zu_e (k := 6) (zl_d c5) t4.2 (by decide)) (by decide))
        refine wp_lt (fun x7 ex7 => ?_)
        have tx7 : x7.toInt = (v2_1 + (1 : Int32)).toInt := by rw [ex7]
        have lp2 : ∀ (N2 : Nat) (v1_2 : Int32) (v2_2 : Int32) (v3_2 : Int32) (o_me_2 : Ob), IvX9 o_me_2 → Kp [1, 8, 11, 13, 14, 15, 16, 18, 19, 20, 21, 23, 26, 29, 34, 38, 43, 56, 57, 58, 59, 62] [2, 3, 4, 5, 7, 10, 12, 22, 24, 25, 27, 28, 42, 48, 50, 51, 55, 61] [(0, 1), (1, 2), (29, 36), (36, 64), (64, 71)] o_me o_me_2 → (0 ≤ v2_2.toInt ∧ v2_2.toInt ≤ 6) → (1 ≤ v3_2.toInt ∧ v3_2.toInt ≤ 7) → (v2_2.toInt ≤ v3_2.toInt + (-1)) → (x7.toInt ≤ v2_2.toInt + 1) → (7 - v3_2.toInt).toNat < N2 → wp (lp_X9_circles_23  (lp_X9_circles_9   N1) N2 (v1_2, v2_2, v3_2, o_me_2)) (fun (y : Int32 × Ob) => IvX9 y.2 ∧ Kp [1, 8, 11, 13, 14, 15, 16, 18, 19, 20, 21, 23, 26, 29, 34, 38, 43, 56, 57, 58, 59, 62] [2, 3, 4, 5, 7, 10, 12, 22, 24, 25, 27, 28, 42, 48, 50, 51, 55, 61] [(0, 1), (1, 2), (29, 36), (36, 64), (64, 71)] o_me y.2) := by
          intro N2
          induction N2 with
          | zero =>
            intro v1_2 v2_2 v3_2 o_me_2 hI_me_2 hkp_me_2 hh8 hh9 hh10 hh11 hN2
            exact absurd hN2 (Nat.not_lt_zero _)
          | succ N2 ihx =>
            have ih2 := ihx
            intro v1_2 v2_2 v3_2 o_me_2 hI_me_2 hkp_me_2 hh8 hh9 hh10 hh11 hN2
            show wp (lb_X9_circles_23  (lp_X9_circles_9   N1) (lp_X9_circles_23  (lp_X9_circles_9   N1) N2) v1_2 v2_2 v3_2 o_me_2) (fun (y : Int32 × Ob) => IvX9 y.2 ∧ Kp [1, 8, 11, 13, 14, 15, 16, 18, 19, 20, 21, 23, 26, 29, 34, 38, 43, 56, 57, 58, 59, 62] [2, 3, 4, 5, 7, 10, 12, 22, 24, 25, 27, 28, 42, 48, 50, 51, 55, 61] [(0, 1), (1, 2), (29, 36), (36, 64), (64, 71)] o_me y.2)
            unfold lb_X9_circles_23
            have kc12 : (gA o_me_2 3 (0 : Int32).toNatClampNeg).toInt = (gA o_me 3 (0 : Int32).toNatClampNeg).toInt := congrArg Int32.toInt (hkp_me_2.2.2 (0, 1) (by decide) (0 : Int32).toNatClampNeg (by decide) (by decide))
            have t13 := iaX9_3_0 hI_me_2 (j := (0 : Int32)) (by decide) (by decide)
            refine wp_if (fun c14 => ?_) (fun c14 => ?_)
            · have c14 := cv_ge (a := v3_2.toInt) (b := (gA o_me_2 3 (0 : Int32).toNatClampNeg).toInt) rfl rfl c14
              refine wp_lt (fun x15 ex15 => ?_)
              have tx15 : x15.toInt = v2_2.toInt + 1 := by rw [ex15]; exact i32_add rfl (by decide) (zk_l hh8.1 (by decide)) (zk_u hh8.2 (by decide))
              exact ih1 v1_2 x15 o_me_2 hI_me_2 hkp_me_2 ⟨(zl_e (zq_r (c := (-1)) tx15 (by decide)) hh8.1 (by decide)), (zu_e (Int.le_of_eq tx15) hh8.2 (by decide))⟩ (zms_u (c := 6) hN1 (zd_e (c := (-1)) (zd_e (c := 0) (zd_e (c := (-1)) (zq_r (c := (-1)) t6 (by decide)) (zq_0 tx7.symm) (by decide)) hh11 (by decide)) (zq_r (c := (-1)) tx15 (by decide)) (by decide)) (zu_e (zl_d c5) t4.2 (by decide)) (by decide))
            · have c14 := cv_nge (a := v3_2.toInt) (b := (gA o_me_2 3 (0 : Int32).toNatClampNeg).toInt) rfl rfl c14
              have t16 : (v2_2 + (1 : Int32)).toInt = v2_2.toInt + 1 := i32_add rfl (by decide) (zk_l hh8.1 (by decide)) (zk_u (zu_e (k := 5) (zd_e (c := (-2)) hh10 (zl_d c14) (by decide)) t13.2 (by decide)) (by decide))
              refine wp_lt (fun x17 ex17 => ?_)
              have tx17 : x17.toInt = (v2_2 + (1 : Int32)).toInt := by rw [ex17]
              have lp3 : ∀ (N3 : Nat) (v1_3 : Int32) (v2_3 : Int32) (v3_3 : Int32) (v4_3 : Int32) (o_me_3 : Ob), IvX9 o_me_3 → Kp [1, 8, 11, 13, 14, 15, 16, 18, 19, 20, 21, 23, 26, 29, 34, 38, 43, 56, 57, 58, 59, 62] [2, 3, 4, 5, 7, 10, 12, 22, 24, 25, 27, 28, 42, 48, 50, 51, 55, 61] [(0, 1), (1, 2), (29, 36), (36, 64), (64, 71)] o_me o_me_3 → (0 ≤ v2_3.toInt ∧ v2_3.toInt ≤ 5) → (1 ≤ v3_3.toInt ∧ v3_3.toInt ≤ 6) → (1 ≤ v4_3.toInt ∧ v4_3.toInt ≤ 7) → (v2_3.toInt ≤ v3_3.toInt + (-1)) → (v2_3.toInt ≤ v4_3.toInt + (-1)) → (x17.toInt ≤ v2_3.toInt + 1) → (x7.toInt ≤ v2_3.toInt + 1) → (v2_1.toInt ≤ v3_3.toInt + (-1)) → (v2_2.toInt ≤ v3_3.toInt + (-1)) → (v3_3.toInt ≤ v3_2.toInt + 0) → (v3_2.toInt ≤ v3_3.toInt + 0) → (x17.toInt ≤ v3_3.toInt + 0) → (x7.toInt ≤ v3_3.toInt + 0) → (v2_1.toInt ≤ v4_3.toInt + (-1)) → (v2_2.toInt ≤ v4_3.toInt + (-1)) → (x17.toInt ≤ v4_3.toInt + 0) → (x7.toInt ≤ v4_3.toInt + 0) → (7 - v4_3.toInt).toNat < N3 → wp (lp_X9_circles_38  (lp_X9_circles_9   N1) (lp_X9_circles_23  (lp_X9_circles_9   N1) N2) N3 (v1_3, v2_3, v3_3, v4_3, o_me_3)) (fun (y : Int32 × Ob) => IvX9 y.2 ∧ Kp [1, 8, 11, 13, 14, 15, 16, 18, 19, 20, 21, 23, 26, 29, 34, 38, 43, 56, 57, 58, 59, 62] [2, 3, 4, 5, 7, 10, 12, 22, 24, 25, 27, 28, 42, 48, 50, 51, 55, 61] [(0, 1), (1, 2), (29, 36), (36, 64), (64, 71)] o_me y.2) := by
                intro N3
                induction N3 with
                | zero =>
                  intro v1_3 v2_3 v3_3 v4_3 o_me_3 hI_me_3 hkp_me_3 hh18 hh19 hh20 hh21 hh22 hh23 hh24 hh25 hh26 hh27 hh28 hh29 hh30 hh31 hh32 hh33 hh34 hN3
                  exact absurd hN3 (Nat.not_lt_zero _)
                | succ N3 ihx =>
                  have ih3 := ihx
                  intro v1_3 v2_3 v3_3 v4_3 o_me_3 hI_me_3 hkp_me_3 hh18 hh19 hh20 hh21 hh22 hh23 hh24 hh25 hh26 hh27 hh28 hh29 hh30 hh31 hh32 hh33 hh34 hN3
                  show wp (lb_X9_circles_38  (lp_X9_circles_9   N1) (lp_X9_circles_23  (lp_X9_circles_9   N1) N2) (lp_X9_circles_38  (lp_X9_circles_9   N1) (lp_X9_circles_23  (lp_X9_circles_9   N1) N2) N3) v1_3 v2_3 v3_3 v4_3 o_me_3) (fun (y : Int32 × Ob) => IvX9 y.2 ∧ Kp [1, 8, 11, 13, 14, 15, 16, 18, 19, 20, 21, 23, 26, 29, 34, 38, 43, 56, 57, 58, 59, 62] [2, 3, 4, 5, 7, 10, 12, 22, 24, 25, 27, 28, 42, 48, 50, 51, 55, 61] [(0, 1), (1, 2), (29, 36), (36, 64), (64, 71)] o_me y.2)
                  unfold lb_X9_circles_38
                  have kc35 : (gA o_me_3 3 (0 : Int32).toNatClampNeg).toInt = (gA o_me 3 (0 : Int32).toNatClampNeg).toInt := congrArg Int32.toInt (hkp_me_3.2.2 (0, 1) (by decide) (0 : Int32).toNatClampNeg (by decide) (by decide))
                  have t36 := iaX9_3_0 hI_me_3 (j := (0 : Int32)) (by decide) (by decide)
                  refine wp_if (fun c37 => ?_) (fun c37 => ?_)
                  · have c37 := cv_ge (a := v4_3.toInt) (b := (gA o_me_3 3 (0 : Int32).toNatClampNeg).toInt) rfl rfl c37
                    refine wp_lt (fun x38 ex38 => ?_)
                    have tx38 : x38.toInt = v3_3.toInt + 1 := by rw [ex38]; exact i32_add rfl (by decide) (zk_l hh19.1 (by decide)) (zk_u hh19.2 (by decide))
                    exact ih2 v1_3 v2_3 x38 o_me_3 hI_me_3 hkp_me_3 ⟨hh18.1, (Int.le_trans hh18.2 (by decide))⟩ ⟨(zl_e (zq_r (c := (-1)) tx38 (by decide)) hh19.1 (by decide)), (zu_e (Int.le_of_eq tx38) hh19.2 (by decide))⟩ (zd_w (zd_e (c := (-2)) hh21 (zq_r (c := (-1)) tx38 (by decide)) (by decide)) (by decide)) hh24 (zms_u (c := 6) hN2 (zd_e (c := (-1)) hh28 (zq_r (c := (-1)) tx38 (by decide)) (by decide)) (zu_e (zl_d c14) t13.2 (by decide)) (by decide))
                  · have c37 := cv_nge (a := v4_3.toInt) (b := (gA o_me_3 3 (0 : Int32).toNatClampNeg).toInt) rfl rfl c37
                    refine wp_if (fun c39 => ?_) (fun c39 => ?_)
                    · have c39 := cv_eq (a := v3_3.toInt) (b := v4_3.toInt) rfl rfl c39
                      unfold bk_X9_circles_110
                      obtain ⟨w40, ew40⟩ : ∃ z : Int32, z = (0 : Int32) := ⟨_, rfl⟩
                      have tw40 : w40.toInt = 0 := by rw [ew40]; decide
                      rw [show bk_X9_circles_111  (lp_X9_circles_9   N1) (lp_X9_circles_23  (lp_X9_circles_9   N1) N2) (lp_X9_circles_38  (lp_X9_circles_9   N1) (lp_X9_circles_23  (lp_X9_circles_9   N1) N2) N3) v2_3 v3_3 v4_3 (0 : Int32) v1_3 o_me_3 = bk_X9_circles_111  (lp_X9_circles_9   N1) (lp_X9_circles_23  (lp_X9_circles_9   N1) N2) (lp_X9_circles_38  (lp_X9_circles_9   N1) (lp_X9_circles_23  (lp_X9_circles_9   N1) N2) N3) v2_3 v3_3 v4_3 w40 v1_3 o_me_3 from by rw [ew40]]
                      unfold bk_X9_circles_111
                      have rg42 := i32_rg v1_3
                      have t41 : (v1_3 + w40).toInt = v1_3.toInt + w40.toInt := i32_add rfl rfl (zk_ll rg42.1 (Int.le_of_eq tw40.symm) (by decide)) (zk_uu rg42.2 (Int.le_of_eq tw40) (by decide))
                      refine wp_lt (fun x43 ex43 => ?_)
                      have tx43 : x43.toInt = (v1_3 + w40).toInt := by rw [ex43]
                      refine wp_lt (fun x44 ex44 => ?_)
                      have tx44 : x44.toInt = v4_3.toInt + 1 := by rw [ex44]; exact i32_add rfl (by decide) (zk_l hh20.1 (by decide)) (zk_u (zu_e (k := 6) (zl_d c37) t36.2 (by decide)) (by decide))
                      exact ih3 x43 v2_3 v3_3 x44 o_me_3 hI_me_3 hkp_me_3 ⟨hh18.1, hh18.2⟩ ⟨hh19.1, hh19.2⟩ ⟨(zl_e (zq_r (c := (-1)) tx44 (by decide)) hh20.1 (by decide)), (zu_e (zd_e (c := 0) (Int.le_of_eq tx44) (zl_d c37) (by decide)) t36.2 (by decide))⟩ hh21 (zd_w (zd_e (c := (-2)) hh22 (zq_r (c := (-1)) tx44 (by decide)) (by decide)) (by decide)) hh23 hh24 hh25 hh26 hh27 hh28 hh29 hh30 (zd_w (zd_e (c := (-2)) hh31 (zq_r (c := (-1)) tx44 (by decide)) (by decide)) (by decide)) (zd_w (zd_e (c := (-2)) hh32 (zq_r (c := (-1)) tx44 (by decide)) (by decide)) (by decide)) (zd_w (zd_e (c := (-1)) hh33 (zq_r (c := (-1)) tx44 (by decide)) (by decide)) (by decide)) (zd_w (zd_e (c := (-1)) hh34 (zq_r (c := (-1)) tx44 (by decide)) (by decide)) (by decide)) (zms_u (c := 6) hN3 (zq_r (c := (-1)) tx44 (by decide)) (zu_e (zl_d c37) t36.2 (by decide)) (by decide))
                    · have c39 := cv_ne (a := v3_3.toInt) (b := v4_3.toInt) rfl rfl c39
                      have t45 : ((64 : Int32) + v2_3).toInt = 64 + v2_3.toInt := i32_add (by decide) rfl (zk_cl hh18.1 (by decide)) (zk_cu hh18.2 (by decide))
                      refine wp_gd (zin_of (m := 5484) rfl (Int.le_trans (by decide) (zaqc_l (c := 64) t45 hh18.1 (by decide))) (zlt_m (c := 5483) (Int.le_trans (zaqc_u (c := 69) t45 hh18.2 (by decide)) (by decide)) (by decide))) ?_
                      refine wp_bd (s_X9_is   (gA o_me_3 3 ((64 : Int32) + v2_3).toNatClampNeg) v3_3    ) (fun z46 hz46 => ?_)
                      have hz46_0 := hz46
                      refine wp_if (fun c47 => ?_) (fun c47 => ?_)
                      · have c47 := cv_eq (a := z46.toInt) (b := 0) rfl (by decide) c47
                        unfold bk_X9_circles_110
                        obtain ⟨w48, ew48⟩ : ∃ z : Int32, z = (0 : Int32) := ⟨_, rfl⟩
                        have tw48 : w48.toInt = 0 := by rw [ew48]; decide
                        rw [show bk_X9_circles_111  (lp_X9_circles_9   N1) (lp_X9_circles_23  (lp_X9_circles_9   N1) N2) (lp_X9_circles_38  (lp_X9_circles_9   N1) (lp_X9_circles_23  (lp_X9_circles_9   N1) N2) N3) v2_3 v3_3 v4_3 (0 : Int32) v1_3 o_me_3 = bk_X9_circles_111  (lp_X9_circles_9   N1) (lp_X9_circles_23  (lp_X9_circles_9   N1) N2) (lp_X9_circles_38  (lp_X9_circles_9   N1) (lp_X9_circles_23  (lp_X9_circles_9   N1) N2) N3) v2_3 v3_3 v4_3 w48 v1_3 o_me_3 from by rw [ew48]]
                        unfold bk_X9_circles_111
                        have rg50 := i32_rg v1_3
                        have t49 : (v1_3 + w48).toInt = v1_3.toInt + w48.toInt := i32_add rfl rfl (zk_ll rg50.1 (Int.le_of_eq tw48.symm) (by decide)) (zk_uu rg50.2 (Int.le_of_eq tw48) (by decide))
                        refine wp_lt (fun x51 ex51 => ?_)
                        have tx51 : x51.toInt = (v1_3 + w48).toInt := by rw [ex51]
                        refine wp_lt (fun x52 ex52 => ?_)
                        have tx52 : x52.toInt = v4_3.toInt + 1 := by rw [ex52]; exact i32_add rfl (by decide) (zk_l hh20.1 (by decide)) (zk_u (zu_e (k := 6) (zl_d c37) t36.2 (by decide)) (by decide))
                        exact ih3 x51 v2_3 v3_3 x52 o_me_3 hI_me_3 hkp_me_3 ⟨hh18.1, hh18.2⟩ ⟨hh19.1, hh19.2⟩ ⟨(zl_e (zq_r (c := (-1)) tx52 (by decide)) hh20.1 (by decide)), (zu_e (zd_e (c := 0) (Int.le_of_eq tx52) (zl_d c37) (by decide)) t36.2 (by decide))⟩ hh21 (zd_w (zd_e (c := (-2)) hh22 (zq_r (c := (-1)) tx52 (by decide)) (by decide)) (by decide)) hh23 hh24 hh25 hh26 hh27 hh28 hh29 hh30 (zd_w (zd_e (c := (-2)) hh31 (zq_r (c := (-1)) tx52 (by decide)) (by decide)) (by decide)) (zd_w (zd_e (c := (-2)) hh32 (zq_r (c := (-1)) tx52 (by decide)) (by decide)) (by decide)) (zd_w (zd_e (c := (-1)) hh33 (zq_r (c := (-1)) tx52 (by decide)) (by decide)) (by decide)) (zd_w (zd_e (c := (-1)) hh34 (zq_r (c := (-1)) tx52 (by decide)) (by decide)) (by decide)) (zms_u (c := 6) hN3 (zq_r (c := (-1)) tx52 (by decide)) (zu_e (zl_d c37) t36.2 (by decide)) (by decide))
                      · have c47z := c47
                        have c47 := cv_ne (a := z46.toInt) (b := 0) rfl (by decide) c47
                        have t53 : ((64 : Int32) + v3_3).toInt = 64 + v3_3.toInt := i32_add (by decide) rfl (zk_cl hh19.1 (by decide)) (zk_cu hh19.2 (by decide))
                        refine wp_gd (zin_of (m := 5484) rfl (Int.le_trans (by decide) (zaqc_l (c := 65) t53 hh19.1 (by decide))) (zlt_m (c := 5483) (Int.le_trans (zaqc_u (c := 70) t53 hh19.2 (by decide)) (by decide)) (by decide))) ?_
                        refine wp_bd (s_X9_is   (gA o_me_3 3 ((64 : Int32) + v3_3).toNatClampNeg) v4_3    ) (fun z54 hz54 => ?_)
                        have hz54_0 := hz54
                        refine wp_if (fun c55 => ?_) (fun c55 => ?_)
                        · have c55 := cv_eq (a := z54.toInt) (b := 0) rfl (by decide) c55
                          unfold bk_X9_circles_110
                          obtain ⟨w56, ew56⟩ : ∃ z : Int32, z = (0 : Int32) := ⟨_, rfl⟩
                          have tw56 : w56.toInt = 0 := by rw [ew56]; decide
                          rw [show bk_X9_circles_111  (lp_X9_circles_9   N1) (lp_X9_circles_23  (lp_X9_circles_9   N1) N2) (lp_X9_circles_38  (lp_X9_circles_9   N1) (lp_X9_circles_23  (lp_X9_circles_9   N1) N2) N3) v2_3 v3_3 v4_3 (0 : Int32) v1_3 o_me_3 = bk_X9_circles_111  (lp_X9_circles_9   N1) (lp_X9_circles_23  (lp_X9_circles_9   N1) N2) (lp_X9_circles_38  (lp_X9_circles_9   N1) (lp_X9_circles_23  (lp_X9_circles_9   N1) N2) N3) v2_3 v3_3 v4_3 w56 v1_3 o_me_3 from by rw [ew56]]
                          unfold bk_X9_circles_111
                          have rg58 := i32_rg v1_3
                          have t57 : (v1_3 + w56).toInt = v1_3.toInt + w56.toInt := i32_add rfl rfl (zk_ll rg58.1 (Int.le_of_eq tw56.symm) (by decide)) (zk_uu rg58.2 (Int.le_of_eq tw56) (by decide))
                          refine wp_lt (fun x59 ex59 => ?_)
                          have tx59 : x59.toInt = (v1_3 + w56).toInt := by rw [ex59]
                          refine wp_lt (fun x60 ex60 => ?_)
                          have tx60 : x60.toInt = v4_3.toInt + 1 := by rw [ex60]; exact i32_add rfl (by decide) (zk_l hh20.1 (by decide)) (zk_u (zu_e (k := 6) (zl_d c37) t36.2 (by decide)) (by decide))
                          exact ih3 x59 v2_3 v3_3 x60 o_me_3 hI_me_3 hkp_me_3 ⟨hh18.1, hh18.2⟩ ⟨hh19.1, hh19.2⟩ ⟨(zl_e (zq_r (c := (-1)) tx60 (by decide)) hh20.1 (by decide)), (zu_e (zd_e (c := 0) (Int.le_of_eq tx60) (zl_d c37) (by decide)) t36.2 (by decide))⟩ hh21 (zd_w (zd_e (c := (-2)) hh22 (zq_r (c := (-1)) tx60 (by decide)) (by decide)) (by decide)) hh23 hh24 hh25 hh26 hh27 hh28 hh29 hh30 (zd_w (zd_e (c := (-2)) hh31 (zq_r (c := (-1)) tx60 (by decide)) (by decide)) (by decide)) (zd_w (zd_e (c := (-2)) hh32 (zq_r (c := (-1)) tx60 (by decide)) (by decide)) (by decide)) (zd_w (zd_e (c := (-1)) hh33 (zq_r (c := (-1)) tx60 (by decide)) (by decide)) (by decide)) (zd_w (zd_e (c := (-1)) hh34 (zq_r (c := (-1)) tx60 (by decide)) (by decide)) (by decide)) (zms_u (c := 6) hN3 (zq_r (c := (-1)) tx60 (by decide)) (zu_e (zl_d c37) t36.2 (by decide)) (by decide))
                        · have c55z := c55
                          have c55 := cv_ne (a := z54.toInt) (b := 0) rfl (by decide) c55
                          have t61 : ((64 : Int32) + v4_3).toInt = 64 + v4_3.toInt := i32_add (by decide) rfl (zk_cl hh20.1 (by decide)) (zk_cu (zu_e (k := 6) (zl_d c37) t36.2 (by decide)) (by decide))
                          refine wp_gd (zin_of (m := 5484) rfl (Int.le_trans (by decide) (zaqc_l (c := 65) t61 hh20.1 (by decide))) (zlt_m (c := 5483) (Int.le_trans (zaqc_u (c := 70) t61 (zu_e (k := 6) (zl_d c37) t36.2 (by decide)) (by decide)) (by decide)) (by decide))) ?_
                          refine wp_bd (s_X9_is   (gA o_me_3 3 ((64 : Int32) + v4_3).toNatClampNeg) v2_3    ) (fun z62 hz62 => ?_)
                          have hz62_0 := hz62
                          refine wp_if (fun c63 => ?_) (fun c63 => ?_)
                          · have c63 := cv_eq (a := z62.toInt) (b := 0) rfl (by decide) c63
                            unfold bk_X9_circles_110
                            obtain ⟨w64, ew64⟩ : ∃ z : Int32, z = (0 : Int32) := ⟨_, rfl⟩
                            have tw64 : w64.toInt = 0 := by rw [ew64]; decide
                            rw [show bk_X9_circles_111  (lp_X9_circles_9   N1) (lp_X9_circles_23  (lp_X9_circles_9   N1) N2) (lp_X9_circles_38  (lp_X9_circles_9   N1) (lp_X9_circles_23  (lp_X9_circles_9   N1) N2) N3) v2_3 v3_3 v4_3 (0 : Int32) v1_3 o_me_3 = bk_X9_circles_111  (lp_X9_circles_9   N1) (lp_X9_circles_23  (lp_X9_circles_9   N1) N2) (lp_X9_circles_38  (lp_X9_circles_9   N1) (lp_X9_circles_23  (lp_X9_circles_9   N1) N2) N3) v2_3 v3_3 v4_3 w64 v1_3 o_me_3 from by rw [ew64]]
                            unfold bk_X9_circles_111
                            have rg66 := i32_rg v1_3
                            have t65 : (v1_3 + w64).toInt = v1_3.toInt + w64.toInt := i32_add rfl rfl (zk_ll rg66.1 (Int.le_of_eq tw64.symm) (by decide)) (zk_uu rg66.2 (Int.le_of_eq tw64) (by decide))
                            refine wp_lt (fun x67 ex67 => ?_)
                            have tx67 : x67.toInt = (v1_3 + w64).toInt := by rw [ex67]
                            refine wp_lt (fun x68 ex68 => ?_)
                            have tx68 : x68.toInt = v4_3.toInt + 1 := by rw [ex68]; exact i32_add rfl (by decide) (zk_l hh20.1 (by decide)) (zk_u (zu_e (k := 6) (zl_d c37) t36.2 (by decide)) (by decide))
                            exact ih3 x67 v2_3 v3_3 x68 o_me_3 hI_me_3 hkp_me_3 ⟨hh18.1, hh18.2⟩ ⟨hh19.1, hh19.2⟩ ⟨(zl_e (zq_r (c := (-1)) tx68 (by decide)) hh20.1 (by decide)), (zu_e (zd_e (c := 0) (Int.le_of_eq tx68) (zl_d c37) (by decide)) t36.2 (by decide))⟩ hh21 (zd_w (zd_e (c := (-2)) hh22 (zq_r (c := (-1)) tx68 (by decide)) (by decide)) (by decide)) hh23 hh24 hh25 hh26 hh27 hh28 hh29 hh30 (zd_w (zd_e (c := (-2)) hh31 (zq_r (c := (-1)) tx68 (by decide)) (by decide)) (by decide)) (zd_w (zd_e (c := (-2)) hh32 (zq_r (c := (-1)) tx68 (by decide)) (by decide)) (by decide)) (zd_w (zd_e (c := (-1)) hh33 (zq_r (c := (-1)) tx68 (by decide)) (by decide)) (by decide)) (zd_w (zd_e (c := (-1)) hh34 (zq_r (c := (-1)) tx68 (by decide)) (by decide)) (by decide)) (zms_u (c := 6) hN3 (zq_r (c := (-1)) tx68 (by decide)) (zu_e (zl_d c37) t36.2 (by decide)) (by decide))
                          · have c63z := c63
                            have c63 := cv_ne (a := z62.toInt) (b := 0) rfl (by decide) c63
                            obtain ⟨w69, ew69⟩ : ∃ z : Int32, z = (1 : Int32) := ⟨_, rfl⟩
                            have tw69 : w69.toInt = 1 := by rw [ew69]; decide
                            rw [show bk_X9_circles_111  (lp_X9_circles_9   N1) (lp_X9_circles_23  (lp_X9_circles_9   N1) N2) (lp_X9_circles_38  (lp_X9_circles_9   N1) (lp_X9_circles_23  (lp_X9_circles_9   N1) N2) N3) v2_3 v3_3 v4_3 (1 : Int32) v1_3 o_me_3 = bk_X9_circles_111  (lp_X9_circles_9   N1) (lp_X9_circles_23  (lp_X9_circles_9   N1) N2) (lp_X9_circles_38  (lp_X9_circles_9   N1) (lp_X9_circles_23  (lp_X9_circles_9   N1) N2) N3) v2_3 v3_3 v4_3 w69 v1_3 o_me_3 from by rw [ew69]]
                            unfold bk_X9_circles_111
                            refine wp_lt (fun x70 ex70 => ?_)
                            have tx70 : x70.toInt = (v1_3 + w69).toInt := by rw [ex70]
                            refine wp_lt (fun x71 ex71 => ?_)
                            have tx71 : x71.toInt = v4_3.toInt + 1 := by rw [ex71]; exact i32_add rfl (by decide) (zk_l hh20.1 (by decide)) (zk_u (zu_e (k := 6) (zl_d c37) t36.2 (by decide)) (by decide))
                            exact ih3 x70 v2_3 v3_3 x71 o_me_3 hI_me_3 hkp_me_3 ⟨hh18.1, hh18.2⟩ ⟨hh19.1, hh19.2⟩ ⟨(zl_e (zq_r (c := (-1)) tx71 (by decide)) hh20.1 (by decide)), (zu_e (zd_e (c := 0) (Int.le_of_eq tx71) (zl_d c37) (by decide)) t36.2 (by decide))⟩ hh21 (zd_w (zd_e (c := (-2)) hh22 (zq_r (c := (-1)) tx71 (by decide)) (by decide)) (by decide)) hh23 hh24 hh25 hh26 hh27 hh28 hh29 hh30 (zd_w (zd_e (c := (-2)) hh31 (zq_r (c := (-1)) tx71 (by decide)) (by decide)) (by decide)) (zd_w (zd_e (c := (-2)) hh32 (zq_r (c := (-1)) tx71 (by decide)) (by decide)) (by decide)) (zd_w (zd_e (c := (-1)) hh33 (zq_r (c := (-1)) tx71 (by decide)) (by decide)) (by decide)) (zd_w (zd_e (c := (-1)) hh34 (zq_r (c := (-1)) tx71 (by decide)) (by decide)) (by decide)) (zms_u (c := 6) hN3 (zq_r (c := (-1)) tx71 (by decide)) (zu_e (zl_d c37) t36.2 (by decide)) (by decide))
              exact lp3 zfu v1_2 v2_2 v3_2 x17 o_me_2 hI_me_2 hkp_me_2 ⟨hh8.1, (zu_e (zd_e (c := (-2)) hh10 (zl_d c14) (by decide)) t13.2 (by decide))⟩ ⟨hh9.1, (zu_e (zl_d c14) t13.2 (by decide))⟩ ⟨(zl_e (zd_e (c := (-1)) (zq_r (c := (-1)) t16 (by decide)) (zq_0 tx17.symm) (by decide)) hh8.1 (by decide)), (zu_e (zd_e (c := 1) (zq_0 tx17) (Int.le_of_eq t16) (by decide)) hh8.2 (by decide))⟩ hh10 (zd_e (c := (-1)) (zq_r (c := (-1)) t16 (by decide)) (zq_0 tx17.symm) (by decide)) (zd_e (c := 1) (zq_0 tx17) (Int.le_of_eq t16) (by decide)) hh11 (zd_e (c := (-1)) (zd_e (c := 0) (zd_e (c := (-1)) (zq_r (c := (-1)) t6 (by decide)) (zq_0 tx7.symm) (by decide)) hh11 (by decide)) hh10 (by decide)) hh10 (zd_r (by decide)) (zd_r (by decide)) (zd_e (c := 0) (zd_e (c := 1) (zq_0 tx17) (Int.le_of_eq t16) (by decide)) hh10 (by decide)) (zd_e (c := 0) hh11 hh10 (by decide)) (by omega) (zd_e (c := (-1)) (zq_r (c := (-1)) t16 (by decide)) (zq_0 tx17.symm) (by decide)) (zd_r (by decide)) (zd_e (c := 0) (zd_e (c := 0) hh11 (zq_r (c := (-1)) t16 (by decide)) (by decide)) (zq_0 tx17.symm) (by decide)) (zme_u (l := 1) (zl_e (k := 1) (zd_e (c := (-1)) (zq_r (c := (-1)) t16 (by decide)) (zq_0 tx17.symm) (by decide)) hh8.1 (by decide)) (by decide))
        exact lp2 zfu v1_1 v2_1 x7 o_me_1 hI_me_1 hkp_me_1 ⟨hh2.1, (zu_e (zl_d c5) t4.2 (by decide))⟩ ⟨(zl_e (zd_e (c := (-1)) (zq_r (c := (-1)) t6 (by decide)) (zq_0 tx7.symm) (by decide)) hh2.1 (by decide)), (zu_e (zd_e (c := 0) (zd_e (c := 1) (zq_0 tx7) (Int.le_of_eq t6) (by decide)) (zl_d c5) (by decide)) t4.2 (by decide))⟩ (zd_e (c := (-1)) (zq_r (c := (-1)) t6 (by decide)) (zq_0 tx7.symm) (by decide)) (zd_e (c := 1) (zq_0 tx7) (Int.le_of_eq t6) (by decide)) (zme_u (l := 1) (zl_e (k := 1) (zd_e (c := (-1)) (zq_r (c := (-1)) t6 (by decide)) (zq_0 tx7.symm) (by decide)) hh2.1 (by decide)) (by decide))
  exact lp1 zfu (0 : Int32) (0 : Int32) o1 hIo1 hkpo1 ⟨by decide, by decide⟩ (zme_u (l := 0) (Int.le_of_eq tz0.symm) (by decide))

set_option maxHeartbeats 4000000 in
set_option maxRecDepth 100000 in
theorem s_X9_isLaw (o_me : Ob) (p0 : Int32) (hI_me : IvX9 o_me)  : wp (f_X9_isLaw   o_me p0) (fun (y : Int32) => (0 ≤ y.toInt ∧ y.toInt ≤ 1) ∧ (¬ y = 0 → ((-1) ≤ p0.toInt ∧ p0.toInt ≤ 5))) := by
  have li0 : (-1 : Int32).toInt = (-1) := by decide
  have li1 : (0 : Int32).toInt = 0 := by decide
  have li2 : (0 : Int64).toInt = 0 := by decide
  have li3 : (1 : Int32).toInt = 1 := by decide
  have li4 : (1 : Int64).toInt = 1 := by decide
  have li5 : (2 : Int32).toInt = 2 := by decide
  unfold f_X9_isLaw
  refine wp_if (fun c1 => ?_) (fun c1 => ?_)
  · have c1 := cv_eq (a := p0.toInt) (b := (-1)) rfl (by decide) c1
    unfold bk_X9_isLaw_23
    refine wp_some ?_
    exact (show (0 ≤ (1 : Int32).toInt ∧ (1 : Int32).toInt ≤ 1) ∧ (¬ (1 : Int32) = 0 → ((-1) ≤ p0.toInt ∧ p0.toInt ≤ 5)) from ⟨⟨by decide, by decide⟩, (fun h9 => ⟨by omega, by omega⟩)⟩)
  · have c1 := cv_ne (a := p0.toInt) (b := (-1)) rfl (by decide) c1
    have rg2 := i32_rg p0
    have t3 : p0.toInt64.toInt = p0.toInt := Int32.toInt_toInt64 _
    have t4 := iaX9_3_2 hI_me (j := (2 : Int32)) (by decide) (by decide)
    have t5 : ((gA o_me 3 (2 : Int32).toNatClampNeg).toInt64).toInt = (gA o_me 3 (2 : Int32).toNatClampNeg).toInt := Int32.toInt_toInt64 _
    have t6 : (((gA o_me 3 (2 : Int32).toNatClampNeg).toInt64) - (1 : Int64)).toInt = ((gA o_me 3 (2 : Int32).toNatClampNeg).toInt64).toInt - 1 := i64_sub rfl (by decide) (zs_l (zl_e (k := 0) (zq_0 t5.symm) t4.1 (by decide)) (by decide)) (zs_u (zu_e (k := 6) (zq_0 t5) t4.2 (by decide)) (by decide))
    refine wp_bd (s_X9_in   p0.toInt64 (0 : Int64) (((gA o_me 3 (2 : Int32).toNatClampNeg).toInt64) - (1 : Int64))    ) (fun z7 hz7 => ?_)
    obtain ⟨hz7_0, hz7_1⟩ := hz7
    refine wp_if (fun c8 => ?_) (fun c8 => ?_)
    · have c8 := cv_eq (a := z7.toInt) (b := 0) rfl (by decide) c8
      refine wp_some ?_
      exact (show (0 ≤ (0 : Int32).toInt ∧ (0 : Int32).toInt ≤ 1) ∧ (¬ (0 : Int32) = 0 → ((-1) ≤ p0.toInt ∧ p0.toInt ≤ 5)) from ⟨⟨by decide, by decide⟩, (fun h9 => absurd rfl h9)⟩)
    · have c8z := c8
      have c8i := hz7_1 c8
      have c8 := cv_ne (a := z7.toInt) (b := 0) rfl (by decide) c8
      unfold bk_X9_isLaw_23
      refine wp_some ?_
      exact (show (0 ≤ (1 : Int32).toInt ∧ (1 : Int32).toInt ≤ 1) ∧ (¬ (1 : Int32) = 0 → ((-1) ≤ p0.toInt ∧ p0.toInt ≤ 5)) from ⟨⟨by decide, by decide⟩, (fun h9 => ⟨by omega, by omega⟩)⟩)

set_option maxHeartbeats 4000000 in
set_option maxRecDepth 100000 in
theorem s_X9_compare (o_me : Ob) (p0 : Int32) (p1 : Int32) (hI_me : IvX9 o_me) (q0 : 0 ≤ (gI o_me 20).toInt ∧ (gI o_me 20).toInt ≤ 0) : wp (f_X9_compare   o_me p0 p1) (fun (y : Int32 × Ob) => ((-1) ≤ y.1.toInt ∧ y.1.toInt ≤ 6) ∧ IvX9 y.2 ∧ Kp [1, 8, 11, 13, 14, 15, 16, 18, 19, 20, 21, 23, 26, 29, 56, 57, 58, 59, 62] [2, 4, 5, 7, 10, 12, 22, 24, 25, 27, 28, 48, 50, 51, 55, 61] [(0, 1), (1, 2), (29, 36), (36, 64), (64, 71)] o_me y.2) := by
  unfold f_X9_compare
  refine wp_lt (fun o1 eo1 => ?_)
  have hIo1 : IvX9 o1 := by rw [eo1]; exact hI_me
  have ko1_k2 : (gI o1 20).toInt = (gI o_me 20).toInt := by rw [eo1]; rfl
  have hkpo1 : Kp [1, 8, 11, 13, 14, 15, 16, 18, 19, 20, 21, 23, 26, 29, 56, 57, 58, 59, 62] [2, 4, 5, 7, 10, 12, 22, 24, 25, 27, 28, 48, 50, 51, 55, 61] [(0, 1), (1, 2), (29, 36), (36, 64), (64, 71)] o_me o1 := Kp.rf.trans (by rw [eo1]; exact Kp.sI (by decide))
  refine wp_bd (s_X9_isLaw   o1 p0  hIo1  ) (fun z3 hz3 => ?_)
  obtain ⟨hz3_0, hz3_1⟩ := hz3
  refine wp_if (fun c4 => ?_) (fun c4 => ?_)
  · have c4 := cv_eq (a := z3.toInt) (b := 0) rfl (by decide) c4
    refine wp_some ?_
    exact (show ((-1) ≤ (-1 : Int32).toInt ∧ (-1 : Int32).toInt ≤ 6) ∧ IvX9 o1 ∧ Kp [1, 8, 11, 13, 14, 15, 16, 18, 19, 20, 21, 23, 26, 29, 56, 57, 58, 59, 62] [2, 4, 5, 7, 10, 12, 22, 24, 25, 27, 28, 48, 50, 51, 55, 61] [(0, 1), (1, 2), (29, 36), (36, 64), (64, 71)] o_me o1 from ⟨⟨by decide, by decide⟩, hIo1, hkpo1⟩)
  · have c4i := hz3_1 c4
    refine wp_bd (s_X9_isRace   p1    ) (fun z5 hz5 => ?_)
    obtain ⟨hz5_0, hz5_1⟩ := hz5
    refine wp_if (fun c6 => ?_) (fun c6 => ?_)
    · have c6 := cv_eq (a := z5.toInt) (b := 0) rfl (by decide) c6
      refine wp_some ?_
      exact (show ((-1) ≤ (-1 : Int32).toInt ∧ (-1 : Int32).toInt ≤ 6) ∧ IvX9 o1 ∧ Kp [1, 8, 11, 13, 14, 15, 16, 18, 19, 20, 21, 23, 26, 29, 56, 57, 58, 59, 62] [2, 4, 5, 7, 10, 12, 22, 24, 25, 27, 28, 48, 50, 51, 55, 61] [(0, 1), (1, 2), (29, 36), (36, 64), (64, 71)] o_me o1 from ⟨⟨by decide, by decide⟩, hIo1, hkpo1⟩)
    · have c6i := hz5_1 c6
      have t7 := iaX9_3_3 hIo1 (j := (3 : Int32)) (by decide) (by decide)
      refine wp_lt (fun x8 ex8 => ?_)
      have tx8 : x8.toInt = (gA o1 3 (3 : Int32).toNatClampNeg).toInt := by rw [ex8]
      refine wp_lt (fun o9 eo9 => ?_)
      have hIo9 : IvX9 o9 := by rw [eo9]; exact ibX9_3 hIo1 (by decide) (by decide) (Or.inr (Or.inl (by decide))) (Or.inr (Or.inl (by decide))) (Or.inr (Or.inl (by decide))) (Or.inr (Or.inr ⟨c4i.1, c4i.2⟩)) (Or.inl (by decide)) (Or.inl (by decide)) (Or.inl (by decide)) (Or.inl (by decide)) (Or.inl (by decide))
      have ko9_k11 : (gI o9 20).toInt = (gI o1 20).toInt := by rw [eo9]; rfl
      have hkpo9 : Kp [1, 8, 11, 13, 14, 15, 16, 18, 19, 20, 21, 23, 26, 29, 56, 57, 58, 59, 62] [2, 4, 5, 7, 10, 12, 22, 24, 25, 27, 28, 48, 50, 51, 55, 61] [(0, 1), (1, 2), (29, 36), (36, 64), (64, 71)] o_me o9 := hkpo1.trans (by rw [eo9]; exact kp_bw (a := 3) (b := 4) (by decide) (by decide) (by decide) (by decide))
      refine wp_bd (s_X9_layPlaces   o9 p1  hIo9  ⟨c6i.1, c6i.2⟩ ⟨(zl_e (zd_e (c := 0) (zq_0 ko1_k2.symm) (zq_0 ko9_k11.symm) (by decide)) q0.1 (by decide)), (zu_e (zd_e (c := 0) (zq_0 ko9_k11) (zq_0 ko1_k2) (by decide)) q0.2 (by decide))⟩) (fun z12 hz12 => ?_)
      obtain ⟨hz12_0, hz12_1⟩ := hz12
      have hkpz12_me : Kp [1, 8, 11, 13, 14, 15, 16, 18, 19, 20, 21, 23, 26, 29, 56, 57, 58, 59, 62] [2, 4, 5, 7, 10, 12, 22, 24, 25, 27, 28, 48, 50, 51, 55, 61] [(0, 1), (1, 2), (29, 36), (36, 64), (64, 71)] o_me z12 := hkpo9.trans (hz12_1.mono (by decide) (by decide) (by decide))
      refine wp_lt (fun o15 eo15 => ?_)
      have hIo15 : IvX9 o15 := by rw [eo15]; exact ibX9_3 hz12_0 (by decide) (by decide) (Or.inr (Or.inl (by decide))) (Or.inr (Or.inl (by decide))) (Or.inr (Or.inl (by decide))) (Or.inr (Or.inr ⟨(zl_e (zq_0 tx8.symm) t7.1 (by decide)), (zu_e (zq_0 tx8) t7.2 (by decide))⟩)) (Or.inl (by decide)) (Or.inl (by decide)) (Or.inl (by decide)) (Or.inl (by decide)) (Or.inl (by decide))
      have hkpo15 : Kp [1, 8, 11, 13, 14, 15, 16, 18, 19, 20, 21, 23, 26, 29, 56, 57, 58, 59, 62] [2, 4, 5, 7, 10, 12, 22, 24, 25, 27, 28, 48, 50, 51, 55, 61] [(0, 1), (1, 2), (29, 36), (36, 64), (64, 71)] o_me o15 := hkpz12_me.trans (by rw [eo15]; exact kp_bw (a := 3) (b := 4) (by decide) (by decide) (by decide) (by decide))
      refine wp_if (fun c18 => ?_) (fun c18 => ?_)
      · refine wp_some ?_
        exact (show ((-1) ≤ (-1 : Int32).toInt ∧ (-1 : Int32).toInt ≤ 6) ∧ IvX9 o15 ∧ Kp [1, 8, 11, 13, 14, 15, 16, 18, 19, 20, 21, 23, 26, 29, 56, 57, 58, 59, 62] [2, 4, 5, 7, 10, 12, 22, 24, 25, 27, 28, 48, 50, 51, 55, 61] [(0, 1), (1, 2), (29, 36), (36, 64), (64, 71)] o_me o15 from ⟨⟨by decide, by decide⟩, hIo15, hkpo15⟩)
      · have t19 := iaX9_42_0 hIo15 (j := (0 : Int32)) (by decide) (by decide)
        refine wp_some ?_
        exact (show ((-1) ≤ (gA o15 42 (0 : Int32).toNatClampNeg).toInt ∧ (gA o15 42 (0 : Int32).toNatClampNeg).toInt ≤ 6) ∧ IvX9 o15 ∧ Kp [1, 8, 11, 13, 14, 15, 16, 18, 19, 20, 21, 23, 26, 29, 56, 57, 58, 59, 62] [2, 4, 5, 7, 10, 12, 22, 24, 25, 27, 28, 48, 50, 51, 55, 61] [(0, 1), (1, 2), (29, 36), (36, 64), (64, 71)] o_me o15 from ⟨⟨(Int.le_trans (by decide) t19.1), t19.2⟩, hIo15, hkpo15⟩)

set_option maxHeartbeats 4000000 in
set_option maxRecDepth 100000 in
theorem s_X9_sumOf (o_me : Ob) (p0 : Int32) (p1 : Int32) (hI_me : IvX9 o_me) (q0 : 0 ≤ p0.toInt ∧ p0.toInt ≤ 22) (q1 : 0 ≤ p1.toInt ∧ p1.toInt ≤ 7) : wp (f_X9_sumOf   o_me p0 p1) (fun (y : Int32) => True) := by
  unfold f_X9_sumOf
  have lp1 : ∀ (N1 : Nat) (v1_1 : Int32) (v2_1 : Int32) (v3_1 : Int32) (v4_1 : Int32), (0 ≤ v1_1.toInt ∧ v1_1.toInt ≤ 22) → (0 ≤ v2_1.toInt ∧ v2_1.toInt ≤ 7) → (0 ≤ v4_1.toInt ∧ v4_1.toInt ≤ 7) → (7 - v4_1.toInt).toNat < N1 → wp (lp_X9_sumOf_5 o_me  N1 (v1_1, v2_1, v3_1, v4_1)) (fun (y : Int32) => True) := by
    intro N1
    induction N1 with
    | zero =>
      intro v1_1 v2_1 v3_1 v4_1 hh1 hh2 hh3 hN1
      exact absurd hN1 (Nat.not_lt_zero _)
    | succ N1 ihx =>
      have ih1 := ihx
      intro v1_1 v2_1 v3_1 v4_1 hh1 hh2 hh3 hN1
      show wp (lb_X9_sumOf_5 o_me  (lp_X9_sumOf_5 o_me  N1) v1_1 v2_1 v3_1 v4_1) (fun (y : Int32) => True)
      unfold lb_X9_sumOf_5
      refine wp_if (fun c4 => ?_) (fun c4 => ?_)
      · have c4 := cv_ge (a := v4_1.toInt) (b := v2_1.toInt) rfl rfl c4
        refine wp_some ?_
        exact trivial
      · have c4 := cv_nge (a := v4_1.toInt) (b := v2_1.toInt) rfl rfl c4
        have t5 : (v1_1 + v4_1).toInt = v1_1.toInt + v4_1.toInt := i32_add rfl rfl (zk_ll hh1.1 hh3.1 (by decide)) (zk_uu hh1.2 (zu_e (k := 6) (zl_d c4) hh2.2 (by decide)) (by decide))
        refine wp_gd (zin_of (m := 5484) rfl (zaq_l (c := 0) t5 hh1.1 hh3.1 (by decide)) (zlt_m (c := 5483) (Int.le_trans (zaq_u (c := 28) t5 hh1.2 (zu_e (k := 6) (zl_d c4) hh2.2 (by decide)) (by decide)) (by decide)) (by decide))) ?_
        refine wp_lt (fun x6 ex6 => ?_)
        refine wp_lt (fun x7 ex7 => ?_)
        have tx7 : x7.toInt = v4_1.toInt + 1 := by rw [ex7]; exact i32_add rfl (by decide) (zk_l hh3.1 (by decide)) (zk_u (zu_e (k := 6) (zl_d c4) hh2.2 (by decide)) (by decide))
        exact ih1 v1_1 v2_1 x6 x7  ⟨hh1.1, hh1.2⟩ ⟨hh2.1, hh2.2⟩ ⟨(zl_e (zq_r (c := (-1)) tx7 (by decide)) hh3.1 (by decide)), (zu_e (zd_e (c := 0) (Int.le_of_eq tx7) (zl_d c4) (by decide)) hh2.2 (by decide))⟩ (zms_u (c := 6) hN1 (zq_r (c := (-1)) tx7 (by decide)) (zu_e (zl_d c4) hh2.2 (by decide)) (by decide))
  exact lp1 zfu p0 p1 (0 : Int32) (0 : Int32)  ⟨q0.1, q0.2⟩ ⟨q1.1, q1.2⟩ ⟨by decide, by decide⟩ (zme_u (l := 0) (Int.le_of_eq tz0.symm) (by decide))

set_option maxHeartbeats 4000000 in
set_option maxRecDepth 100000 in
theorem s_X9_enteredOnes (o_me : Ob) (hI_me : IvX9 o_me)  : wp (f_X9_enteredOnes   o_me) (fun (y : Int32) => True) := by
  unfold f_X9_enteredOnes
  have t1 := iaX9_3_0 hI_me (j := (0 : Int32)) (by decide) (by decide)
  refine wp_bd (s_X9_sumOf   o_me (22 : Int32) (gA o_me 3 (0 : Int32).toNatClampNeg)  hI_me  ⟨by decide, by decide⟩ ⟨t1.1, t1.2⟩) (fun z2 hz2 => ?_)
  refine wp_some ?_
  exact trivial

set_option maxHeartbeats 4000000 in
set_option maxRecDepth 100000 in
theorem s_X9_count (o_me : Ob) (p0 : Int32) (hI_me : IvX9 o_me)  : wp (f_X9_count   o_me p0) (fun (y : Int32 × Ob) => IvX9 y.2 ∧ Kp [1, 8, 11, 13, 14, 15, 16, 18, 19, 20, 21, 23, 26, 29, 34, 38, 43, 56, 57, 58, 59, 62] [2, 3, 4, 5, 7, 10, 12, 22, 24, 25, 27, 28, 42, 48, 50, 51, 55, 61] [(0, 1), (1, 2), (29, 36), (36, 64), (64, 71)] o_me y.2) := by
  unfold f_X9_count
  refine wp_lt (fun o1 eo1 => ?_)
  have hIo1 : IvX9 o1 := by rw [eo1]; exact hI_me
  have hkpo1 : Kp [1, 8, 11, 13, 14, 15, 16, 18, 19, 20, 21, 23, 26, 29, 34, 38, 43, 56, 57, 58, 59, 62] [2, 3, 4, 5, 7, 10, 12, 22, 24, 25, 27, 28, 42, 48, 50, 51, 55, 61] [(0, 1), (1, 2), (29, 36), (36, 64), (64, 71)] o_me o1 := Kp.rf.trans (by rw [eo1]; exact Kp.sI (by decide))
  refine wp_if (fun c2 => ?_) (fun c2 => ?_)
  · refine wp_some ?_
    exact (show IvX9 o1 ∧ Kp [1, 8, 11, 13, 14, 15, 16, 18, 19, 20, 21, 23, 26, 29, 34, 38, 43, 56, 57, 58, 59, 62] [2, 3, 4, 5, 7, 10, 12, 22, 24, 25, 27, 28, 42, 48, 50, 51, 55, 61] [(0, 1), (1, 2), (29, 36), (36, 64), (64, 71)] o_me o1 from ⟨hIo1, hkpo1⟩)
  refine wp_if (fun c5 => ?_) (fun c5 => ?_)
  · refine wp_bd (s_X9_enteredOnes   o1  hIo1  ) (fun z6 hz6 => ?_)
    refine wp_some ?_
    exact (show IvX9 o1 ∧ Kp [1, 8, 11, 13, 14, 15, 16, 18, 19, 20, 21, 23, 26, 29, 34, 38, 43, 56, 57, 58, 59, 62] [2, 3, 4, 5, 7, 10, 12, 22, 24, 25, 27, 28, 42, 48, 50, 51, 55, 61] [(0, 1), (1, 2), (29, 36), (36, 64), (64, 71)] o_me o1 from ⟨hIo1, hkpo1⟩)
  refine wp_if (fun c7 => ?_) (fun c7 => ?_)
  · refine wp_some ?_
    exact (show IvX9 o1 ∧ Kp [1, 8, 11, 13, 14, 15, 16, 18, 19, 20, 21, 23, 26, 29, 34, 38, 43, 56, 57, 58, 59, 62] [2, 3, 4, 5, 7, 10, 12, 22, 24, 25, 27, 28, 42, 48, 50, 51, 55, 61] [(0, 1), (1, 2), (29, 36), (36, 64), (64, 71)] o_me o1 from ⟨hIo1, hkpo1⟩)
  refine wp_if (fun c9 => ?_) (fun c9 => ?_)
  · have t11 := iaX9_3_0 hIo1 (j := (0 : Int32)) (by decide) (by decide)
    refine wp_bd (s_X9_sumOf   o1 (15 : Int32) (gA o1 3 (0 : Int32).toNatClampNeg)  hIo1  ⟨by decide, by decide⟩ ⟨t11.1, t11.2⟩) (fun z12 hz12 => ?_)
    refine wp_some ?_
    exact (show IvX9 o1 ∧ Kp [1, 8, 11, 13, 14, 15, 16, 18, 19, 20, 21, 23, 26, 29, 34, 38, 43, 56, 57, 58, 59, 62] [2, 3, 4, 5, 7, 10, 12, 22, 24, 25, 27, 28, 42, 48, 50, 51, 55, 61] [(0, 1), (1, 2), (29, 36), (36, 64), (64, 71)] o_me o1 from ⟨hIo1, hkpo1⟩)
  refine wp_if (fun c13 => ?_) (fun c13 => ?_)
  · refine wp_some ?_
    exact (show IvX9 o1 ∧ Kp [1, 8, 11, 13, 14, 15, 16, 18, 19, 20, 21, 23, 26, 29, 34, 38, 43, 56, 57, 58, 59, 62] [2, 3, 4, 5, 7, 10, 12, 22, 24, 25, 27, 28, 42, 48, 50, 51, 55, 61] [(0, 1), (1, 2), (29, 36), (36, 64), (64, 71)] o_me o1 from ⟨hIo1, hkpo1⟩)
  refine wp_if (fun c16 => ?_) (fun c16 => ?_)
  · refine wp_some ?_
    exact (show IvX9 o1 ∧ Kp [1, 8, 11, 13, 14, 15, 16, 18, 19, 20, 21, 23, 26, 29, 34, 38, 43, 56, 57, 58, 59, 62] [2, 3, 4, 5, 7, 10, 12, 22, 24, 25, 27, 28, 42, 48, 50, 51, 55, 61] [(0, 1), (1, 2), (29, 36), (36, 64), (64, 71)] o_me o1 from ⟨hIo1, hkpo1⟩)
  refine wp_if (fun c18 => ?_) (fun c18 => ?_)
  · refine wp_some ?_
    exact (show IvX9 o1 ∧ Kp [1, 8, 11, 13, 14, 15, 16, 18, 19, 20, 21, 23, 26, 29, 34, 38, 43, 56, 57, 58, 59, 62] [2, 3, 4, 5, 7, 10, 12, 22, 24, 25, 27, 28, 42, 48, 50, 51, 55, 61] [(0, 1), (1, 2), (29, 36), (36, 64), (64, 71)] o_me o1 from ⟨hIo1, hkpo1⟩)
  refine wp_if (fun c20 => ?_) (fun c20 => ?_)
  · refine wp_some ?_
    exact (show IvX9 o1 ∧ Kp [1, 8, 11, 13, 14, 15, 16, 18, 19, 20, 21, 23, 26, 29, 34, 38, 43, 56, 57, 58, 59, 62] [2, 3, 4, 5, 7, 10, 12, 22, 24, 25, 27, 28, 42, 48, 50, 51, 55, 61] [(0, 1), (1, 2), (29, 36), (36, 64), (64, 71)] o_me o1 from ⟨hIo1, hkpo1⟩)
  refine wp_if (fun c22 => ?_) (fun c22 => ?_)
  · refine wp_some ?_
    exact (show IvX9 o1 ∧ Kp [1, 8, 11, 13, 14, 15, 16, 18, 19, 20, 21, 23, 26, 29, 34, 38, 43, 56, 57, 58, 59, 62] [2, 3, 4, 5, 7, 10, 12, 22, 24, 25, 27, 28, 42, 48, 50, 51, 55, 61] [(0, 1), (1, 2), (29, 36), (36, 64), (64, 71)] o_me o1 from ⟨hIo1, hkpo1⟩)
  refine wp_if (fun c23 => ?_) (fun c23 => ?_)
  · refine wp_some ?_
    exact (show IvX9 o1 ∧ Kp [1, 8, 11, 13, 14, 15, 16, 18, 19, 20, 21, 23, 26, 29, 34, 38, 43, 56, 57, 58, 59, 62] [2, 3, 4, 5, 7, 10, 12, 22, 24, 25, 27, 28, 42, 48, 50, 51, 55, 61] [(0, 1), (1, 2), (29, 36), (36, 64), (64, 71)] o_me o1 from ⟨hIo1, hkpo1⟩)
  refine wp_if (fun c24 => ?_) (fun c24 => ?_)
  · refine wp_some ?_
    exact (show IvX9 o1 ∧ Kp [1, 8, 11, 13, 14, 15, 16, 18, 19, 20, 21, 23, 26, 29, 34, 38, 43, 56, 57, 58, 59, 62] [2, 3, 4, 5, 7, 10, 12, 22, 24, 25, 27, 28, 42, 48, 50, 51, 55, 61] [(0, 1), (1, 2), (29, 36), (36, 64), (64, 71)] o_me o1 from ⟨hIo1, hkpo1⟩)
  refine wp_if (fun c25 => ?_) (fun c25 => ?_)
  · refine wp_some ?_
    exact (show IvX9 o1 ∧ Kp [1, 8, 11, 13, 14, 15, 16, 18, 19, 20, 21, 23, 26, 29, 34, 38, 43, 56, 57, 58, 59, 62] [2, 3, 4, 5, 7, 10, 12, 22, 24, 25, 27, 28, 42, 48, 50, 51, 55, 61] [(0, 1), (1, 2), (29, 36), (36, 64), (64, 71)] o_me o1 from ⟨hIo1, hkpo1⟩)
  refine wp_if (fun c26 => ?_) (fun c26 => ?_)
  · refine wp_some ?_
    exact (show IvX9 o1 ∧ Kp [1, 8, 11, 13, 14, 15, 16, 18, 19, 20, 21, 23, 26, 29, 34, 38, 43, 56, 57, 58, 59, 62] [2, 3, 4, 5, 7, 10, 12, 22, 24, 25, 27, 28, 42, 48, 50, 51, 55, 61] [(0, 1), (1, 2), (29, 36), (36, 64), (64, 71)] o_me o1 from ⟨hIo1, hkpo1⟩)
  refine wp_if (fun c27 => ?_) (fun c27 => ?_)
  · refine wp_some ?_
    exact (show IvX9 o1 ∧ Kp [1, 8, 11, 13, 14, 15, 16, 18, 19, 20, 21, 23, 26, 29, 34, 38, 43, 56, 57, 58, 59, 62] [2, 3, 4, 5, 7, 10, 12, 22, 24, 25, 27, 28, 42, 48, 50, 51, 55, 61] [(0, 1), (1, 2), (29, 36), (36, 64), (64, 71)] o_me o1 from ⟨hIo1, hkpo1⟩)
  have t30 : p0.toInt64.toInt = p0.toInt := Int32.toInt_toInt64 _
  refine wp_bd (s_X9_in   p0.toInt64 (14 : Int64) (16 : Int64)    ) (fun z31 hz31 => ?_)
  obtain ⟨hz31_0, hz31_1⟩ := hz31
  refine wp_if (fun c32 => ?_) (fun c32 => ?_)
  · have c32 := cv_eq (a := z31.toInt) (b := 0) rfl (by decide) c32
    refine wp_some ?_
    exact (show IvX9 o1 ∧ Kp [1, 8, 11, 13, 14, 15, 16, 18, 19, 20, 21, 23, 26, 29, 34, 38, 43, 56, 57, 58, 59, 62] [2, 3, 4, 5, 7, 10, 12, 22, 24, 25, 27, 28, 42, 48, 50, 51, 55, 61] [(0, 1), (1, 2), (29, 36), (36, 64), (64, 71)] o_me o1 from ⟨hIo1, hkpo1⟩)
  · have c32i := hz31_1 c32
    have t33 : ((4 : Int32) + p0).toInt = 4 + p0.toInt := i32_add (by decide) rfl (zk_cl (zl_e (k := 14) (zd_e (c := 0) c32i.1 (zq_0 t30) (by decide)) (Int.le_of_eq tl14.symm) (by decide)) (by decide)) (zk_cu (zu_e (k := 16) (zd_e (c := 0) (zq_0 t30.symm) c32i.2 (by decide)) (Int.le_of_eq tl16) (by decide)) (by decide))
    have t34 : (((4 : Int32) + p0) - (14 : Int32)).toInt = ((4 : Int32) + p0).toInt - 14 := i32_sub rfl (by decide) (zs_l (zaqc_l (c := 18) t33 (zl_e (k := 14) (zd_e (c := 0) c32i.1 (zq_0 t30) (by decide)) (Int.le_of_eq tl14.symm) (by decide)) (by decide)) (by decide)) (zs_u (zaqc_u (c := 20) t33 (zu_e (k := 16) (zd_e (c := 0) (zq_0 t30.symm) c32i.2 (by decide)) (Int.le_of_eq tl16) (by decide)) (by decide)) (by decide))
    refine wp_gd (zin_of (m := 5484) rfl (zl_e (zq_t (c := 14) t34 (by decide)) (zaqc_l (c := 18) t33 (zl_e (k := 14) (zd_e (c := 0) c32i.1 (zq_0 t30) (by decide)) (Int.le_of_eq tl14.symm) (by decide)) (by decide)) (by decide)) (zlt_m (c := 5483) (zu_e (zq_s (c := (-14)) t34 (by decide)) (zaqc_u (c := 20) t33 (zu_e (k := 16) (zd_e (c := 0) (zq_0 t30.symm) c32i.2 (by decide)) (Int.le_of_eq tl16) (by decide)) (by decide)) (by decide)) (by decide))) ?_
    refine wp_some ?_
    exact (show IvX9 o1 ∧ Kp [1, 8, 11, 13, 14, 15, 16, 18, 19, 20, 21, 23, 26, 29, 34, 38, 43, 56, 57, 58, 59, 62] [2, 3, 4, 5, 7, 10, 12, 22, 24, 25, 27, 28, 42, 48, 50, 51, 55, 61] [(0, 1), (1, 2), (29, 36), (36, 64), (64, 71)] o_me o1 from ⟨hIo1, hkpo1⟩)

theorem upd_at {o : Ob} {k j i : Nat} {v : Int32} : gA (tA o k j v) k i = if i = j then v else gA o k i := by
  have e : gA (tA o k j v) k = upd (gA o k) j v := by
    show cond (Nat.beq k k) _ _ = _
    rw [Nat.beq_refl]; rfl
  rw [e]; rfl
theorem h_isFree38 (o : Ob) (v1 : Int32) (h1 : 0 ≤ v1.toInt) (h1b : v1.toInt ≤ 3) : ∀ (N : Nat) (v2 v3 : Int32), 0 ≤ v2.toInt → v2.toInt ≤ 1 → 0 ≤ v3.toInt → v3.toInt ≤ 4 → 4 < (N : Int) + v3.toInt → wp (lp_X9_isFree_38 o N (v1, v2, v3)) (fun _ => True) := by
  intro N
  induction N with
  | zero => intro v2 v3 _ _ _ _ _; exfalso; omega
  | succ N ih =>
    intro v2 v3 h2 h2b h3 h3b hN
    show wp (lb_X9_isFree_38 o (lp_X9_isFree_38 o N) v1 v2 v3) _
    unfold lb_X9_isFree_38
    refine wp_if (fun c => wp_gd (zbo_of h2 h2b) (wp_some trivial)) (fun c => ?_)
    have c := cv_nle (a := v1.toInt) (b := v3.toInt) rfl rfl c
    have h78 : ∀ s0 : Int32, 0 ≤ s0.toInt → s0.toInt ≤ 1 → wp (bk_X9_isFree_78 o (lp_X9_isFree_38 o N) v1 v3 s0) (fun _ => True) := by
      intro s0 g0 g1
      unfold bk_X9_isFree_78
      refine wp_lt (fun x3 e3 => ?_)
      have t3 : x3.toInt = v3.toInt + 1 := by rw [e3]; exact i32_add rfl (by decide) (by omega) (by omega)
      exact ih s0 x3 g0 g1 (by omega) (by omega) (by omega)
    have h77 : wp (bk_X9_isFree_77 o (lp_X9_isFree_38 o N) v1 v3) (fun _ => True) := h78 0 (by decide) (by decide)
    have h73 : wp (bk_X9_isFree_73 o (lp_X9_isFree_38 o N) v1 v3) (fun _ => True) := h78 1 (by decide) (by decide)
    refine wp_if (fun c => h77) (fun c => ?_)
    refine wp_gd (zin_of (m := 5) rfl (by omega) (by omega)) ?_
    refine wp_if (fun c => h73) (fun c => ?_)
    refine wp_gd (zin_of (m := 5) rfl (by omega) (by omega)) ?_
    refine wp_gd (zin_of (m := 5) rfl (by omega) (by omega)) ?_
    exact wp_if (fun c => h77) (fun c => h73)
theorem h_isFree (o : Ob) (p0 : Int32) (h0 : 0 ≤ p0.toInt) (h1 : p0.toInt ≤ 3) (t0 : 0 ≤ (gA o 48 p0.toNatClampNeg).toInt) (t1 : (gA o 48 p0.toNatClampNeg).toInt ≤ 7) : wp (f_X9_isFree o p0) (fun _ => True) := by
  have z0 : (0 : Int32).toInt = 0 := by decide
  have h35 : ∀ s0 : Int32, 0 ≤ s0.toInt → s0.toInt ≤ 1 → wp (bk_X9_isFree_35 o p0 s0) (fun _ => True) := fun s0 g0 g1 => h_isFree38 o p0 h0 h1 zfu s0 0 g0 g1 (by omega) (by omega) (by show (4 : Int) < ((100000 : Nat) : Int) + _; omega)
  unfold f_X9_isFree
  refine wp_gd (zin_of (m := 5) rfl (by omega) (by omega)) ?_
  refine wp_if (fun c => h35 1 (by decide) (by decide)) (fun c => ?_)
  have c := cv_ne (a := (gA o 48 p0.toNatClampNeg).toInt) (b := 7) rfl (by decide) c
  have a1 : ((4 : Int32) * (gA o 48 p0.toNatClampNeg)).toInt = 4 * (gA o 48 p0.toNatClampNeg).toInt := i32_mul (by decide) rfl (by omega) (by omega)
  have a2 : (((4 : Int32) * (gA o 48 p0.toNatClampNeg)) + p0).toInt = 4 * (gA o 48 p0.toNatClampNeg).toInt + p0.toInt := i32_add a1 rfl (by omega) (by omega)
  refine wp_gd (zin_of (m := 5) rfl (by omega) (by omega)) ?_
  refine wp_gd (zin_of (m := 28) rfl (by omega) (by omega)) ?_
  exact wp_if (fun c => h35 0 (by decide) (by decide)) (fun c => h35 1 (by decide) (by decide))
theorem h_scoreNow (o : Ob) (ht : ∀ i : Nat, i < 4 → 0 ≤ (gA o 48 i).toInt ∧ (gA o 48 i).toInt ≤ 7) : ∀ (N : Nat) (v1 v2 : Int32), 0 ≤ v2.toInt → v2.toInt ≤ 4 → 4 < (N : Int) + v2.toInt → wp (lp_X9_scoreNow_4 o N (v1, v2)) (fun _ => True) := by
  intro N
  induction N with
  | zero => intro v1 v2 _ _ _; exfalso; omega
  | succ N ih =>
    intro v1 v2 h2 h2b hN
    show wp (lb_X9_scoreNow_4 o (lp_X9_scoreNow_4 o N) v1 v2) _
    unfold lb_X9_scoreNow_4
    refine wp_if (fun c => wp_some trivial) (fun c => ?_)
    have c := cv_nle (a := 4) (b := v2.toInt) (by decide) rfl c
    have h40 : ∀ s0 s1 : Int32, wp (bk_X9_scoreNow_40 o (lp_X9_scoreNow_4 o N) v2 s0 s1) (fun _ => True) := by
      intro s0 s1
      unfold bk_X9_scoreNow_40
      refine wp_lt (fun x4 e4 => ?_)
      refine wp_lt (fun x5 e5 => ?_)
      have t5 : x5.toInt = v2.toInt + 1 := by rw [e5]; exact i32_add rfl (by decide) (by omega) (by omega)
      exact ih x4 x5 (by omega) (by omega) (by omega)
    have e2 : v2.toNatClampNeg = v2.toInt.toNat := rfl
    have tt := ht v2.toNatClampNeg (by rw [e2]; omega)
    refine wp_gd (zin_of (m := 5) rfl (by omega) (by omega)) ?_
    refine wp_if (fun c => h40 _ _) (fun c => ?_)
    have c := cv_ne (a := (gA o 48 v2.toNatClampNeg).toInt) (b := 7) rfl (by decide) c
    have a1 : ((4 : Int32) * (gA o 48 v2.toNatClampNeg)).toInt = 4 * (gA o 48 v2.toNatClampNeg).toInt := i32_mul (by decide) rfl (by omega) (by omega)
    have a2 : (((4 : Int32) * (gA o 48 v2.toNatClampNeg)) + v2).toInt = 4 * (gA o 48 v2.toNatClampNeg).toInt + v2.toInt := i32_add a1 rfl (by omega) (by omega)
    refine wp_gd (zin_of (m := 5) rfl (by omega) (by omega)) ?_
    refine wp_gd (zin_of (m := 28) rfl (by omega) (by omega)) ?_
    exact h40 _ _
def FC (N : Nat) (k t0 t1 t2 t3 t4 : Int) : Prop :=
  (-1 ≤ k ∧ k ≤ 4) ∧ (0 ≤ k → -1 ≤ t0 ∧ t0 ≤ 7) ∧ (1 ≤ k → 0 ≤ t0 ∧ -1 ≤ t1 ∧ t1 ≤ 7) ∧ (2 ≤ k → 0 ≤ t1 ∧ -1 ≤ t2 ∧ t2 ≤ 7) ∧ (3 ≤ k → 0 ≤ t2 ∧ -1 ≤ t3 ∧ t3 ≤ 7) ∧ (4 ≤ k → 0 ≤ t3 ∧ t4 = -1) ∧
  (k = -1 → 0 < (N : Int)) ∧ (k = 0 → (8 - t0) * 1549 < (N : Int)) ∧ (k = 1 → (8 - t0) * 1549 + (8 - t1) * 172 < (N : Int)) ∧ (k = 2 → (8 - t0) * 1549 + (8 - t1) * 172 + (8 - t2) * 19 < (N : Int)) ∧
  (k = 3 → (8 - t0) * 1549 + (8 - t1) * 172 + (8 - t2) * 19 + (8 - t3) * 2 < (N : Int)) ∧ (k = 4 → (8 - t0) * 1549 + (8 - t1) * 172 + (8 - t2) * 19 + (8 - t3) * 2 + 1 < (N : Int))
def FCo (N : Nat) (k : Int) (o : Ob) : Prop := FC N k (gA o 48 0).toInt (gA o 48 1).toInt (gA o 48 2).toInt (gA o 48 3).toInt (gA o 48 4).toInt
theorem h_fc122 (o0 : Ob) (P : Int32 × Ob → Prop) (rec75 : Int32 × Int32 × Ob → Option (Int32 × Ob)) (v1 v2 v3 : Int32) (h2 : 0 ≤ v2.toInt) (h2b : v2.toInt ≤ 4) (g48 : Nat → Int32)
    (hrec : ∀ (s0 x : Int32) (o' : Ob), IvX9 o' → Kp [1, 8, 11, 13, 14, 15, 16, 18, 19, 20, 21, 23, 26, 29, 43, 56, 57, 58, 59, 62] [2, 3, 4, 5, 7, 10, 12, 22, 24, 25, 27, 28, 42, 50, 51, 55, 61] [(0, 1), (1, 2), (29, 36), (36, 64), (64, 71)] o0 o' → gA o' 48 = g48 → x.toInt = v2.toInt - 1 → wp (rec75 (s0, x, o')) P) :
    ∀ (N : Nat) (v4 : Int32) (o : Ob), IvX9 o → Kp [1, 8, 11, 13, 14, 15, 16, 18, 19, 20, 21, 23, 26, 29, 43, 56, 57, 58, 59, 62] [2, 3, 4, 5, 7, 10, 12, 22, 24, 25, 27, 28, 42, 50, 51, 55, 61] [(0, 1), (1, 2), (29, 36), (36, 64), (64, 71)] o0 o → gA o 48 = g48 → 0 ≤ v4.toInt → v4.toInt ≤ 4 → 4 < (N : Int) + v4.toInt → wp (lp_X9_findCrowned_122 rec75 N (v1, v2, v3, v4, o)) P := by
  intro N
  induction N with
  | zero => intro v4 o _ _ _ _ _ _; exfalso; omega
  | succ N ih =>
    intro v4 o hI hK hg h4 h4b hN
    show wp (lb_X9_findCrowned_122 rec75 (lp_X9_findCrowned_122 rec75 N) v1 v2 v3 v4 o) P
    unfold lb_X9_findCrowned_122
    have h163 : ∀ s0 : Int32, wp (bk_X9_findCrowned_163 rec75 v2 s0 o) P := by
      intro s0
      unfold bk_X9_findCrowned_163
      refine wp_lt (fun x5 e5 => ?_)
      have t5 : x5.toInt = v2.toInt + (-1) := by rw [e5]; exact i32_add rfl (by decide) (by omega) (by omega)
      exact hrec s0 x5 o hI hK hg (by omega)
    have h153 : wp (bk_X9_findCrowned_153 rec75 v1 v2 v3 o) P := by
      unfold bk_X9_findCrowned_153
      exact wp_if (fun c => h163 _) (fun c => h163 _)
    refine wp_if (fun c => h153) (fun c => ?_)
    have c := cv_nle (a := 4) (b := v4.toInt) (by decide) rfl c
    refine wp_if (fun c => h153) (fun c => ?_)
    refine wp_gd (zin_of (m := 5) rfl (by omega) (by omega)) ?_
    refine wp_gd (zin_of (m := 4) rfl (by omega) (by omega)) ?_
    refine wp_lt (fun o8 e8 => ?_)
    refine wp_lt (fun x9 e9 => ?_)
    have t9 : x9.toInt = v4.toInt + 1 := by rw [e9]; exact i32_add rfl (by decide) (by omega) (by omega)
    exact ih x9 o8 (by rw [e8]; exact hI) (hK.trans (by rw [e8]; exact Kp.tA (by decide) (by decide))) (by rw [e8]; exact hg) (by omega) (by omega) (by omega)
theorem FCn {N : Nat} {t0 t1 t2 t3 t4 : Int} (h : 0 < (N : Int)) : FC N (-1) t0 t1 t2 t3 t4 :=
  ⟨⟨by decide, by decide⟩, fun c => absurd c (by decide), fun c => absurd c (by decide), fun c => absurd c (by decide), fun c => absurd c (by decide), fun c => absurd c (by decide), fun _ => h, fun c => absurd c (by decide), fun c => absurd c (by decide), fun c => absurd c (by decide), fun c => absurd c (by decide), fun c => absurd c (by decide)⟩
theorem FC0 {N : Nat} {t0 t1 t2 t3 t4 : Int} (h : FC N 0 t0 t1 t2 t3 t4) : (-1 ≤ t0 ∧ t0 ≤ 7) ∧ ((8 - t0) * 1549 < (N : Int)) :=
  ⟨h.2.1 (by decide), h.2.2.2.2.2.2.2.1 rfl⟩
theorem FC0m {N : Nat} {t0 t1 t2 t3 t4 : Int} (h0 : (-1 ≤ t0 ∧ t0 ≤ 7)) (hN : (8 - t0) * 1549 < (N : Int)) : FC N 0 t0 t1 t2 t3 t4 :=
  ⟨⟨by decide, by decide⟩, fun _ => h0, fun c => absurd c (by decide), fun c => absurd c (by decide), fun c => absurd c (by decide), fun c => absurd c (by decide), fun c => absurd c (by decide), fun _ => hN, fun c => absurd c (by decide), fun c => absurd c (by decide), fun c => absurd c (by decide), fun c => absurd c (by decide)⟩
theorem FC1 {N : Nat} {t0 t1 t2 t3 t4 : Int} (h : FC N 1 t0 t1 t2 t3 t4) : (0 ≤ t0 ∧ t0 ≤ 7) ∧ (-1 ≤ t1 ∧ t1 ≤ 7) ∧ ((8 - t0) * 1549 + (8 - t1) * 172 < (N : Int)) :=
  ⟨⟨(h.2.2.1 (by decide)).1, (h.2.1 (by decide)).2⟩, (h.2.2.1 (by decide)).2, h.2.2.2.2.2.2.2.2.1 rfl⟩
theorem FC1m {N : Nat} {t0 t1 t2 t3 t4 : Int} (h0 : (0 ≤ t0 ∧ t0 ≤ 7)) (h1 : (-1 ≤ t1 ∧ t1 ≤ 7)) (hN : (8 - t0) * 1549 + (8 - t1) * 172 < (N : Int)) : FC N 1 t0 t1 t2 t3 t4 :=
  ⟨⟨by decide, by decide⟩, fun _ => ⟨Int.le_trans (by decide) h0.1, h0.2⟩, fun _ => ⟨h0.1, h1.1, h1.2⟩, fun c => absurd c (by decide), fun c => absurd c (by decide), fun c => absurd c (by decide), fun c => absurd c (by decide), fun c => absurd c (by decide), fun _ => hN, fun c => absurd c (by decide), fun c => absurd c (by decide), fun c => absurd c (by decide)⟩
theorem FC2 {N : Nat} {t0 t1 t2 t3 t4 : Int} (h : FC N 2 t0 t1 t2 t3 t4) : (0 ≤ t0 ∧ t0 ≤ 7) ∧ (0 ≤ t1 ∧ t1 ≤ 7) ∧ (-1 ≤ t2 ∧ t2 ≤ 7) ∧ ((8 - t0) * 1549 + (8 - t1) * 172 + (8 - t2) * 19 < (N : Int)) :=
  ⟨⟨(h.2.2.1 (by decide)).1, (h.2.1 (by decide)).2⟩, ⟨(h.2.2.2.1 (by decide)).1, (h.2.2.1 (by decide)).2.2⟩, (h.2.2.2.1 (by decide)).2, h.2.2.2.2.2.2.2.2.2.1 rfl⟩
theorem FC2m {N : Nat} {t0 t1 t2 t3 t4 : Int} (h0 : (0 ≤ t0 ∧ t0 ≤ 7)) (h1 : (0 ≤ t1 ∧ t1 ≤ 7)) (h2 : (-1 ≤ t2 ∧ t2 ≤ 7)) (hN : (8 - t0) * 1549 + (8 - t1) * 172 + (8 - t2) * 19 < (N : Int)) : FC N 2 t0 t1 t2 t3 t4 :=
  ⟨⟨by decide, by decide⟩, fun _ => ⟨Int.le_trans (by decide) h0.1, h0.2⟩, fun _ => ⟨h0.1, (show (-1 : Int) ≤ t1 ∧ t1 ≤ 7 from ⟨Int.le_trans (by decide) h1.1, h1.2⟩).1, h1.2⟩, fun _ => ⟨h1.1, h2.1, h2.2⟩, fun c => absurd c (by decide), fun c => absurd c (by decide), fun c => absurd c (by decide), fun c => absurd c (by decide), fun c => absurd c (by decide), fun _ => hN, fun c => absurd c (by decide), fun c => absurd c (by decide)⟩
theorem FC3 {N : Nat} {t0 t1 t2 t3 t4 : Int} (h : FC N 3 t0 t1 t2 t3 t4) : (0 ≤ t0 ∧ t0 ≤ 7) ∧ (0 ≤ t1 ∧ t1 ≤ 7) ∧ (0 ≤ t2 ∧ t2 ≤ 7) ∧ (-1 ≤ t3 ∧ t3 ≤ 7) ∧ ((8 - t0) * 1549 + (8 - t1) * 172 + (8 - t2) * 19 + (8 - t3) * 2 < (N : Int)) :=
  ⟨⟨(h.2.2.1 (by decide)).1, (h.2.1 (by decide)).2⟩, ⟨(h.2.2.2.1 (by decide)).1, (h.2.2.1 (by decide)).2.2⟩, ⟨(h.2.2.2.2.1 (by decide)).1, (h.2.2.2.1 (by decide)).2.2⟩, (h.2.2.2.2.1 (by decide)).2, h.2.2.2.2.2.2.2.2.2.2.1 rfl⟩
theorem FC3m {N : Nat} {t0 t1 t2 t3 t4 : Int} (h0 : (0 ≤ t0 ∧ t0 ≤ 7)) (h1 : (0 ≤ t1 ∧ t1 ≤ 7)) (h2 : (0 ≤ t2 ∧ t2 ≤ 7)) (h3 : (-1 ≤ t3 ∧ t3 ≤ 7)) (hN : (8 - t0) * 1549 + (8 - t1) * 172 + (8 - t2) * 19 + (8 - t3) * 2 < (N : Int)) : FC N 3 t0 t1 t2 t3 t4 :=
  ⟨⟨by decide, by decide⟩, fun _ => ⟨Int.le_trans (by decide) h0.1, h0.2⟩, fun _ => ⟨h0.1, (show (-1 : Int) ≤ t1 ∧ t1 ≤ 7 from ⟨Int.le_trans (by decide) h1.1, h1.2⟩).1, h1.2⟩, fun _ => ⟨h1.1, (show (-1 : Int) ≤ t2 ∧ t2 ≤ 7 from ⟨Int.le_trans (by decide) h2.1, h2.2⟩).1, h2.2⟩, fun _ => ⟨h2.1, h3.1, h3.2⟩, fun c => absurd c (by decide), fun c => absurd c (by decide), fun c => absurd c (by decide), fun c => absurd c (by decide), fun c => absurd c (by decide), fun _ => hN, fun c => absurd c (by decide)⟩
theorem FC4 {N : Nat} {t0 t1 t2 t3 t4 : Int} (h : FC N 4 t0 t1 t2 t3 t4) : (0 ≤ t0 ∧ t0 ≤ 7) ∧ (0 ≤ t1 ∧ t1 ≤ 7) ∧ (0 ≤ t2 ∧ t2 ≤ 7) ∧ (0 ≤ t3 ∧ t3 ≤ 7) ∧ (t4 = -1) ∧ ((8 - t0) * 1549 + (8 - t1) * 172 + (8 - t2) * 19 + (8 - t3) * 2 + 1 < (N : Int)) :=
  ⟨⟨(h.2.2.1 (by decide)).1, (h.2.1 (by decide)).2⟩, ⟨(h.2.2.2.1 (by decide)).1, (h.2.2.1 (by decide)).2.2⟩, ⟨(h.2.2.2.2.1 (by decide)).1, (h.2.2.2.1 (by decide)).2.2⟩, ⟨(h.2.2.2.2.2.1 (by decide)).1, (h.2.2.2.2.1 (by decide)).2.2⟩, (h.2.2.2.2.2.1 (by decide)).2, h.2.2.2.2.2.2.2.2.2.2.2 rfl⟩
theorem FC4m {N : Nat} {t0 t1 t2 t3 t4 : Int} (h0 : (0 ≤ t0 ∧ t0 ≤ 7)) (h1 : (0 ≤ t1 ∧ t1 ≤ 7)) (h2 : (0 ≤ t2 ∧ t2 ≤ 7)) (h3 : (0 ≤ t3 ∧ t3 ≤ 7)) (h4 : (t4 = -1)) (hN : (8 - t0) * 1549 + (8 - t1) * 172 + (8 - t2) * 19 + (8 - t3) * 2 + 1 < (N : Int)) : FC N 4 t0 t1 t2 t3 t4 :=
  ⟨⟨by decide, by decide⟩, fun _ => ⟨Int.le_trans (by decide) h0.1, h0.2⟩, fun _ => ⟨h0.1, (show (-1 : Int) ≤ t1 ∧ t1 ≤ 7 from ⟨Int.le_trans (by decide) h1.1, h1.2⟩).1, h1.2⟩, fun _ => ⟨h1.1, (show (-1 : Int) ≤ t2 ∧ t2 ≤ 7 from ⟨Int.le_trans (by decide) h2.1, h2.2⟩).1, h2.2⟩, fun _ => ⟨h2.1, (show (-1 : Int) ≤ t3 ∧ t3 ≤ 7 from ⟨Int.le_trans (by decide) h3.1, h3.2⟩).1, h3.2⟩, fun _ => ⟨h3.1, h4⟩, fun c => absurd c (by decide), fun c => absurd c (by decide), fun c => absurd c (by decide), fun c => absurd c (by decide), fun c => absurd c (by decide), fun _ => hN⟩
theorem h_fc75 (o0 : Ob) : ∀ (N : Nat) (v1 v2 : Int32) (o : Ob), IvX9 o → Kp [1, 8, 11, 13, 14, 15, 16, 18, 19, 20, 21, 23, 26, 29, 43, 56, 57, 58, 59, 62] [2, 3, 4, 5, 7, 10, 12, 22, 24, 25, 27, 28, 42, 50, 51, 55, 61] [(0, 1), (1, 2), (29, 36), (36, 64), (64, 71)] o0 o → FCo N v2.toInt o → wp (lp_X9_findCrowned_75 N (v1, v2, o)) (fun (y : Int32 × Ob) => IvX9 y.2 ∧ Kp [1, 8, 11, 13, 14, 15, 16, 18, 19, 20, 21, 23, 26, 29, 43, 56, 57, 58, 59, 62] [2, 3, 4, 5, 7, 10, 12, 22, 24, 25, 27, 28, 42, 50, 51, 55, 61] [(0, 1), (1, 2), (29, 36), (36, 64), (64, 71)] o0 y.2) := by
  intro N
  induction N with
  | zero =>
    intro v1 v2 o _ _ hF; exfalso
    have hF : FC 0 v2.toInt _ _ _ _ _ := hF
    have hk : -1 ≤ v2.toInt ∧ v2.toInt ≤ 4 := hF.1
    rcases (show v2.toInt = -1 ∨ v2.toInt = 0 ∨ v2.toInt = 1 ∨ v2.toInt = 2 ∨ v2.toInt = 3 ∨ v2.toInt = 4 by omega) with e | e | e | e | e | e <;> rw [e] at hF
    · have q := hF.2.2.2.2.2.2.1 rfl; omega
    · have q := FC0 hF; omega
    · have q := FC1 hF; omega
    · have q := FC2 hF; omega
    · have q := FC3 hF; omega
    · have q := FC4 hF; omega
  | succ N ih =>
    intro v1 v2 o hI hK hF
    show wp (lb_X9_findCrowned_75 (lp_X9_findCrowned_75 N) v1 v2 o) _
    unfold lb_X9_findCrowned_75
    have hk : -1 ≤ v2.toInt ∧ v2.toInt ≤ 4 := hF.1
    refine wp_if (fun c => wp_some ⟨hI, hK⟩) (fun c => ?_)
    have c := cv_nlt (a := v2.toInt) (b := 0) rfl (by decide) c
    refine wp_gd (zin_of (m := 5) rfl (by omega) (by omega)) ?_
    refine wp_gd (zin_of (m := 5) rfl (by omega) (by omega)) ?_
    obtain ⟨k, ek⟩ : ∃ k : Nat, v2.toInt = (k : Int) := ⟨v2.toInt.toNat, by omega⟩
    have nk : v2.toNatClampNeg = k := tnc_eq ek
    have hkk : -1 ≤ (gA o 48 k).toInt ∧ (gA o 48 k).toInt ≤ 7 := by
      have hF : FC (N + 1) v2.toInt _ _ _ _ _ := hF
      rw [ek] at hF
      rcases (show k = 0 ∨ k = 1 ∨ k = 2 ∨ k = 3 ∨ k = 4 by omega) with e | e | e | e | e <;> subst e
      · exact (FC0 hF).1
      · exact (FC1 hF).2.1
      · exact (FC2 hF).2.2.1
      · exact (FC3 hF).2.2.2.1
      · have q := (FC4 hF).2.2.2.2.1; omega
    have t1 : ((gA o 48 k) + (1 : Int32)).toInt = (gA o 48 k).toInt + 1 := i32_add rfl (by decide) (by omega) (by omega)
    refine wp_lt (fun o4 e4 => ?_)
    rw [nk] at e4
    have a4 : ∀ i, gA o4 48 i = if i = k then (gA o 48 k) + (1 : Int32) else gA o 48 i := by intro i; rw [e4]; exact upd_at
    have hI4 : IvX9 o4 := by
      rw [e4, ← nk]
      refine ibX9_48 hI (by omega) (Or.inr (Or.inr ?_))
      rw [nk]; exact ⟨by omega, by omega⟩
    have hK4 : Kp [1, 8, 11, 13, 14, 15, 16, 18, 19, 20, 21, 23, 26, 29, 43, 56, 57, 58, 59, 62] [2, 3, 4, 5, 7, 10, 12, 22, 24, 25, 27, 28, 42, 50, 51, 55, 61] [(0, 1), (1, 2), (29, 36), (36, 64), (64, 71)] o0 o4 := hK.trans (by rw [e4]; exact Kp.tA (by decide) (by decide))
    have ak : gA o4 48 k = (gA o 48 k) + (1 : Int32) := by rw [a4, if_pos rfl]
    have ai : ∀ i, i ≠ k → gA o4 48 i = gA o 48 i := fun i hi => by rw [a4, if_neg hi]
    have z0 : (0 : Int32).toInt = 0 := by decide
    have hup : (k = 4 ∨ 7 < (gA o4 48 k).toInt) → ∀ s0 : Int32, wp (bk_X9_findCrowned_118 (lp_X9_findCrowned_75 N) v1 v2 s0 o4) (fun (y : Int32 × Ob) => IvX9 y.2 ∧ Kp [1, 8, 11, 13, 14, 15, 16, 18, 19, 20, 21, 23, 26, 29, 43, 56, 57, 58, 59, 62] [2, 3, 4, 5, 7, 10, 12, 22, 24, 25, 27, 28, 42, 50, 51, 55, 61] [(0, 1), (1, 2), (29, 36), (36, 64), (64, 71)] o0 y.2) := by
      intro hc s0
      unfold bk_X9_findCrowned_118
      refine h_fc122 o0 _ (lp_X9_findCrowned_75 N) v1 v2 s0 (by omega) (by omega) (gA o4 48) (fun s1 x o' g1 g2 g3 g4 => ih s1 x o' g1 g2 ?_) zfu 0 o4 hI4 hK4 rfl (by omega) (by omega) (by show (4 : Int) < ((100000 : Nat) : Int) + _; omega)
      have hF : FC (N + 1) v2.toInt _ _ _ _ _ := hF
      show FC N x.toInt (gA o' 48 0).toInt (gA o' 48 1).toInt (gA o' 48 2).toInt (gA o' 48 3).toInt (gA o' 48 4).toInt
      rw [g3, g4]
      rw [ak] at hc
      rw [ek] at hF ⊢
      rw [t1] at hc
      have hN : ((N + 1 : Nat) : Int) = (N : Int) + 1 := rfl
      clear ih hK hK4 hI hI4 e4 a4 g1 g2 g3 g4
      rcases (show k = 0 ∨ k = 1 ∨ k = 2 ∨ k = 3 ∨ k = 4 by omega) with e | e | e | e | e <;> subst e
      · have b1 := ai 1 (by decide); have b2 := ai 2 (by decide); have b3 := ai 3 (by decide); have b4 := ai 4 (by decide)
        rw [ak, b1, b2, b3, b4, t1]
        have q := FC0 hF
        clear ai hF
        exact FCn (by omega)
      · have b0 := ai 0 (by decide); have b2 := ai 2 (by decide); have b3 := ai 3 (by decide); have b4 := ai 4 (by decide)
        rw [b0, ak, b2, b3, b4, t1]
        have q := FC1 hF
        clear ai hF
        exact FC0m ⟨by omega, by omega⟩ (by omega)
      · have b0 := ai 0 (by decide); have b1 := ai 1 (by decide); have b3 := ai 3 (by decide); have b4 := ai 4 (by decide)
        rw [b0, b1, ak, b3, b4, t1]
        have q := FC2 hF
        clear ai hF
        exact FC1m ⟨by omega, by omega⟩ ⟨by omega, by omega⟩ (by omega)
      · have b0 := ai 0 (by decide); have b1 := ai 1 (by decide); have b2 := ai 2 (by decide); have b4 := ai 4 (by decide)
        rw [b0, b1, b2, ak, b4, t1]
        have q := FC3 hF
        clear ai hF
        exact FC2m ⟨by omega, by omega⟩ ⟨by omega, by omega⟩ ⟨by omega, by omega⟩ (by omega)
      · have b0 := ai 0 (by decide); have b1 := ai 1 (by decide); have b2 := ai 2 (by decide); have b3 := ai 3 (by decide)
        rw [b0, b1, b2, b3, ak, t1]
        have q := FC4 hF
        clear ai hF
        exact FC3m ⟨by omega, by omega⟩ ⟨by omega, by omega⟩ ⟨by omega, by omega⟩ ⟨by omega, by omega⟩ (by omega)
    have h105 : (k = 4 ∨ 7 < (gA o4 48 k).toInt) → wp (bk_X9_findCrowned_105 (lp_X9_findCrowned_75 N) v1 v2 o4) (fun (y : Int32 × Ob) => IvX9 y.2 ∧ Kp [1, 8, 11, 13, 14, 15, 16, 18, 19, 20, 21, 23, 26, 29, 43, 56, 57, 58, 59, 62] [2, 3, 4, 5, 7, 10, 12, 22, 24, 25, 27, 28, 42, 50, 51, 55, 61] [(0, 1), (1, 2), (29, 36), (36, 64), (64, 71)] o0 y.2) := by
      intro hc
      unfold bk_X9_findCrowned_105
      refine wp_if (fun c4 => ?_) (fun c4 => hup hc _)
      have c4 := cv_eq (a := v2.toInt) (b := 4) rfl (by decide) c4
      have e : k = 4 := by omega
      subst e
      refine wp_bd (h_scoreNow o4 (fun i hi => ?_) zfu 0 0 (by omega) (by omega) (by show (4 : Int) < ((100000 : Nat) : Int) + _; omega)) (fun z _ => hup hc z)
      rw [ai i (by omega)]
      have hF : FC (N + 1) v2.toInt _ _ _ _ _ := hF
      rw [ek] at hF
      have q := FC4 hF
      rcases (show i = 0 ∨ i = 1 ∨ i = 2 ∨ i = 3 by omega) with e | e | e | e <;> subst e
      · exact q.1
      · exact q.2.1
      · exact q.2.2.1
      · exact q.2.2.2.1
    refine wp_if (fun c4 => ?_) (fun c4 => ?_)
    · have c4 := cv_eq (a := v2.toInt) (b := 4) rfl (by decide) c4
      exact h105 (Or.inl (by omega))
    have c4 := cv_ne (a := v2.toInt) (b := 4) rfl (by decide) c4
    refine wp_gd (zin_of (m := 5) rfl (by omega) (by omega)) ?_
    rw [nk]
    refine wp_if (fun c7 => ?_) (fun c7 => ?_)
    rotate_left
    · have c7 := cv_nle (a := (gA o4 48 k).toInt) (b := 7) rfl (by decide) c7
      exact h105 (Or.inr c7)
    have c7 := cv_le (a := (gA o4 48 k).toInt) (b := 7) rfl (by decide) c7
    rw [ak, t1] at c7
    refine wp_bd (h_isFree o4 v2 (by omega) (by omega) (by rw [nk, ak, t1]; omega) (by rw [nk, ak, t1]; omega)) (fun z12 _ => ?_)
    refine wp_if (fun c9 => ?_) (fun c9 => ?_)
    · refine ih v1 v2 o4 hI4 hK4 ?_
      have hF : FC (N + 1) v2.toInt _ _ _ _ _ := hF
      show FC N v2.toInt (gA o4 48 0).toInt (gA o4 48 1).toInt (gA o4 48 2).toInt (gA o4 48 3).toInt (gA o4 48 4).toInt
      rw [ek] at hF ⊢
      have hN : ((N + 1 : Nat) : Int) = (N : Int) + 1 := rfl
      clear ih hup h105 hK hK4 hI hI4 e4 a4
      rcases (show k = 0 ∨ k = 1 ∨ k = 2 ∨ k = 3 by omega) with e | e | e | e <;> subst e
      · have b1 := ai 1 (by decide); have b2 := ai 2 (by decide); have b3 := ai 3 (by decide); have b4 := ai 4 (by decide)
        rw [ak, b1, b2, b3, b4, t1]
        have q := FC0 hF
        clear ai hF
        exact FC0m ⟨by omega, by omega⟩ (by omega)
      · have b0 := ai 0 (by decide); have b2 := ai 2 (by decide); have b3 := ai 3 (by decide); have b4 := ai 4 (by decide)
        rw [b0, ak, b2, b3, b4, t1]
        have q := FC1 hF
        clear ai hF
        exact FC1m ⟨by omega, by omega⟩ ⟨by omega, by omega⟩ (by omega)
      · have b0 := ai 0 (by decide); have b1 := ai 1 (by decide); have b3 := ai 3 (by decide); have b4 := ai 4 (by decide)
        rw [b0, b1, ak, b3, b4, t1]
        have q := FC2 hF
        clear ai hF
        exact FC2m ⟨by omega, by omega⟩ ⟨by omega, by omega⟩ ⟨by omega, by omega⟩ (by omega)
      · have b0 := ai 0 (by decide); have b1 := ai 1 (by decide); have b2 := ai 2 (by decide); have b4 := ai 4 (by decide)
        rw [b0, b1, b2, ak, b4, t1]
        have q := FC3 hF
        clear ai hF
        exact FC3m ⟨by omega, by omega⟩ ⟨by omega, by omega⟩ ⟨by omega, by omega⟩ ⟨by omega, by omega⟩ (by omega)
    · refine wp_lt (fun x13 e13 => ?_)
      have t13 : x13.toInt = (k : Int) + 1 := by rw [e13]; exact i32_add ek (by decide) (by omega) (by omega)
      have n13 : x13.toNatClampNeg = k + 1 := tnc_eq (by omega)
      refine wp_gd (zin_of (m := 5) rfl (by omega) (by omega)) ?_
      refine wp_lt (fun o15 e15 => ?_)
      have hI15 : IvX9 o15 := by rw [e15]; exact ibX9_48 hI4 (by omega) (Or.inr (Or.inr ⟨by decide, by decide⟩))
      have hK15 : Kp [1, 8, 11, 13, 14, 15, 16, 18, 19, 20, 21, 23, 26, 29, 43, 56, 57, 58, 59, 62] [2, 3, 4, 5, 7, 10, 12, 22, 24, 25, 27, 28, 42, 50, 51, 55, 61] [(0, 1), (1, 2), (29, 36), (36, 64), (64, 71)] o0 o15 := hK4.trans (by rw [e15]; exact Kp.tA (by decide) (by decide))
      rw [n13] at e15
      have c15 : ∀ i, gA o15 48 i = if i = k + 1 then (-1 : Int32) else gA o4 48 i := by intro i; rw [e15]; exact upd_at
      have m1 : (-1 : Int32).toInt = -1 := by decide
      have hnew : (gA o15 48 (k + 1)).toInt = -1 := by rw [c15, if_pos rfl]; exact m1
      have hkk2 : (gA o15 48 k).toInt = (gA o 48 k).toInt + 1 := by rw [c15, if_neg (by omega), ak]; exact t1
      have hoth : ∀ i, i ≠ k → i ≠ k + 1 → (gA o15 48 i).toInt = (gA o 48 i).toInt := fun i h1 h2 => by rw [c15, if_neg h2, ai i h1]
      refine ih v1 x13 o15 hI15 hK15 ?_
      have hF : FC (N + 1) v2.toInt _ _ _ _ _ := hF
      show FC N x13.toInt (gA o15 48 0).toInt (gA o15 48 1).toInt (gA o15 48 2).toInt (gA o15 48 3).toInt (gA o15 48 4).toInt
      rw [t13]
      rw [ek] at hF
      have hN : ((N + 1 : Nat) : Int) = (N : Int) + 1 := rfl
      clear ih hup h105 hK hK4 hK15 hI hI4 hI15 e4 e15 a4 c15 ai
      rcases (show k = 0 ∨ k = 1 ∨ k = 2 ∨ k = 3 by omega) with e | e | e | e <;> subst e
      · have b2 := hoth 2 (by decide) (by decide); have b3 := hoth 3 (by decide) (by decide); have b4 := hoth 4 (by decide) (by decide)
        have bn : (gA o15 48 1).toInt = -1 := hnew
        have q := FC0 hF
        clear hoth hF
        exact FC1m ⟨by omega, by omega⟩ ⟨by omega, by omega⟩ (by omega)
      · have b0 := hoth 0 (by decide) (by decide); have b3 := hoth 3 (by decide) (by decide); have b4 := hoth 4 (by decide) (by decide)
        have bn : (gA o15 48 2).toInt = -1 := hnew
        have q := FC1 hF
        clear hoth hF
        exact FC2m ⟨by omega, by omega⟩ ⟨by omega, by omega⟩ ⟨by omega, by omega⟩ (by omega)
      · have b0 := hoth 0 (by decide) (by decide); have b1 := hoth 1 (by decide) (by decide); have b4 := hoth 4 (by decide) (by decide)
        have bn : (gA o15 48 3).toInt = -1 := hnew
        have q := FC2 hF
        clear hoth hF
        exact FC3m ⟨by omega, by omega⟩ ⟨by omega, by omega⟩ ⟨by omega, by omega⟩ ⟨by omega, by omega⟩ (by omega)
      · have b0 := hoth 0 (by decide) (by decide); have b1 := hoth 1 (by decide) (by decide); have b2 := hoth 2 (by decide) (by decide)
        have bn : (gA o15 48 4).toInt = -1 := hnew
        have q := FC3 hF
        clear hoth hF
        exact FC4m ⟨by omega, by omega⟩ ⟨by omega, by omega⟩ ⟨by omega, by omega⟩ ⟨by omega, by omega⟩ bn (by omega)
theorem h_fc10 (o0 : Ob) (P : Int32 × Ob → Prop) (rec2 : Int32 × Ob → Option (Int32 × Ob)) (v1 : Int32) (h1 : 0 ≤ v1.toInt) (h1b : v1.toInt ≤ 6) (ho : (gI o0 20).toInt = 0)
    (hrec : ∀ (x : Int32) (o' : Ob), IvX9 o' → Kp [1, 8, 11, 13, 14, 15, 16, 18, 19, 20, 21, 23, 26, 29, 43, 56, 57, 58, 59, 62] [2, 3, 4, 5, 7, 10, 12, 22, 24, 25, 27, 28, 42, 50, 51, 55, 61] [(0, 1), (1, 2), (29, 36), (36, 64), (64, 71)] o0 o' → x.toInt = v1.toInt + 1 → wp (rec2 (x, o')) P) :
    ∀ (N : Nat) (v2 : Int32) (o : Ob), IvX9 o → Kp [1, 8, 11, 13, 14, 15, 16, 18, 19, 20, 21, 23, 26, 29, 43, 56, 57, 58, 59, 62] [2, 3, 4, 5, 7, 10, 12, 22, 24, 25, 27, 28, 42, 50, 51, 55, 61] [(0, 1), (1, 2), (29, 36), (36, 64), (64, 71)] o0 o → 0 ≤ v2.toInt → v2.toInt ≤ 4 → 4 < (N : Int) + v2.toInt → wp (lp_X9_findCrowned_10 rec2 N (v1, v2, o)) P := by
  intro N
  induction N with
  | zero => intro v2 o _ _ _ _ _; exfalso; omega
  | succ N ih =>
    intro v2 o hI hK h2 h2b hN
    show wp (lb_X9_findCrowned_10 rec2 (lp_X9_findCrowned_10 rec2 N) v1 v2 o) P
    unfold lb_X9_findCrowned_10
    refine wp_if (fun c => ?_) (fun c => ?_)
    · refine wp_lt (fun x16 e16 => ?_)
      exact hrec x16 o hI hK (by rw [e16]; exact i32_add rfl (by decide) (by omega) (by omega))
    have c := cv_nle (a := 4) (b := v2.toInt) (by decide) rfl c
    have a1 : ((4 : Int32) * v1).toInt = 4 * v1.toInt := i32_mul (by decide) rfl (by omega) (by omega)
    have a2 : (((4 : Int32) * v1) + v2).toInt = 4 * v1.toInt + v2.toInt := i32_add a1 rfl (by omega) (by omega)
    have h51 : ∀ (s0 : Int32) (o' : Ob), IvX9 o' → Kp [1, 8, 11, 13, 14, 15, 16, 18, 19, 20, 21, 23, 26, 29, 43, 56, 57, 58, 59, 62] [2, 3, 4, 5, 7, 10, 12, 22, 24, 25, 27, 28, 42, 50, 51, 55, 61] [(0, 1), (1, 2), (29, 36), (36, 64), (64, 71)] o0 o' → wp (bk_X9_findCrowned_51 rec2 (lp_X9_findCrowned_10 rec2 N) v1 v2 s0 (((4 : Int32) * v1) + v2) o') P := by
      intro s0 o' hI' hK'
      unfold bk_X9_findCrowned_51
      refine wp_gd (zin_of (m := 28) rfl (by omega) (by omega)) ?_
      refine wp_lt (fun o19 e19 => ?_)
      refine wp_lt (fun x20 e20 => ?_)
      have t20 : x20.toInt = v2.toInt + 1 := by rw [e20]; exact i32_add rfl (by decide) (by omega) (by omega)
      exact ih x20 o19 (by rw [e19]; exact hI') (hK'.trans (by rw [e19]; exact Kp.tA (by decide) (by decide))) (by omega) (by omega) (by omega)
    refine wp_bd (s_X9_isPerson o v1 hI) (fun z17 hz17 => ?_)
    refine wp_if (fun c => h51 _ o hI hK) (fun c => ?_)
    have o20 : (gI o 20).toInt = 0 := by rw [hK.1 20 (by decide)]; exact ho
    refine wp_bd (s_X9_isBarred o v1 v2 hI ⟨by omega, by omega⟩ ⟨by omega, by omega⟩ ⟨by omega, by omega⟩) (fun z21 hz21 => ?_)
    have hK21 : Kp [1, 8, 11, 13, 14, 15, 16, 18, 19, 20, 21, 23, 26, 29, 43, 56, 57, 58, 59, 62] [2, 3, 4, 5, 7, 10, 12, 22, 24, 25, 27, 28, 42, 50, 51, 55, 61] [(0, 1), (1, 2), (29, 36), (36, 64), (64, 71)] o0 z21.2 := hK.trans (hz21.2.2.mono (by decide) (by decide) (by decide))
    refine wp_if (fun c => ?_) (fun c => h51 _ _ hz21.2.1 hK21)
    have o21 : (gI z21.2 20).toInt = 0 := by rw [hK21.1 20 (by decide)]; exact ho
    refine wp_bd (s_X9_runsOf z21.2 v1 v2 hz21.2.1 ⟨by omega, by omega⟩ ⟨by omega, by omega⟩ ⟨by omega, by omega⟩) (fun z22 hz22 => ?_)
    exact h51 _ _ hz22.2.1 (hK21.trans (hz22.2.2.mono (by decide) (by decide) (by decide)))
set_option maxHeartbeats 4000000 in
set_option maxRecDepth 100000 in
theorem s_X9_findCrowned (o_me : Ob) (hI_me : IvX9 o_me) (q0 : 0 ≤ (gI o_me 20).toInt ∧ (gI o_me 20).toInt ≤ 0) : wp (f_X9_findCrowned   o_me) (fun (y : Int32 × Ob) => IvX9 y.2 ∧ Kp [1, 8, 11, 13, 14, 15, 16, 18, 19, 20, 21, 23, 26, 29, 43, 56, 57, 58, 59, 62] [2, 3, 4, 5, 7, 10, 12, 22, 24, 25, 27, 28, 42, 50, 51, 55, 61] [(0, 1), (1, 2), (29, 36), (36, 64), (64, 71)] o_me y.2) := by
  have ho : (gI o_me 20).toInt = 0 := by omega
  have z0 : (0 : Int32).toInt = 0 := by decide
  have loop : ∀ (N : Nat) (v1 : Int32) (o : Ob), IvX9 o → Kp [1, 8, 11, 13, 14, 15, 16, 18, 19, 20, 21, 23, 26, 29, 43, 56, 57, 58, 59, 62] [2, 3, 4, 5, 7, 10, 12, 22, 24, 25, 27, 28, 42, 50, 51, 55, 61] [(0, 1), (1, 2), (29, 36), (36, 64), (64, 71)] o_me o → 0 ≤ v1.toInt → v1.toInt ≤ 7 → 7 < (N : Int) + v1.toInt → wp (lp_X9_findCrowned_2 N (v1, o)) (fun (y : Int32 × Ob) => IvX9 y.2 ∧ Kp [1, 8, 11, 13, 14, 15, 16, 18, 19, 20, 21, 23, 26, 29, 43, 56, 57, 58, 59, 62] [2, 3, 4, 5, 7, 10, 12, 22, 24, 25, 27, 28, 42, 50, 51, 55, 61] [(0, 1), (1, 2), (29, 36), (36, 64), (64, 71)] o_me y.2) := by
    intro N
    induction N with
    | zero => intro v1 o _ _ _ _ _; exfalso; omega
    | succ N ih =>
      intro v1 o hI hK h1 h1b hN
      show wp (lb_X9_findCrowned_2 (lp_X9_findCrowned_2 N) v1 o) _
      unfold lb_X9_findCrowned_2
      refine wp_if (fun c => ?_) (fun c => ?_)
      · refine wp_lt (fun o1 e1 => ?_)
        have hI1 : IvX9 o1 := by rw [e1]; exact ibX9_48 hI (by decide) (Or.inr (Or.inr ⟨by decide, by decide⟩))
        have hK1 : Kp [1, 8, 11, 13, 14, 15, 16, 18, 19, 20, 21, 23, 26, 29, 43, 56, 57, 58, 59, 62] [2, 3, 4, 5, 7, 10, 12, 22, 24, 25, 27, 28, 42, 50, 51, 55, 61] [(0, 1), (1, 2), (29, 36), (36, 64), (64, 71)] o_me o1 := hK.trans (by rw [e1]; exact Kp.tA (by decide) (by decide))
        have a0 : (gA o1 48 0).toInt = -1 := by
          rw [e1, upd_at, if_pos (by decide)]; decide
        refine h_fc75 o_me zfu (-1) 0 o1 hI1 hK1 ?_
        unfold FCo FC
        rw [z0]
        have zz : (zfu : Int) = 100000 := rfl
        omega
      · have c := cv_nle (a := 7) (b := v1.toInt) (by decide) rfl c
        refine h_fc10 o_me _ (lp_X9_findCrowned_2 N) v1 (by omega) (by omega) ho (fun x o' g1 g2 g3 => ih x o' g1 g2 (by omega) (by omega) (by omega)) zfu 0 o hI hK (by omega) (by omega) (by show (4 : Int) < ((100000 : Nat) : Int) + _; omega)
  unfold f_X9_findCrowned
  exact loop zfu 0 o_me hI_me Kp.rf (by omega) (by omega) (by show (7 : Int) < ((100000 : Nat) : Int) + _; omega)

set_option maxHeartbeats 4000000 in
set_option maxRecDepth 100000 in
theorem s_X9_crowned (o_me : Ob) (p0 : Int32) (hI_me : IvX9 o_me) (q0 : 0 ≤ (gI o_me 20).toInt ∧ (gI o_me 20).toInt ≤ 0) : wp (f_X9_crowned   o_me p0) (fun (y : Int32 × Ob) => IvX9 y.2 ∧ Kp [1, 8, 11, 13, 14, 15, 16, 18, 19, 20, 21, 23, 26, 29, 43, 56, 57, 58, 59, 62] [2, 3, 4, 5, 7, 10, 12, 22, 24, 25, 27, 28, 42, 50, 51, 55, 61] [(0, 1), (1, 2), (29, 36), (36, 64), (64, 71)] o_me y.2) := by
  have li0 : (-1 : Int32).toInt = (-1) := by decide
  have li1 : (0 : Int32).toInt = 0 := by decide
  have li2 : (0 : Int64).toInt = 0 := by decide
  have li3 : (1 : Int32).toInt = 1 := by decide
  have li4 : (4 : Int64).toInt = 4 := by decide
  unfold f_X9_crowned
  refine wp_lt (fun o1 eo1 => ?_)
  have hIo1 : IvX9 o1 := by rw [eo1]; exact hI_me
  have ko1_k2 : (gI o1 20).toInt = (gI o_me 20).toInt := by rw [eo1]; rfl
  have ko1_v : (gI o1 0).toInt = 0 := by rw [eo1]; exact (show ((0 : Int32)).toInt = _ from by decide)
  have hkpo1 : Kp [1, 8, 11, 13, 14, 15, 16, 18, 19, 20, 21, 23, 26, 29, 43, 56, 57, 58, 59, 62] [2, 3, 4, 5, 7, 10, 12, 22, 24, 25, 27, 28, 42, 50, 51, 55, 61] [(0, 1), (1, 2), (29, 36), (36, 64), (64, 71)] o_me o1 := Kp.rf.trans (by rw [eo1]; exact Kp.sI (by decide))
  have rg3 := i32_rg p0
  have t4 : p0.toInt64.toInt = p0.toInt := Int32.toInt_toInt64 _
  refine wp_bd (s_X9_in   p0.toInt64 (0 : Int64) (4 : Int64)    ) (fun z5 hz5 => ?_)
  obtain ⟨hz5_0, hz5_1⟩ := hz5
  refine wp_if (fun c6 => ?_) (fun c6 => ?_)
  · have c6 := cv_eq (a := z5.toInt) (b := 0) rfl (by decide) c6
    refine wp_some ?_
    exact (show IvX9 o1 ∧ Kp [1, 8, 11, 13, 14, 15, 16, 18, 19, 20, 21, 23, 26, 29, 43, 56, 57, 58, 59, 62] [2, 3, 4, 5, 7, 10, 12, 22, 24, 25, 27, 28, 42, 50, 51, 55, 61] [(0, 1), (1, 2), (29, 36), (36, 64), (64, 71)] o_me o1 from ⟨hIo1, hkpo1⟩)
  · have c6z := c6
    have c6i := hz5_1 c6
    have c6 := cv_ne (a := z5.toInt) (b := 0) rfl (by decide) c6
    refine wp_bd (s_X9_findCrowned   o1  hIo1  ⟨(zl_e (zq_0 ko1_k2.symm) q0.1 (by decide)), (zu_e (zq_0 ko1_k2) q0.2 (by decide))⟩) (fun z7 hz7 => ?_)
    obtain ⟨hz7_0, hz7_1⟩ := hz7
    have hkpz7_me : Kp [1, 8, 11, 13, 14, 15, 16, 18, 19, 20, 21, 23, 26, 29, 43, 56, 57, 58, 59, 62] [2, 3, 4, 5, 7, 10, 12, 22, 24, 25, 27, 28, 42, 50, 51, 55, 61] [(0, 1), (1, 2), (29, 36), (36, 64), (64, 71)] o_me z7.2 := hkpo1.trans (hz7_1.mono (by decide) (by decide) (by decide))
    have kz7_k8 : (gI z7.2 20).toInt = (gI o1 20).toInt := congrArg Int32.toInt (hz7_1.1 20 (by decide))
    refine wp_if (fun c9 => ?_) (fun c9 => ?_)
    · have c9 := cv_eq (a := p0.toInt) (b := 0) rfl (by decide) c9
      refine wp_some ?_
      exact (show IvX9 z7.2 ∧ Kp [1, 8, 11, 13, 14, 15, 16, 18, 19, 20, 21, 23, 26, 29, 43, 56, 57, 58, 59, 62] [2, 3, 4, 5, 7, 10, 12, 22, 24, 25, 27, 28, 42, 50, 51, 55, 61] [(0, 1), (1, 2), (29, 36), (36, 64), (64, 71)] o_me z7.2 from ⟨hz7_0, hkpz7_me⟩)
    · have c9z := c9
      have c9 := cv_ne (a := p0.toInt) (b := 0) rfl (by decide) c9
      have t10 : (p0 - (1 : Int32)).toInt = p0.toInt - 1 := i32_sub rfl (by decide) (zs_l (zl_e (k := 0) (zd_e (c := 0) c6i.1 (zq_0 t4) (by decide)) (Int.le_of_eq tl0.symm) (by decide)) (by decide)) (zs_u (zu_e (k := 4) (zd_e (c := 0) (zq_0 t4.symm) c6i.2 (by decide)) (Int.le_of_eq tl4) (by decide)) (by decide))
      refine wp_gd (zin_of (m := 4) rfl (by omega) (zlt_m (c := 3) (zu_e (zd_e (c := (-1)) (zd_e (c := (-1)) (zq_s (c := (-1)) t10 (by decide)) (zq_0 t4.symm) (by decide)) c6i.2 (by decide)) (Int.le_of_eq tl4) (by decide)) (by decide))) ?_
      refine wp_some ?_
      exact (show IvX9 z7.2 ∧ Kp [1, 8, 11, 13, 14, 15, 16, 18, 19, 20, 21, 23, 26, 29, 43, 56, 57, 58, 59, 62] [2, 3, 4, 5, 7, 10, 12, 22, 24, 25, 27, 28, 42, 50, 51, 55, 61] [(0, 1), (1, 2), (29, 36), (36, 64), (64, 71)] o_me z7.2 from ⟨hz7_0, hkpz7_me⟩)

set_option maxHeartbeats 4000000 in
set_option maxRecDepth 100000 in
theorem s_X9_drawn (o_me : Ob) (p0 : Int32) (p1 : Int32) (hI_me : IvX9 o_me)  : wp (f_X9_drawn   o_me p0 p1) (fun (y : Int32 × Ob) => IvX9 y.2 ∧ Kp [1, 8, 11, 13, 14, 15, 16, 18, 19, 20, 21, 23, 26, 29, 34, 38, 43, 56, 57, 58, 59, 62] [2, 3, 4, 5, 7, 10, 12, 22, 24, 25, 27, 28, 42, 48, 50, 51, 55, 61] [(0, 1), (1, 2), (29, 36), (36, 64), (64, 71)] o_me y.2) := by
  unfold f_X9_drawn
  refine wp_lt (fun o1 eo1 => ?_)
  have hIo1 : IvX9 o1 := by rw [eo1]; exact hI_me
  have hkpo1 : Kp [1, 8, 11, 13, 14, 15, 16, 18, 19, 20, 21, 23, 26, 29, 34, 38, 43, 56, 57, 58, 59, 62] [2, 3, 4, 5, 7, 10, 12, 22, 24, 25, 27, 28, 42, 48, 50, 51, 55, 61] [(0, 1), (1, 2), (29, 36), (36, 64), (64, 71)] o_me o1 := Kp.rf.trans (by rw [eo1]; exact Kp.sI (by decide))
  have t3 : p0.toInt64.toInt = p0.toInt := Int32.toInt_toInt64 _
  have t4 := igX9_62 hIo1
  have t5 : ((gI o1 62).toInt64).toInt = (gI o1 62).toInt := Int32.toInt_toInt64 _
  have t6 : (((gI o1 62).toInt64) - (1 : Int64)).toInt = ((gI o1 62).toInt64).toInt - 1 := i64_sub rfl (by decide) (zs_l (zl_e (k := (-1)) (zq_0 t5.symm) t4.1 (by decide)) (by decide)) (zs_u (zu_e (k := 7) (zq_0 t5) t4.2 (by decide)) (by decide))
  refine wp_bd (s_X9_in   p0.toInt64 (0 : Int64) (((gI o1 62).toInt64) - (1 : Int64))    ) (fun z7 hz7 => ?_)
  obtain ⟨hz7_0, hz7_1⟩ := hz7
  refine wp_if (fun c8 => ?_) (fun c8 => ?_)
  · have c8 := cv_eq (a := z7.toInt) (b := 0) rfl (by decide) c8
    refine wp_some ?_
    exact (show IvX9 o1 ∧ Kp [1, 8, 11, 13, 14, 15, 16, 18, 19, 20, 21, 23, 26, 29, 34, 38, 43, 56, 57, 58, 59, 62] [2, 3, 4, 5, 7, 10, 12, 22, 24, 25, 27, 28, 42, 48, 50, 51, 55, 61] [(0, 1), (1, 2), (29, 36), (36, 64), (64, 71)] o_me o1 from ⟨hIo1, hkpo1⟩)
  · have c8i := hz7_1 c8
    refine wp_bd (s_X9_in   p1.toInt64 (0 : Int64) (2 : Int64)    ) (fun z11 hz11 => ?_)
    refine wp_if (fun c12 => ?_) (fun c12 => ?_)
    · refine wp_some ?_
      exact (show IvX9 o1 ∧ Kp [1, 8, 11, 13, 14, 15, 16, 18, 19, 20, 21, 23, 26, 29, 34, 38, 43, 56, 57, 58, 59, 62] [2, 3, 4, 5, 7, 10, 12, 22, 24, 25, 27, 28, 42, 48, 50, 51, 55, 61] [(0, 1), (1, 2), (29, 36), (36, 64), (64, 71)] o_me o1 from ⟨hIo1, hkpo1⟩)
    · refine wp_if (fun c13 => ?_) (fun c13 => ?_)
      · obtain ⟨w14, ew14⟩ : ∃ z : Int32, z = (8 : Int32) := ⟨_, rfl⟩
        have tw14 : w14.toInt = 8 := by rw [ew14]; decide
        rw [show bk_X9_drawn_60   p0 (8 : Int32) o1 = bk_X9_drawn_60   p0 w14 o1 from by rw [ew14]]
        unfold bk_X9_drawn_60
        have t15 : (w14 - (4 : Int32)).toInt = w14.toInt - 4 := i32_sub rfl (by decide) (zs_l (Int.le_of_eq tw14.symm) (by decide)) (zs_u (Int.le_of_eq tw14) (by decide))
        have t16 : ((w14 - (4 : Int32)) + p0).toInt = (w14 - (4 : Int32)).toInt + p0.toInt := i32_add rfl rfl (zk_ll (zl_e (k := 4) (zq_t (c := 4) t15 (by decide)) (Int.le_of_eq tw14.symm) (by decide)) (zl_e (k := 0) (zd_e (c := 0) c8i.1 (zq_0 t3) (by decide)) (Int.le_of_eq tl0.symm) (by decide)) (by decide)) (zk_uu (zu_e (k := 4) (zq_s (c := (-4)) t15 (by decide)) (Int.le_of_eq tw14) (by decide)) (zu_e (k := 6) (zd_e (c := (-1)) (zd_e (c := (-1)) (zd_e (c := 0) (zq_0 t3.symm) c8i.2 (by decide)) (zq_s (c := (-1)) t6 (by decide)) (by decide)) (zq_0 t5) (by decide)) t4.2 (by decide)) (by decide))
        refine wp_gd (zin_of (m := 25) rfl (Int.le_trans (by decide) (zaq_l (c := 4) t16 (zl_e (k := 4) (zq_t (c := 4) t15 (by decide)) (Int.le_of_eq tw14.symm) (by decide)) (zl_e (k := 0) (zd_e (c := 0) c8i.1 (zq_0 t3) (by decide)) (Int.le_of_eq tl0.symm) (by decide)) (by decide))) (zlt_m (c := 24) (Int.le_trans (zaq_u (c := 10) t16 (zu_e (k := 4) (zq_s (c := (-4)) t15 (by decide)) (Int.le_of_eq tw14) (by decide)) (zu_e (k := 6) (zd_e (c := (-1)) (zd_e (c := (-1)) (zd_e (c := 0) (zq_0 t3.symm) c8i.2 (by decide)) (zq_s (c := (-1)) t6 (by decide)) (by decide)) (zq_0 t5) (by decide)) t4.2 (by decide)) (by decide)) (by decide)) (by decide))) ?_
        refine wp_some ?_
        exact (show IvX9 o1 ∧ Kp [1, 8, 11, 13, 14, 15, 16, 18, 19, 20, 21, 23, 26, 29, 34, 38, 43, 56, 57, 58, 59, 62] [2, 3, 4, 5, 7, 10, 12, 22, 24, 25, 27, 28, 42, 48, 50, 51, 55, 61] [(0, 1), (1, 2), (29, 36), (36, 64), (64, 71)] o_me o1 from ⟨hIo1, hkpo1⟩)
      · refine wp_if (fun c17 => ?_) (fun c17 => ?_)
        · obtain ⟨w18, ew18⟩ : ∃ z : Int32, z = (15 : Int32) := ⟨_, rfl⟩
          have tw18 : w18.toInt = 15 := by rw [ew18]; decide
          rw [show bk_X9_drawn_60   p0 (15 : Int32) o1 = bk_X9_drawn_60   p0 w18 o1 from by rw [ew18]]
          unfold bk_X9_drawn_60
          have t19 : (w18 - (4 : Int32)).toInt = w18.toInt - 4 := i32_sub rfl (by decide) (zs_l (Int.le_of_eq tw18.symm) (by decide)) (zs_u (Int.le_of_eq tw18) (by decide))
          have t20 : ((w18 - (4 : Int32)) + p0).toInt = (w18 - (4 : Int32)).toInt + p0.toInt := i32_add rfl rfl (zk_ll (zl_e (k := 11) (zq_t (c := 4) t19 (by decide)) (Int.le_of_eq tw18.symm) (by decide)) (zl_e (k := 0) (zd_e (c := 0) c8i.1 (zq_0 t3) (by decide)) (Int.le_of_eq tl0.symm) (by decide)) (by decide)) (zk_uu (zu_e (k := 11) (zq_s (c := (-4)) t19 (by decide)) (Int.le_of_eq tw18) (by decide)) (zu_e (k := 6) (zd_e (c := (-1)) (zd_e (c := (-1)) (zd_e (c := 0) (zq_0 t3.symm) c8i.2 (by decide)) (zq_s (c := (-1)) t6 (by decide)) (by decide)) (zq_0 t5) (by decide)) t4.2 (by decide)) (by decide))
          refine wp_gd (zin_of (m := 25) rfl (Int.le_trans (by decide) (zaq_l (c := 11) t20 (zl_e (k := 11) (zq_t (c := 4) t19 (by decide)) (Int.le_of_eq tw18.symm) (by decide)) (zl_e (k := 0) (zd_e (c := 0) c8i.1 (zq_0 t3) (by decide)) (Int.le_of_eq tl0.symm) (by decide)) (by decide))) (zlt_m (c := 24) (Int.le_trans (zaq_u (c := 17) t20 (zu_e (k := 11) (zq_s (c := (-4)) t19 (by decide)) (Int.le_of_eq tw18) (by decide)) (zu_e (k := 6) (zd_e (c := (-1)) (zd_e (c := (-1)) (zd_e (c := 0) (zq_0 t3.symm) c8i.2 (by decide)) (zq_s (c := (-1)) t6 (by decide)) (by decide)) (zq_0 t5) (by decide)) t4.2 (by decide)) (by decide)) (by decide)) (by decide))) ?_
          refine wp_some ?_
          exact (show IvX9 o1 ∧ Kp [1, 8, 11, 13, 14, 15, 16, 18, 19, 20, 21, 23, 26, 29, 34, 38, 43, 56, 57, 58, 59, 62] [2, 3, 4, 5, 7, 10, 12, 22, 24, 25, 27, 28, 42, 48, 50, 51, 55, 61] [(0, 1), (1, 2), (29, 36), (36, 64), (64, 71)] o_me o1 from ⟨hIo1, hkpo1⟩)
        · obtain ⟨w21, ew21⟩ : ∃ z : Int32, z = (22 : Int32) := ⟨_, rfl⟩
          have tw21 : w21.toInt = 22 := by rw [ew21]; decide
          rw [show bk_X9_drawn_60   p0 (22 : Int32) o1 = bk_X9_drawn_60   p0 w21 o1 from by rw [ew21]]
          unfold bk_X9_drawn_60
          have t22 : (w21 - (4 : Int32)).toInt = w21.toInt - 4 := i32_sub rfl (by decide) (zs_l (Int.le_of_eq tw21.symm) (by decide)) (zs_u (Int.le_of_eq tw21) (by decide))
          have t23 : ((w21 - (4 : Int32)) + p0).toInt = (w21 - (4 : Int32)).toInt + p0.toInt := i32_add rfl rfl (zk_ll (zl_e (k := 18) (zq_t (c := 4) t22 (by decide)) (Int.le_of_eq tw21.symm) (by decide)) (zl_e (k := 0) (zd_e (c := 0) c8i.1 (zq_0 t3) (by decide)) (Int.le_of_eq tl0.symm) (by decide)) (by decide)) (zk_uu (zu_e (k := 18) (zq_s (c := (-4)) t22 (by decide)) (Int.le_of_eq tw21) (by decide)) (zu_e (k := 6) (zd_e (c := (-1)) (zd_e (c := (-1)) (zd_e (c := 0) (zq_0 t3.symm) c8i.2 (by decide)) (zq_s (c := (-1)) t6 (by decide)) (by decide)) (zq_0 t5) (by decide)) t4.2 (by decide)) (by decide))
          refine wp_gd (zin_of (m := 25) rfl (Int.le_trans (by decide) (zaq_l (c := 18) t23 (zl_e (k := 18) (zq_t (c := 4) t22 (by decide)) (Int.le_of_eq tw21.symm) (by decide)) (zl_e (k := 0) (zd_e (c := 0) c8i.1 (zq_0 t3) (by decide)) (Int.le_of_eq tl0.symm) (by decide)) (by decide))) (zlt_m (c := 24) (zaq_u (c := 24) t23 (zu_e (k := 18) (zq_s (c := (-4)) t22 (by decide)) (Int.le_of_eq tw21) (by decide)) (zu_e (k := 6) (zd_e (c := (-1)) (zd_e (c := (-1)) (zd_e (c := 0) (zq_0 t3.symm) c8i.2 (by decide)) (zq_s (c := (-1)) t6 (by decide)) (by decide)) (zq_0 t5) (by decide)) t4.2 (by decide)) (by decide)) (by decide))) ?_
          refine wp_some ?_
          exact (show IvX9 o1 ∧ Kp [1, 8, 11, 13, 14, 15, 16, 18, 19, 20, 21, 23, 26, 29, 34, 38, 43, 56, 57, 58, 59, 62] [2, 3, 4, 5, 7, 10, 12, 22, 24, 25, 27, 28, 42, 48, 50, 51, 55, 61] [(0, 1), (1, 2), (29, 36), (36, 64), (64, 71)] o_me o1 from ⟨hIo1, hkpo1⟩)

set_option maxHeartbeats 4000000 in
set_option maxRecDepth 100000 in
theorem s_X9_elder (o_me : Ob) (p0 : Int32) (hI_me : IvX9 o_me) (q0 : 0 ≤ p0.toInt ∧ p0.toInt ≤ 6) : wp (f_X9_elder   o_me p0) (fun (y : Int32) => True) := by
  unfold f_X9_elder
  have lp1 : ∀ (N1 : Nat) (v1_1 : Int32) (v2_1 : Int32) (v3_1 : Int32), (0 ≤ v1_1.toInt ∧ v1_1.toInt ≤ 6) → (0 ≤ v3_1.toInt ∧ v3_1.toInt ≤ 6) → (6 - v3_1.toInt).toNat < N1 → wp (lp_X9_elder_4 o_me  N1 (v1_1, v2_1, v3_1)) (fun (y : Int32) => True) := by
    intro N1
    induction N1 with
    | zero =>
      intro v1_1 v2_1 v3_1 hh1 hh2 hN1
      exact absurd hN1 (Nat.not_lt_zero _)
    | succ N1 ihx =>
      have ih1 := ihx
      intro v1_1 v2_1 v3_1 hh1 hh2 hN1
      show wp (lb_X9_elder_4 o_me  (lp_X9_elder_4 o_me  N1) v1_1 v2_1 v3_1) (fun (y : Int32) => True)
      unfold lb_X9_elder_4
      refine wp_if (fun c3 => ?_) (fun c3 => ?_)
      · have c3 := cv_ge (a := v3_1.toInt) (b := v1_1.toInt) rfl rfl c3
        refine wp_some ?_
        exact trivial
      · have c3 := cv_nge (a := v3_1.toInt) (b := v1_1.toInt) rfl rfl c3
        have t4 : ((29 : Int32) + v3_1).toInt = 29 + v3_1.toInt := i32_add (by decide) rfl (zk_cl hh2.1 (by decide)) (zk_cu (zu_e (k := 5) (zl_d c3) hh1.2 (by decide)) (by decide))
        refine wp_gd (zin_of (m := 5484) rfl (Int.le_trans (by decide) (zaqc_l (c := 29) t4 hh2.1 (by decide))) (zlt_m (c := 5483) (Int.le_trans (zaqc_u (c := 34) t4 (zu_e (k := 5) (zl_d c3) hh1.2 (by decide)) (by decide)) (by decide)) (by decide))) ?_
        have t6 : ((29 : Int32) + v1_1).toInt = 29 + v1_1.toInt := i32_add (by decide) rfl (zk_cl (zl_e (k := 1) (zl_d c3) hh2.1 (by decide)) (by decide)) (zk_cu hh1.2 (by decide))
        refine wp_gd (zin_of (m := 5484) rfl (Int.le_trans (by decide) (zaqc_l (c := 30) t6 (zl_e (k := 1) (zl_d c3) hh2.1 (by decide)) (by decide))) (zlt_m (c := 5483) (Int.le_trans (zaqc_u (c := 35) t6 hh1.2 (by decide)) (by decide)) (by decide))) ?_
        refine wp_if (fun c8 => ?_) (fun c8 => ?_)
        · obtain ⟨w9, ew9⟩ : ∃ z : Int32, z = (1 : Int32) := ⟨_, rfl⟩
          rw [show bk_X9_elder_36 o_me (lp_X9_elder_4 o_me  N1) v1_1 v3_1 (1 : Int32) v2_1 = bk_X9_elder_36 o_me (lp_X9_elder_4 o_me  N1) v1_1 v3_1 w9 v2_1 from by rw [ew9]]
          unfold bk_X9_elder_36
          refine wp_lt (fun x10 ex10 => ?_)
          refine wp_lt (fun x11 ex11 => ?_)
          have tx11 : x11.toInt = v3_1.toInt + 1 := by rw [ex11]; exact i32_add rfl (by decide) (zk_l hh2.1 (by decide)) (zk_u (zu_e (k := 5) (zl_d c3) hh1.2 (by decide)) (by decide))
          exact ih1 v1_1 x10 x11  ⟨hh1.1, hh1.2⟩ ⟨(zl_e (zq_r (c := (-1)) tx11 (by decide)) hh2.1 (by decide)), (zu_e (zd_e (c := 0) (Int.le_of_eq tx11) (zl_d c3) (by decide)) hh1.2 (by decide))⟩ (zms_u (c := 5) hN1 (zq_r (c := (-1)) tx11 (by decide)) (zu_e (zl_d c3) hh1.2 (by decide)) (by decide))
        · obtain ⟨w12, ew12⟩ : ∃ z : Int32, z = (0 : Int32) := ⟨_, rfl⟩
          rw [show bk_X9_elder_36 o_me (lp_X9_elder_4 o_me  N1) v1_1 v3_1 (0 : Int32) v2_1 = bk_X9_elder_36 o_me (lp_X9_elder_4 o_me  N1) v1_1 v3_1 w12 v2_1 from by rw [ew12]]
          unfold bk_X9_elder_36
          refine wp_lt (fun x15 ex15 => ?_)
          refine wp_lt (fun x16 ex16 => ?_)
          have tx16 : x16.toInt = v3_1.toInt + 1 := by rw [ex16]; exact i32_add rfl (by decide) (zk_l hh2.1 (by decide)) (zk_u (zu_e (k := 5) (zl_d c3) hh1.2 (by decide)) (by decide))
          exact ih1 v1_1 x15 x16  ⟨hh1.1, hh1.2⟩ ⟨(zl_e (zq_r (c := (-1)) tx16 (by decide)) hh2.1 (by decide)), (zu_e (zd_e (c := 0) (Int.le_of_eq tx16) (zl_d c3) (by decide)) hh1.2 (by decide))⟩ (zms_u (c := 5) hN1 (zq_r (c := (-1)) tx16 (by decide)) (zu_e (zl_d c3) hh1.2 (by decide)) (by decide))
  exact lp1 zfu p0 (0 : Int32) (0 : Int32)  ⟨q0.1, q0.2⟩ ⟨by decide, by decide⟩ (zme_u (l := 0) (Int.le_of_eq tz0.symm) (by decide))

set_option maxHeartbeats 4000000 in
set_option maxRecDepth 100000 in
theorem s_X9_end (o_me : Ob) (p0 : Int32) (hI_me : IvX9 o_me)  : wp (f_X9_end   o_me p0) (fun (y : Int32 × Ob) => ((-1) ≤ y.1.toInt ∧ y.1.toInt ≤ 400) ∧ IvX9 y.2 ∧ Kp [1, 8, 11, 14, 15, 16, 18, 19, 20, 21, 23, 26, 29, 34, 38, 43, 56, 57, 58, 59, 62] [2, 3, 4, 5, 7, 10, 12, 22, 24, 25, 27, 28, 42, 48, 50, 51, 55, 61] [(0, 1), (1, 2), (29, 36), (36, 64), (64, 71)] o_me y.2) := by
  unfold f_X9_end
  refine wp_lt (fun o1 eo1 => ?_)
  have hIo1 : IvX9 o1 := by rw [eo1]; exact hI_me
  have hkpo1 : Kp [1, 8, 11, 14, 15, 16, 18, 19, 20, 21, 23, 26, 29, 34, 38, 43, 56, 57, 58, 59, 62] [2, 3, 4, 5, 7, 10, 12, 22, 24, 25, 27, 28, 42, 48, 50, 51, 55, 61] [(0, 1), (1, 2), (29, 36), (36, 64), (64, 71)] o_me o1 := Kp.rf.trans (by rw [eo1]; exact Kp.sI (by decide))
  refine wp_if (fun c2 => ?_) (fun c2 => ?_)
  · have c2 := cv_lt (a := p0.toInt) (b := 0) rfl (by decide) c2
    refine wp_some ?_
    exact (show ((-1) ≤ (-1 : Int32).toInt ∧ (-1 : Int32).toInt ≤ 400) ∧ IvX9 o1 ∧ Kp [1, 8, 11, 14, 15, 16, 18, 19, 20, 21, 23, 26, 29, 34, 38, 43, 56, 57, 58, 59, 62] [2, 3, 4, 5, 7, 10, 12, 22, 24, 25, 27, 28, 42, 48, 50, 51, 55, 61] [(0, 1), (1, 2), (29, 36), (36, 64), (64, 71)] o_me o1 from ⟨⟨by decide, by decide⟩, hIo1, hkpo1⟩)
  · have c2 := cv_nlt (a := p0.toInt) (b := 0) rfl (by decide) c2
    have t3 := igX9_13 hIo1
    refine wp_if (fun c4 => ?_) (fun c4 => ?_)
    · have c4 := cv_le (a := p0.toInt) (b := (gI o1 13).toInt) rfl rfl c4
      refine wp_lt (fun o6 eo6 => ?_)
      have hIo6 : IvX9 o6 := by rw [eo6]; exact ipX9_13 hIo1 ⟨c2, (zu_e (zl_0 c4) t3.2 (by decide))⟩
      have hkpo6 : Kp [1, 8, 11, 14, 15, 16, 18, 19, 20, 21, 23, 26, 29, 34, 38, 43, 56, 57, 58, 59, 62] [2, 3, 4, 5, 7, 10, 12, 22, 24, 25, 27, 28, 42, 48, 50, 51, 55, 61] [(0, 1), (1, 2), (29, 36), (36, 64), (64, 71)] o_me o6 := hkpo1.trans (by rw [eo6]; exact Kp.sI (by decide))
      refine wp_some ?_
      exact (show ((-1) ≤ p0.toInt ∧ p0.toInt ≤ 400) ∧ IvX9 o6 ∧ Kp [1, 8, 11, 14, 15, 16, 18, 19, 20, 21, 23, 26, 29, 34, 38, 43, 56, 57, 58, 59, 62] [2, 3, 4, 5, 7, 10, 12, 22, 24, 25, 27, 28, 42, 48, 50, 51, 55, 61] [(0, 1), (1, 2), (29, 36), (36, 64), (64, 71)] o_me o6 from ⟨⟨(Int.le_trans (by decide) c2), (zu_e (zl_0 c4) t3.2 (by decide))⟩, hIo6, hkpo6⟩)
    · refine wp_some ?_
      exact (show ((-1) ≤ (-1 : Int32).toInt ∧ (-1 : Int32).toInt ≤ 400) ∧ IvX9 o1 ∧ Kp [1, 8, 11, 14, 15, 16, 18, 19, 20, 21, 23, 26, 29, 34, 38, 43, 56, 57, 58, 59, 62] [2, 3, 4, 5, 7, 10, 12, 22, 24, 25, 27, 28, 42, 48, 50, 51, 55, 61] [(0, 1), (1, 2), (29, 36), (36, 64), (64, 71)] o_me o1 from ⟨⟨by decide, by decide⟩, hIo1, hkpo1⟩)

set_option maxHeartbeats 4000000 in
set_option maxRecDepth 100000 in
theorem s_X9_endText (o_me : Ob) (hI_me : IvX9 o_me) (r0 : (gI o_me 15).toInt ≤ (gI o_me 13).toInt + 0) : wp (f_X9_endText   o_me) (fun (y : Ob) => IvX9 y ∧ Kp [1, 8, 11, 21, 23, 26, 29, 34, 38, 43, 56, 57, 58, 59, 62] [2, 3, 4, 5, 7, 10, 12, 22, 24, 25, 27, 28, 42, 48, 50, 51, 55, 61] [(0, 1), (1, 2), (29, 36), (36, 64), (64, 71)] o_me y) := by
  unfold f_X9_endText
  refine wp_if (fun c2 => ?_) (fun c2 => ?_)
  · refine wp_if (fun c4 => ?_) (fun c4 => ?_)
    · unfold bk_X9_endText_19
      refine wp_lt (fun o5 eo5 => ?_)
      have hIo5 : IvX9 o5 := by rw [eo5]; exact ipX9_20 hI_me ⟨by decide, by decide⟩
      have hkpo5 : Kp [1, 8, 11, 21, 23, 26, 29, 34, 38, 43, 56, 57, 58, 59, 62] [2, 3, 4, 5, 7, 10, 12, 22, 24, 25, 27, 28, 42, 48, 50, 51, 55, 61] [(0, 1), (1, 2), (29, 36), (36, 64), (64, 71)] o_me o5 := Kp.rf.trans (by rw [eo5]; exact Kp.sI (by decide))
      refine wp_lt (fun o10 eo10 => ?_)
      have hIo10 : IvX9 o10 := by rw [eo10]; exact ipX9_13 hIo5 ⟨by decide, by decide⟩
      have hkpo10 : Kp [1, 8, 11, 21, 23, 26, 29, 34, 38, 43, 56, 57, 58, 59, 62] [2, 3, 4, 5, 7, 10, 12, 22, 24, 25, 27, 28, 42, 48, 50, 51, 55, 61] [(0, 1), (1, 2), (29, 36), (36, 64), (64, 71)] o_me o10 := hkpo5.trans (by rw [eo10]; exact Kp.sI (by decide))
      refine wp_some ?_
      exact (show IvX9 o10 ∧ Kp [1, 8, 11, 21, 23, 26, 29, 34, 38, 43, 56, 57, 58, 59, 62] [2, 3, 4, 5, 7, 10, 12, 22, 24, 25, 27, 28, 42, 48, 50, 51, 55, 61] [(0, 1), (1, 2), (29, 36), (36, 64), (64, 71)] o_me o10 from ⟨hIo10, hkpo10⟩)
    · refine wp_bd (s_X9_must   o_me (0 : Int32)  hI_me  ⟨by decide, by decide⟩ r0) (fun z15 hz15 => ?_)
      obtain ⟨hz15_0, hz15_1, hz15_2⟩ := hz15
      have hkpz15_me : Kp [1, 8, 11, 21, 23, 26, 29, 34, 38, 43, 56, 57, 58, 59, 62] [2, 3, 4, 5, 7, 10, 12, 22, 24, 25, 27, 28, 42, 48, 50, 51, 55, 61] [(0, 1), (1, 2), (29, 36), (36, 64), (64, 71)] o_me z15 := Kp.rf.trans (hz15_1.mono (by decide) (by decide) (by decide))
      unfold bk_X9_endText_19
      refine wp_lt (fun o19 eo19 => ?_)
      have hIo19 : IvX9 o19 := by rw [eo19]; exact ipX9_20 hz15_0 ⟨by decide, by decide⟩
      have hkpo19 : Kp [1, 8, 11, 21, 23, 26, 29, 34, 38, 43, 56, 57, 58, 59, 62] [2, 3, 4, 5, 7, 10, 12, 22, 24, 25, 27, 28, 42, 48, 50, 51, 55, 61] [(0, 1), (1, 2), (29, 36), (36, 64), (64, 71)] o_me o19 := hkpz15_me.trans (by rw [eo19]; exact Kp.sI (by decide))
      refine wp_lt (fun o22 eo22 => ?_)
      have hIo22 : IvX9 o22 := by rw [eo22]; exact ipX9_13 hIo19 ⟨by decide, by decide⟩
      have hkpo22 : Kp [1, 8, 11, 21, 23, 26, 29, 34, 38, 43, 56, 57, 58, 59, 62] [2, 3, 4, 5, 7, 10, 12, 22, 24, 25, 27, 28, 42, 48, 50, 51, 55, 61] [(0, 1), (1, 2), (29, 36), (36, 64), (64, 71)] o_me o22 := hkpo19.trans (by rw [eo22]; exact Kp.sI (by decide))
      refine wp_some ?_
      exact (show IvX9 o22 ∧ Kp [1, 8, 11, 21, 23, 26, 29, 34, 38, 43, 56, 57, 58, 59, 62] [2, 3, 4, 5, 7, 10, 12, 22, 24, 25, 27, 28, 42, 48, 50, 51, 55, 61] [(0, 1), (1, 2), (29, 36), (36, 64), (64, 71)] o_me o22 from ⟨hIo22, hkpo22⟩)
  · unfold bk_X9_endText_19
    refine wp_lt (fun o25 eo25 => ?_)
    have hIo25 : IvX9 o25 := by rw [eo25]; exact ipX9_20 hI_me ⟨by decide, by decide⟩
    have hkpo25 : Kp [1, 8, 11, 21, 23, 26, 29, 34, 38, 43, 56, 57, 58, 59, 62] [2, 3, 4, 5, 7, 10, 12, 22, 24, 25, 27, 28, 42, 48, 50, 51, 55, 61] [(0, 1), (1, 2), (29, 36), (36, 64), (64, 71)] o_me o25 := Kp.rf.trans (by rw [eo25]; exact Kp.sI (by decide))
    refine wp_lt (fun o29 eo29 => ?_)
    have hIo29 : IvX9 o29 := by rw [eo29]; exact ipX9_13 hIo25 ⟨by decide, by decide⟩
    have hkpo29 : Kp [1, 8, 11, 21, 23, 26, 29, 34, 38, 43, 56, 57, 58, 59, 62] [2, 3, 4, 5, 7, 10, 12, 22, 24, 25, 27, 28, 42, 48, 50, 51, 55, 61] [(0, 1), (1, 2), (29, 36), (36, 64), (64, 71)] o_me o29 := hkpo25.trans (by rw [eo29]; exact Kp.sI (by decide))
    refine wp_some ?_
    exact (show IvX9 o29 ∧ Kp [1, 8, 11, 21, 23, 26, 29, 34, 38, 43, 56, 57, 58, 59, 62] [2, 3, 4, 5, 7, 10, 12, 22, 24, 25, 27, 28, 42, 48, 50, 51, 55, 61] [(0, 1), (1, 2), (29, 36), (36, 64), (64, 71)] o_me o29 from ⟨hIo29, hkpo29⟩)

set_option maxHeartbeats 4000000 in
set_option maxRecDepth 100000 in
theorem s_X9_enter (o_me : Ob) (p0 : Int32) (hI_me : IvX9 o_me) (q0 : 0 ≤ (gI o_me 20).toInt ∧ (gI o_me 20).toInt ≤ 0) : wp (f_X9_enter   o_me p0) (fun (y : Int32 × Ob) => ((-6) ≤ y.1.toInt ∧ y.1.toInt ≤ 2147483647) ∧ IvX9 y.2 ∧ Kp [11, 13, 14, 15, 16, 18, 19, 20, 21, 23, 26, 29, 34, 38, 43, 56, 57, 58, 59, 62] [4, 5, 10, 12, 22, 24, 25, 27, 28, 42, 48, 50, 51, 55, 61] [(0, 1), (1, 2), (29, 36), (36, 64), (64, 71)] o_me y.2) := by
  unfold f_X9_enter
  refine wp_lt (fun o1 eo1 => ?_)
  have hIo1 : IvX9 o1 := by rw [eo1]; exact hI_me
  have ko1_k2 : (gI o1 20).toInt = (gI o_me 20).toInt := by rw [eo1]; rfl
  have hkpo1 : Kp [11, 13, 14, 15, 16, 18, 19, 20, 21, 23, 26, 29, 34, 38, 43, 56, 57, 58, 59, 62] [4, 5, 10, 12, 22, 24, 25, 27, 28, 42, 48, 50, 51, 55, 61] [(0, 1), (1, 2), (29, 36), (36, 64), (64, 71)] o_me o1 := Kp.rf.trans (by rw [eo1]; exact Kp.sI (by decide))
  refine wp_bd (s_X9_enterNow   o1 p0  hIo1  ⟨(zl_e (zq_0 ko1_k2.symm) q0.1 (by decide)), (zu_e (zq_0 ko1_k2) q0.2 (by decide))⟩) (fun z3 hz3 => ?_)
  obtain ⟨hz3_0, hz3_1, hz3_2⟩ := hz3
  have hkpz3_me : Kp [11, 13, 14, 15, 16, 18, 19, 20, 21, 23, 26, 29, 34, 38, 43, 56, 57, 58, 59, 62] [4, 5, 10, 12, 22, 24, 25, 27, 28, 42, 48, 50, 51, 55, 61] [(0, 1), (1, 2), (29, 36), (36, 64), (64, 71)] o_me z3.2 := hkpo1.trans (hz3_2.mono (by decide) (by decide) (by decide))
  refine wp_bd (s_X9_tell   z3.2 z3.1  hz3_1  ⟨(Int.le_trans (by decide) hz3_0.1), (Int.le_trans hz3_0.2 (by decide))⟩) (fun z5 hz5 => ?_)
  obtain ⟨hz5_0, hz5_1, hz5_2⟩ := hz5
  have hkpz5_me : Kp [11, 13, 14, 15, 16, 18, 19, 20, 21, 23, 26, 29, 34, 38, 43, 56, 57, 58, 59, 62] [4, 5, 10, 12, 22, 24, 25, 27, 28, 42, 48, 50, 51, 55, 61] [(0, 1), (1, 2), (29, 36), (36, 64), (64, 71)] o_me z5.2 := hkpz3_me.trans (hz5_2.mono (by decide) (by decide) (by decide))
  refine wp_some ?_
  exact (show ((-6) ≤ z5.1.toInt ∧ z5.1.toInt ≤ 2147483647) ∧ IvX9 z5.2 ∧ Kp [11, 13, 14, 15, 16, 18, 19, 20, 21, 23, 26, 29, 34, 38, 43, 56, 57, 58, 59, 62] [4, 5, 10, 12, 22, 24, 25, 27, 28, 42, 48, 50, 51, 55, 61] [(0, 1), (1, 2), (29, 36), (36, 64), (64, 71)] o_me z5.2 from ⟨⟨hz5_0.1, hz5_0.2⟩, hz5_1, hkpz5_me⟩)

set_option maxHeartbeats 4000000 in
set_option maxRecDepth 100000 in
theorem s_X9_fault (o_me : Ob) (hI_me : IvX9 o_me)  : wp (f_X9_fault   o_me) (fun (y : Int32 × Ob) => IvX9 y.2 ∧ Kp [1, 8, 11, 13, 14, 15, 16, 18, 19, 20, 21, 23, 26, 29, 34, 38, 43, 56, 57, 58, 59, 62] [2, 3, 4, 5, 7, 10, 12, 22, 24, 25, 27, 28, 42, 48, 50, 51, 55, 61] [(0, 1), (1, 2), (29, 36), (36, 64), (64, 71)] o_me y.2) := by
  unfold f_X9_fault
  refine wp_lt (fun o1 eo1 => ?_)
  have hIo1 : IvX9 o1 := by rw [eo1]; exact hI_me
  have hkpo1 : Kp [1, 8, 11, 13, 14, 15, 16, 18, 19, 20, 21, 23, 26, 29, 34, 38, 43, 56, 57, 58, 59, 62] [2, 3, 4, 5, 7, 10, 12, 22, 24, 25, 27, 28, 42, 48, 50, 51, 55, 61] [(0, 1), (1, 2), (29, 36), (36, 64), (64, 71)] o_me o1 := Kp.rf.trans (by rw [eo1]; exact Kp.sI (by decide))
  refine wp_some ?_
  exact (show IvX9 o1 ∧ Kp [1, 8, 11, 13, 14, 15, 16, 18, 19, 20, 21, 23, 26, 29, 34, 38, 43, 56, 57, 58, 59, 62] [2, 3, 4, 5, 7, 10, 12, 22, 24, 25, 27, 28, 42, 48, 50, 51, 55, 61] [(0, 1), (1, 2), (29, 36), (36, 64), (64, 71)] o_me o1 from ⟨hIo1, hkpo1⟩)

set_option maxHeartbeats 4000000 in
set_option maxRecDepth 100000 in
theorem s_X9_four (o_me : Ob) (p0 : Int32) (hI_me : IvX9 o_me) (q0 : 0 ≤ (gI o_me 13).toInt ∧ (gI o_me 13).toInt ≤ 396) : wp (f_X9_four   o_me p0) (fun (y : Ob) => IvX9 y ∧ Kp [1, 8, 11, 14, 15, 16, 18, 19, 20, 21, 23, 26, 29, 34, 38, 43, 56, 57, 58, 59, 62] [2, 3, 4, 5, 7, 10, 22, 24, 25, 27, 28, 42, 48, 50, 51, 55, 61] [(0, 1), (1, 2), (29, 36), (36, 64), (64, 71)] o_me y ∧ ((gI o_me 13).toInt + 4 ≤ (gI y 13).toInt ∧ (gI y 13).toInt ≤ (gI o_me 13).toInt + 4)) := by
  have li0 : (-8 : Int32).toInt = (-8) := by decide
  have li1 : (0 : Int32).toInt = 0 := by decide
  have li2 : (1 : Int32).toInt = 1 := by decide
  have li3 : (16 : Int32).toInt = 16 := by decide
  have li4 : (24 : Int32).toInt = 24 := by decide
  have li5 : (255 : Int32).toInt = 255 := by decide
  have li6 : (8 : Int32).toInt = 8 := by decide
  unfold f_X9_four
  show wp (lb_X9_four_3  (lp_X9_four_3  99999) p0 (24 : Int32) o_me) (fun (y : Ob) => IvX9 y ∧ Kp [1, 8, 11, 14, 15, 16, 18, 19, 20, 21, 23, 26, 29, 34, 38, 43, 56, 57, 58, 59, 62] [2, 3, 4, 5, 7, 10, 22, 24, 25, 27, 28, 42, 48, 50, 51, 55, 61] [(0, 1), (1, 2), (29, 36), (36, 64), (64, 71)] o_me y ∧ ((gI o_me 13).toInt + 4 ≤ (gI y 13).toInt ∧ (gI y 13).toInt ≤ (gI o_me 13).toInt + 4))
  unfold lb_X9_four_3
  have t1 := i32_and (x := p0 >>> ((24 : Int32) &&& 31)) (y := (255 : Int32)) (m := 255) ⟨by decide, by decide⟩
  refine wp_gd (zin_of (m := 400) rfl q0.1 (zlt_m (c := 399) (Int.le_trans q0.2 (by decide)) (by decide))) ?_
  refine wp_lt (fun o2 eo2 => ?_)
  have hIo2 : IvX9 o2 := by rw [eo2]; exact hI_me
  have ko2_k3 : (gI o2 13).toInt = (gI o_me 13).toInt := by rw [eo2]; rfl
  have ko2_v : (gA o2 12 (gI o_me 13).toNatClampNeg).toInt = ((p0 >>> ((24 : Int32) &&& 31)) &&& (255 : Int32)).toInt := by rw [eo2]; exact congrArg Int32.toInt (upd_eq (g := gA o_me 12) (i := (gI o_me 13)) (v := ((p0 >>> ((24 : Int32) &&& 31)) &&& (255 : Int32))))
  have hkpo2 : Kp [1, 8, 11, 14, 15, 16, 18, 19, 20, 21, 23, 26, 29, 34, 38, 43, 56, 57, 58, 59, 62] [2, 3, 4, 5, 7, 10, 22, 24, 25, 27, 28, 42, 48, 50, 51, 55, 61] [(0, 1), (1, 2), (29, 36), (36, 64), (64, 71)] o_me o2 := Kp.rf.trans (by rw [eo2]; exact Kp.tA (by decide) (by decide))
  have t4 : ((gI o2 13) + (1 : Int32)).toInt = (gI o2 13).toInt + 1 := i32_add rfl (by decide) (zk_l (zl_e (k := 0) (zq_0 ko2_k3.symm) q0.1 (by decide)) (by decide)) (zk_u (zu_e (k := 396) (zq_0 ko2_k3) q0.2 (by decide)) (by decide))
  refine wp_lt (fun o5 eo5 => ?_)
  have hIo5 : IvX9 o5 := by rw [eo5]; exact ipX9_13 hIo2 ⟨(zl_e (zd_e (c := (-1)) (zq_0 ko2_k3.symm) (zq_r (c := (-1)) t4 (by decide)) (by decide)) q0.1 (by decide)), (zu_e (zd_e (c := 1) (Int.le_of_eq t4) (zq_0 ko2_k3) (by decide)) q0.2 (by decide))⟩
  have ko5_k6 : (gA o5 12 (gI o_me 13).toNatClampNeg).toInt = (gA o2 12 (gI o_me 13).toNatClampNeg).toInt := by rw [eo5]; rfl
  have ko5_v : (gI o5 13).toInt = ((gI o2 13) + (1 : Int32)).toInt := by rw [eo5]; rfl
  have hkpo5 : Kp [1, 8, 11, 14, 15, 16, 18, 19, 20, 21, 23, 26, 29, 34, 38, 43, 56, 57, 58, 59, 62] [2, 3, 4, 5, 7, 10, 22, 24, 25, 27, 28, 42, 48, 50, 51, 55, 61] [(0, 1), (1, 2), (29, 36), (36, 64), (64, 71)] o_me o5 := hkpo2.trans (by rw [eo5]; exact Kp.sI (by decide))
  show wp (lb_X9_four_3  (lp_X9_four_3  99998) p0 (16 : Int32) o5) (fun (y : Ob) => IvX9 y ∧ Kp [1, 8, 11, 14, 15, 16, 18, 19, 20, 21, 23, 26, 29, 34, 38, 43, 56, 57, 58, 59, 62] [2, 3, 4, 5, 7, 10, 22, 24, 25, 27, 28, 42, 48, 50, 51, 55, 61] [(0, 1), (1, 2), (29, 36), (36, 64), (64, 71)] o_me y ∧ ((gI o_me 13).toInt + 4 ≤ (gI y 13).toInt ∧ (gI y 13).toInt ≤ (gI o_me 13).toInt + 4))
  unfold lb_X9_four_3
  have t7 := i32_and (x := p0 >>> ((16 : Int32) &&& 31)) (y := (255 : Int32)) (m := 255) ⟨by decide, by decide⟩
  refine wp_gd (zin_of (m := 400) rfl (zl_e (zd_e (c := (-1)) (zq_0 ko2_k3.symm) (zd_e (c := (-1)) (zq_r (c := (-1)) t4 (by decide)) (zq_0 ko5_v.symm) (by decide)) (by decide)) q0.1 (by decide)) (zlt_m (c := 399) (zu_e (zd_e (c := 1) (zd_e (c := 1) (zq_0 ko5_v) (Int.le_of_eq t4) (by decide)) (zq_0 ko2_k3) (by decide)) q0.2 (by decide)) (by decide))) ?_
  refine wp_lt (fun o8 eo8 => ?_)
  have hIo8 : IvX9 o8 := by rw [eo8]; exact hIo5
  have ko8_k9 : (gI o8 13).toInt = (gI o5 13).toInt := by rw [eo8]; rfl
  have ko8_v : (gA o8 12 (gI o5 13).toNatClampNeg).toInt = ((p0 >>> ((16 : Int32) &&& 31)) &&& (255 : Int32)).toInt := by rw [eo8]; exact congrArg Int32.toInt (upd_eq (g := gA o5 12) (i := (gI o5 13)) (v := ((p0 >>> ((16 : Int32) &&& 31)) &&& (255 : Int32))))
  have hkpo8 : Kp [1, 8, 11, 14, 15, 16, 18, 19, 20, 21, 23, 26, 29, 34, 38, 43, 56, 57, 58, 59, 62] [2, 3, 4, 5, 7, 10, 22, 24, 25, 27, 28, 42, 48, 50, 51, 55, 61] [(0, 1), (1, 2), (29, 36), (36, 64), (64, 71)] o_me o8 := hkpo5.trans (by rw [eo8]; exact Kp.tA (by decide) (by decide))
  have t10 : ((gI o8 13) + (1 : Int32)).toInt = (gI o8 13).toInt + 1 := i32_add rfl (by decide) (zk_l (zl_e (k := 1) (zd_e (c := (-1)) (zq_0 ko2_k3.symm) (zd_e (c := (-1)) (zq_r (c := (-1)) t4 (by decide)) (zd_e (c := 0) (zq_0 ko5_v.symm) (zq_0 ko8_k9.symm) (by decide)) (by decide)) (by decide)) q0.1 (by decide)) (by decide)) (zk_u (zu_e (k := 397) (zd_e (c := 1) (zd_e (c := 1) (zd_e (c := 0) (zq_0 ko8_k9) (zq_0 ko5_v) (by decide)) (Int.le_of_eq t4) (by decide)) (zq_0 ko2_k3) (by decide)) q0.2 (by decide)) (by decide))
  refine wp_lt (fun o11 eo11 => ?_)
  have hIo11 : IvX9 o11 := by rw [eo11]; exact ipX9_13 hIo8 ⟨(by omega), (by omega)⟩
  have ko11_k12 : (gA o11 12 (gI o5 13).toNatClampNeg).toInt = (gA o8 12 (gI o5 13).toNatClampNeg).toInt := by rw [eo11]; rfl
  have ko11_v : (gI o11 13).toInt = ((gI o8 13) + (1 : Int32)).toInt := by rw [eo11]; rfl
  have hkpo11 : Kp [1, 8, 11, 14, 15, 16, 18, 19, 20, 21, 23, 26, 29, 34, 38, 43, 56, 57, 58, 59, 62] [2, 3, 4, 5, 7, 10, 22, 24, 25, 27, 28, 42, 48, 50, 51, 55, 61] [(0, 1), (1, 2), (29, 36), (36, 64), (64, 71)] o_me o11 := hkpo8.trans (by rw [eo11]; exact Kp.sI (by decide))
  show wp (lb_X9_four_3  (lp_X9_four_3  99997) p0 (8 : Int32) o11) (fun (y : Ob) => IvX9 y ∧ Kp [1, 8, 11, 14, 15, 16, 18, 19, 20, 21, 23, 26, 29, 34, 38, 43, 56, 57, 58, 59, 62] [2, 3, 4, 5, 7, 10, 22, 24, 25, 27, 28, 42, 48, 50, 51, 55, 61] [(0, 1), (1, 2), (29, 36), (36, 64), (64, 71)] o_me y ∧ ((gI o_me 13).toInt + 4 ≤ (gI y 13).toInt ∧ (gI y 13).toInt ≤ (gI o_me 13).toInt + 4))
  unfold lb_X9_four_3
  have t13 := i32_and (x := p0 >>> ((8 : Int32) &&& 31)) (y := (255 : Int32)) (m := 255) ⟨by decide, by decide⟩
  refine wp_gd (zin_of (m := 400) rfl (by omega) (by omega)) ?_
  refine wp_lt (fun o14 eo14 => ?_)
  have hIo14 : IvX9 o14 := by rw [eo14]; exact hIo11
  have ko14_k15 : (gI o14 13).toInt = (gI o11 13).toInt := by rw [eo14]; rfl
  have ko14_v : (gA o14 12 (gI o11 13).toNatClampNeg).toInt = ((p0 >>> ((8 : Int32) &&& 31)) &&& (255 : Int32)).toInt := by rw [eo14]; exact congrArg Int32.toInt (upd_eq (g := gA o11 12) (i := (gI o11 13)) (v := ((p0 >>> ((8 : Int32) &&& 31)) &&& (255 : Int32))))
  have hkpo14 : Kp [1, 8, 11, 14, 15, 16, 18, 19, 20, 21, 23, 26, 29, 34, 38, 43, 56, 57, 58, 59, 62] [2, 3, 4, 5, 7, 10, 22, 24, 25, 27, 28, 42, 48, 50, 51, 55, 61] [(0, 1), (1, 2), (29, 36), (36, 64), (64, 71)] o_me o14 := hkpo11.trans (by rw [eo14]; exact Kp.tA (by decide) (by decide))
  have t16 : ((gI o14 13) + (1 : Int32)).toInt = (gI o14 13).toInt + 1 := i32_add rfl (by decide) (by omega) (by omega)
  refine wp_lt (fun o17 eo17 => ?_)
  have hIo17 : IvX9 o17 := by rw [eo17]; exact ipX9_13 hIo14 ⟨(by omega), (by omega)⟩
  have ko17_k18 : (gA o17 12 (gI o11 13).toNatClampNeg).toInt = (gA o14 12 (gI o11 13).toNatClampNeg).toInt := by rw [eo17]; rfl
  have ko17_v : (gI o17 13).toInt = ((gI o14 13) + (1 : Int32)).toInt := by rw [eo17]; rfl
  have hkpo17 : Kp [1, 8, 11, 14, 15, 16, 18, 19, 20, 21, 23, 26, 29, 34, 38, 43, 56, 57, 58, 59, 62] [2, 3, 4, 5, 7, 10, 22, 24, 25, 27, 28, 42, 48, 50, 51, 55, 61] [(0, 1), (1, 2), (29, 36), (36, 64), (64, 71)] o_me o17 := hkpo14.trans (by rw [eo17]; exact Kp.sI (by decide))
  show wp (lb_X9_four_3  (lp_X9_four_3  99996) p0 (0 : Int32) o17) (fun (y : Ob) => IvX9 y ∧ Kp [1, 8, 11, 14, 15, 16, 18, 19, 20, 21, 23, 26, 29, 34, 38, 43, 56, 57, 58, 59, 62] [2, 3, 4, 5, 7, 10, 22, 24, 25, 27, 28, 42, 48, 50, 51, 55, 61] [(0, 1), (1, 2), (29, 36), (36, 64), (64, 71)] o_me y ∧ ((gI o_me 13).toInt + 4 ≤ (gI y 13).toInt ∧ (gI y 13).toInt ≤ (gI o_me 13).toInt + 4))
  unfold lb_X9_four_3
  have t19 := i32_and (x := p0 >>> ((0 : Int32) &&& 31)) (y := (255 : Int32)) (m := 255) ⟨by decide, by decide⟩
  refine wp_gd (zin_of (m := 400) rfl (by omega) (by omega)) ?_
  refine wp_lt (fun o20 eo20 => ?_)
  have hIo20 : IvX9 o20 := by rw [eo20]; exact hIo17
  have ko20_k21 : (gI o20 13).toInt = (gI o17 13).toInt := by rw [eo20]; rfl
  have ko20_v : (gA o20 12 (gI o17 13).toNatClampNeg).toInt = ((p0 >>> ((0 : Int32) &&& 31)) &&& (255 : Int32)).toInt := by rw [eo20]; exact congrArg Int32.toInt (upd_eq (g := gA o17 12) (i := (gI o17 13)) (v := ((p0 >>> ((0 : Int32) &&& 31)) &&& (255 : Int32))))
  have hkpo20 : Kp [1, 8, 11, 14, 15, 16, 18, 19, 20, 21, 23, 26, 29, 34, 38, 43, 56, 57, 58, 59, 62] [2, 3, 4, 5, 7, 10, 22, 24, 25, 27, 28, 42, 48, 50, 51, 55, 61] [(0, 1), (1, 2), (29, 36), (36, 64), (64, 71)] o_me o20 := hkpo17.trans (by rw [eo20]; exact Kp.tA (by decide) (by decide))
  have t22 : ((gI o20 13) + (1 : Int32)).toInt = (gI o20 13).toInt + 1 := i32_add rfl (by decide) (by omega) (by omega)
  refine wp_lt (fun o23 eo23 => ?_)
  have hIo23 : IvX9 o23 := by rw [eo23]; exact ipX9_13 hIo20 ⟨(by omega), (by omega)⟩
  have ko23_k24 : (gA o23 12 (gI o17 13).toNatClampNeg).toInt = (gA o20 12 (gI o17 13).toNatClampNeg).toInt := by rw [eo23]; rfl
  have ko23_v : (gI o23 13).toInt = ((gI o20 13) + (1 : Int32)).toInt := by rw [eo23]; rfl
  have hkpo23 : Kp [1, 8, 11, 14, 15, 16, 18, 19, 20, 21, 23, 26, 29, 34, 38, 43, 56, 57, 58, 59, 62] [2, 3, 4, 5, 7, 10, 22, 24, 25, 27, 28, 42, 48, 50, 51, 55, 61] [(0, 1), (1, 2), (29, 36), (36, 64), (64, 71)] o_me o23 := hkpo20.trans (by rw [eo23]; exact Kp.sI (by decide))
  show wp (lb_X9_four_3  (lp_X9_four_3  99995) p0 (-8 : Int32) o23) (fun (y : Ob) => IvX9 y ∧ Kp [1, 8, 11, 14, 15, 16, 18, 19, 20, 21, 23, 26, 29, 34, 38, 43, 56, 57, 58, 59, 62] [2, 3, 4, 5, 7, 10, 22, 24, 25, 27, 28, 42, 48, 50, 51, 55, 61] [(0, 1), (1, 2), (29, 36), (36, 64), (64, 71)] o_me y ∧ ((gI o_me 13).toInt + 4 ≤ (gI y 13).toInt ∧ (gI y 13).toInt ≤ (gI o_me 13).toInt + 4))
  unfold lb_X9_four_3
  refine wp_some ?_
  exact (show IvX9 o23 ∧ Kp [1, 8, 11, 14, 15, 16, 18, 19, 20, 21, 23, 26, 29, 34, 38, 43, 56, 57, 58, 59, 62] [2, 3, 4, 5, 7, 10, 22, 24, 25, 27, 28, 42, 48, 50, 51, 55, 61] [(0, 1), (1, 2), (29, 36), (36, 64), (64, 71)] o_me o23 ∧ ((gI o_me 13).toInt + 4 ≤ (gI o23 13).toInt ∧ (gI o23 13).toInt ≤ (gI o_me 13).toInt + 4) from ⟨hIo23, hkpo23, ⟨(by omega), (by omega)⟩⟩)

set_option maxHeartbeats 4000000 in
set_option maxRecDepth 100000 in
theorem s_X9_feed (o_me : Ob) (p0 : Int32) (p1 : Int32) (p2 : Int32) (p3 : Int32) (p4 : Int32) (hI_me : IvX9 o_me)  : wp (f_X9_feed   o_me p0 p1 p2 p3 p4) (fun (y : Int32 × Ob) => ((-1) ≤ y.1.toInt ∧ y.1.toInt ≤ 400) ∧ IvX9 y.2 ∧ Kp [1, 8, 11, 14, 15, 16, 18, 19, 20, 21, 23, 26, 29, 34, 38, 43, 56, 57, 58, 59, 62] [2, 3, 4, 5, 7, 10, 22, 24, 25, 27, 28, 42, 48, 50, 51, 55, 61] [(0, 1), (1, 2), (29, 36), (36, 64), (64, 71)] o_me y.2) := by
  have li0 : (-1 : Int32).toInt = (-1) := by decide
  have li1 : (0 : Int32).toInt = 0 := by decide
  have li2 : (20 : Int32).toInt = 20 := by decide
  have li3 : (400 : Int32).toInt = 400 := by decide
  unfold f_X9_feed
  refine wp_lt (fun o1 eo1 => ?_)
  have hIo1 : IvX9 o1 := by rw [eo1]; exact hI_me
  have ko1_v : (gI o1 0).toInt = 0 := by rw [eo1]; exact (show ((0 : Int32)).toInt = _ from by decide)
  have hkpo1 : Kp [1, 8, 11, 14, 15, 16, 18, 19, 20, 21, 23, 26, 29, 34, 38, 43, 56, 57, 58, 59, 62] [2, 3, 4, 5, 7, 10, 22, 24, 25, 27, 28, 42, 48, 50, 51, 55, 61] [(0, 1), (1, 2), (29, 36), (36, 64), (64, 71)] o_me o1 := Kp.rf.trans (by rw [eo1]; exact Kp.sI (by decide))
  have t2 := igX9_13 hIo1
  have t3 : ((gI o1 13) + (20 : Int32)).toInt = (gI o1 13).toInt + 20 := i32_add rfl (by decide) (zk_l t2.1 (by decide)) (zk_u t2.2 (by decide))
  refine wp_if (fun c4 => ?_) (fun c4 => ?_)
  · have c4 := cv_le (a := ((gI o1 13) + (20 : Int32)).toInt) (b := 400) rfl (by decide) c4
    refine wp_bd (s_X9_four   o1 p0  hIo1  ⟨t2.1, (zu_e (zq_r (c := (-20)) t3 (by decide)) c4 (by decide))⟩) (fun z5 hz5 => ?_)
    obtain ⟨hz5_0, hz5_1, hz5_2⟩ := hz5
    have hkpz5_me : Kp [1, 8, 11, 14, 15, 16, 18, 19, 20, 21, 23, 26, 29, 34, 38, 43, 56, 57, 58, 59, 62] [2, 3, 4, 5, 7, 10, 22, 24, 25, 27, 28, 42, 48, 50, 51, 55, 61] [(0, 1), (1, 2), (29, 36), (36, 64), (64, 71)] o_me z5 := hkpo1.trans (hz5_1.mono (by decide) (by decide) (by decide))
    have t7 := igX9_13 hz5_0
    refine wp_bd (s_X9_four   z5 p1  hz5_0  ⟨t7.1, (zu_e (zd_e (c := (-16)) hz5_2.2 (zq_r (c := (-20)) t3 (by decide)) (by decide)) c4 (by decide))⟩) (fun z6 hz6 => ?_)
    obtain ⟨hz6_0, hz6_1, hz6_2⟩ := hz6
    have hkpz6_me : Kp [1, 8, 11, 14, 15, 16, 18, 19, 20, 21, 23, 26, 29, 34, 38, 43, 56, 57, 58, 59, 62] [2, 3, 4, 5, 7, 10, 22, 24, 25, 27, 28, 42, 48, 50, 51, 55, 61] [(0, 1), (1, 2), (29, 36), (36, 64), (64, 71)] o_me z6 := hkpz5_me.trans (hz6_1.mono (by decide) (by decide) (by decide))
    have t9 := igX9_13 hz6_0
    refine wp_bd (s_X9_four   z6 p2  hz6_0  ⟨t9.1, (zu_e (zd_e (c := (-12)) (zd_e (c := 8) hz6_2.2 hz5_2.2 (by decide)) (zq_r (c := (-20)) t3 (by decide)) (by decide)) c4 (by decide))⟩) (fun z8 hz8 => ?_)
    obtain ⟨hz8_0, hz8_1, hz8_2⟩ := hz8
    have hkpz8_me : Kp [1, 8, 11, 14, 15, 16, 18, 19, 20, 21, 23, 26, 29, 34, 38, 43, 56, 57, 58, 59, 62] [2, 3, 4, 5, 7, 10, 22, 24, 25, 27, 28, 42, 48, 50, 51, 55, 61] [(0, 1), (1, 2), (29, 36), (36, 64), (64, 71)] o_me z8 := hkpz6_me.trans (hz8_1.mono (by decide) (by decide) (by decide))
    have t11 := igX9_13 hz8_0
    refine wp_bd (s_X9_four   z8 p3  hz8_0  ⟨t11.1, (zu_e (zd_e (c := (-8)) (zd_e (c := 12) (zd_e (c := 8) hz8_2.2 hz6_2.2 (by decide)) hz5_2.2 (by decide)) (zq_r (c := (-20)) t3 (by decide)) (by decide)) c4 (by decide))⟩) (fun z10 hz10 => ?_)
    obtain ⟨hz10_0, hz10_1, hz10_2⟩ := hz10
    have hkpz10_me : Kp [1, 8, 11, 14, 15, 16, 18, 19, 20, 21, 23, 26, 29, 34, 38, 43, 56, 57, 58, 59, 62] [2, 3, 4, 5, 7, 10, 22, 24, 25, 27, 28, 42, 48, 50, 51, 55, 61] [(0, 1), (1, 2), (29, 36), (36, 64), (64, 71)] o_me z10 := hkpz8_me.trans (hz10_1.mono (by decide) (by decide) (by decide))
    have t13 := igX9_13 hz10_0
    refine wp_bd (s_X9_four   z10 p4  hz10_0  ⟨t13.1, (by omega)⟩) (fun z12 hz12 => ?_)
    obtain ⟨hz12_0, hz12_1, hz12_2⟩ := hz12
    have hkpz12_me : Kp [1, 8, 11, 14, 15, 16, 18, 19, 20, 21, 23, 26, 29, 34, 38, 43, 56, 57, 58, 59, 62] [2, 3, 4, 5, 7, 10, 22, 24, 25, 27, 28, 42, 48, 50, 51, 55, 61] [(0, 1), (1, 2), (29, 36), (36, 64), (64, 71)] o_me z12 := hkpz10_me.trans (hz12_1.mono (by decide) (by decide) (by decide))
    have t14 := igX9_13 hz12_0
    refine wp_some ?_
    exact (show ((-1) ≤ (gI z12 13).toInt ∧ (gI z12 13).toInt ≤ 400) ∧ IvX9 z12 ∧ Kp [1, 8, 11, 14, 15, 16, 18, 19, 20, 21, 23, 26, 29, 34, 38, 43, 56, 57, 58, 59, 62] [2, 3, 4, 5, 7, 10, 22, 24, 25, 27, 28, 42, 48, 50, 51, 55, 61] [(0, 1), (1, 2), (29, 36), (36, 64), (64, 71)] o_me z12 from ⟨⟨(Int.le_trans (by decide) t14.1), t14.2⟩, hz12_0, hkpz12_me⟩)
  · have c4 := cv_nle (a := ((gI o1 13) + (20 : Int32)).toInt) (b := 400) rfl (by decide) c4
    refine wp_some ?_
    exact (show ((-1) ≤ (-1 : Int32).toInt ∧ (-1 : Int32).toInt ≤ 400) ∧ IvX9 o1 ∧ Kp [1, 8, 11, 14, 15, 16, 18, 19, 20, 21, 23, 26, 29, 34, 38, 43, 56, 57, 58, 59, 62] [2, 3, 4, 5, 7, 10, 22, 24, 25, 27, 28, 42, 48, 50, 51, 55, 61] [(0, 1), (1, 2), (29, 36), (36, 64), (64, 71)] o_me o1 from ⟨⟨by decide, by decide⟩, hIo1, hkpo1⟩)

set_option maxHeartbeats 4000000 in
set_option maxRecDepth 100000 in
theorem s_X9_few (o_me : Ob) (p0 : Int32) (p1 : Int32) (hI_me : IvX9 o_me)  : wp (f_X9_few   o_me p0 p1) (fun (y : Int64 × Ob) => IvX9 y.2 ∧ Kp [1, 8, 11, 13, 14, 15, 16, 18, 19, 20, 21, 23, 26, 29, 34, 38, 43, 56, 57, 58, 59, 62] [2, 3, 4, 5, 7, 10, 12, 22, 24, 25, 27, 28, 42, 48, 50, 51, 55, 61] [(0, 1), (1, 2), (29, 36), (36, 64), (64, 71)] o_me y.2) := by
  unfold f_X9_few
  refine wp_lt (fun o1 eo1 => ?_)
  have hIo1 : IvX9 o1 := by rw [eo1]; exact hI_me
  have hkpo1 : Kp [1, 8, 11, 13, 14, 15, 16, 18, 19, 20, 21, 23, 26, 29, 34, 38, 43, 56, 57, 58, 59, 62] [2, 3, 4, 5, 7, 10, 12, 22, 24, 25, 27, 28, 42, 48, 50, 51, 55, 61] [(0, 1), (1, 2), (29, 36), (36, 64), (64, 71)] o_me o1 := Kp.rf.trans (by rw [eo1]; exact Kp.sI (by decide))
  have t3 : p0.toInt64.toInt = p0.toInt := Int32.toInt_toInt64 _
  refine wp_bd (s_X9_in   p0.toInt64 (1 : Int64) (20 : Int64)    ) (fun z4 hz4 => ?_)
  obtain ⟨hz4_0, hz4_1⟩ := hz4
  refine wp_if (fun c5 => ?_) (fun c5 => ?_)
  · have c5 := cv_eq (a := z4.toInt) (b := 0) rfl (by decide) c5
    refine wp_some ?_
    exact (show IvX9 o1 ∧ Kp [1, 8, 11, 13, 14, 15, 16, 18, 19, 20, 21, 23, 26, 29, 34, 38, 43, 56, 57, 58, 59, 62] [2, 3, 4, 5, 7, 10, 12, 22, 24, 25, 27, 28, 42, 48, 50, 51, 55, 61] [(0, 1), (1, 2), (29, 36), (36, 64), (64, 71)] o_me o1 from ⟨hIo1, hkpo1⟩)
  · have c5i := hz4_1 c5
    have t7 : p1.toInt64.toInt = p1.toInt := Int32.toInt_toInt64 _
    refine wp_bd (s_X9_in   p1.toInt64 (0 : Int64) (99 : Int64)    ) (fun z8 hz8 => ?_)
    obtain ⟨hz8_0, hz8_1⟩ := hz8
    refine wp_if (fun c9 => ?_) (fun c9 => ?_)
    · have c9 := cv_eq (a := z8.toInt) (b := 0) rfl (by decide) c9
      refine wp_some ?_
      exact (show IvX9 o1 ∧ Kp [1, 8, 11, 13, 14, 15, 16, 18, 19, 20, 21, 23, 26, 29, 34, 38, 43, 56, 57, 58, 59, 62] [2, 3, 4, 5, 7, 10, 12, 22, 24, 25, 27, 28, 42, 48, 50, 51, 55, 61] [(0, 1), (1, 2), (29, 36), (36, 64), (64, 71)] o_me o1 from ⟨hIo1, hkpo1⟩)
    · have c9i := hz8_1 c9
      have lp1 : ∀ (N1 : Nat) (v1_1 : Int32) (v2_1 : Int32) (v3_1 : Int32) (o_me_1 : Ob), IvX9 o_me_1 → Kp [1, 8, 11, 13, 14, 15, 16, 18, 19, 20, 21, 23, 26, 29, 34, 38, 43, 56, 57, 58, 59, 62] [2, 3, 4, 5, 7, 10, 12, 22, 24, 25, 27, 28, 42, 48, 50, 51, 55, 61] [(0, 1), (1, 2), (29, 36), (36, 64), (64, 71)] o_me o_me_1 → (1 ≤ v1_1.toInt ∧ v1_1.toInt ≤ 20) → (0 ≤ v2_1.toInt ∧ v2_1.toInt ≤ 99) → (0 ≤ v3_1.toInt ∧ v3_1.toInt ≤ 21) → (21 - v3_1.toInt).toNat < N1 → wp (lp_X9_few_35   N1 (v1_1, v2_1, v3_1, o_me_1)) (fun (y : Int64 × Ob) => IvX9 y.2 ∧ Kp [1, 8, 11, 13, 14, 15, 16, 18, 19, 20, 21, 23, 26, 29, 34, 38, 43, 56, 57, 58, 59, 62] [2, 3, 4, 5, 7, 10, 12, 22, 24, 25, 27, 28, 42, 48, 50, 51, 55, 61] [(0, 1), (1, 2), (29, 36), (36, 64), (64, 71)] o_me y.2) := by
        intro N1
        induction N1 with
        | zero =>
          intro v1_1 v2_1 v3_1 o_me_1 hI_me_1 hkp_me_1 hh10 hh11 hh12 hN1
          exact absurd hN1 (Nat.not_lt_zero _)
        | succ N1 ihx =>
          have ih1 := ihx
          intro v1_1 v2_1 v3_1 o_me_1 hI_me_1 hkp_me_1 hh10 hh11 hh12 hN1
          show wp (lb_X9_few_35   (lp_X9_few_35   N1) v1_1 v2_1 v3_1 o_me_1) (fun (y : Int64 × Ob) => IvX9 y.2 ∧ Kp [1, 8, 11, 13, 14, 15, 16, 18, 19, 20, 21, 23, 26, 29, 34, 38, 43, 56, 57, 58, 59, 62] [2, 3, 4, 5, 7, 10, 12, 22, 24, 25, 27, 28, 42, 48, 50, 51, 55, 61] [(0, 1), (1, 2), (29, 36), (36, 64), (64, 71)] o_me y.2)
          unfold lb_X9_few_35
          refine wp_if (fun c13 => ?_) (fun c13 => ?_)
          · have c13 := cv_ge (a := v3_1.toInt) (b := 21) rfl (by decide) c13
            refine wp_lt (fun x14 ex14 => ?_)
            have lp2 : ∀ (N2 : Nat) (v1_2 : Int32) (v2_2 : Int32) (v3_2 : Int32) (v4_2 : Int32) (o_me_2 : Ob), IvX9 o_me_2 → Kp [1, 8, 11, 13, 14, 15, 16, 18, 19, 20, 21, 23, 26, 29, 34, 38, 43, 56, 57, 58, 59, 62] [2, 3, 4, 5, 7, 10, 12, 22, 24, 25, 27, 28, 42, 48, 50, 51, 55, 61] [(0, 1), (1, 2), (29, 36), (36, 64), (64, 71)] o_me o_me_2 → (1 ≤ v1_2.toInt ∧ v1_2.toInt ≤ 20) → (0 ≤ v2_2.toInt ∧ v2_2.toInt ≤ 99) → (0 ≤ v4_2.toInt ∧ v4_2.toInt ≤ 99) → (99 - v4_2.toInt).toNat < N2 → wp (lp_X9_few_74   N2 (v1_2, v2_2, v3_2, v4_2, o_me_2)) (fun (y : Int64 × Ob) => IvX9 y.2 ∧ Kp [1, 8, 11, 13, 14, 15, 16, 18, 19, 20, 21, 23, 26, 29, 34, 38, 43, 56, 57, 58, 59, 62] [2, 3, 4, 5, 7, 10, 12, 22, 24, 25, 27, 28, 42, 48, 50, 51, 55, 61] [(0, 1), (1, 2), (29, 36), (36, 64), (64, 71)] o_me y.2) := by
              intro N2
              induction N2 with
              | zero =>
                intro v1_2 v2_2 v3_2 v4_2 o_me_2 hI_me_2 hkp_me_2 hh15 hh16 hh17 hN2
                exact absurd hN2 (Nat.not_lt_zero _)
              | succ N2 ihx =>
                have ih2 := ihx
                intro v1_2 v2_2 v3_2 v4_2 o_me_2 hI_me_2 hkp_me_2 hh15 hh16 hh17 hN2
                show wp (lb_X9_few_74   (lp_X9_few_74   N2) v1_2 v2_2 v3_2 v4_2 o_me_2) (fun (y : Int64 × Ob) => IvX9 y.2 ∧ Kp [1, 8, 11, 13, 14, 15, 16, 18, 19, 20, 21, 23, 26, 29, 34, 38, 43, 56, 57, 58, 59, 62] [2, 3, 4, 5, 7, 10, 12, 22, 24, 25, 27, 28, 42, 48, 50, 51, 55, 61] [(0, 1), (1, 2), (29, 36), (36, 64), (64, 71)] o_me y.2)
                unfold lb_X9_few_74
                refine wp_if (fun c18 => ?_) (fun c18 => ?_)
                · have c18 := cv_ge (a := v4_2.toInt) (b := v2_2.toInt) rfl rfl c18
                  have lp3 : ∀ (N3 : Nat) (v1_3 : Int32) (v4_3 : Int64) (v6_3 : Int32) (o_me_3 : Ob), IvX9 o_me_3 → Kp [1, 8, 11, 13, 14, 15, 16, 18, 19, 20, 21, 23, 26, 29, 34, 38, 43, 56, 57, 58, 59, 62] [2, 3, 4, 5, 7, 10, 12, 22, 24, 25, 27, 28, 42, 48, 50, 51, 55, 61] [(0, 1), (1, 2), (29, 36), (36, 64), (64, 71)] o_me o_me_3 → (1 ≤ v1_3.toInt ∧ v1_3.toInt ≤ 20) → (0 ≤ v6_3.toInt ∧ v6_3.toInt ≤ 20) → (20 - v6_3.toInt).toNat < N3 → wp (lp_X9_few_157   N3 (v1_3, v4_3, v6_3, o_me_3)) (fun (y : Int64 × Ob) => IvX9 y.2 ∧ Kp [1, 8, 11, 13, 14, 15, 16, 18, 19, 20, 21, 23, 26, 29, 34, 38, 43, 56, 57, 58, 59, 62] [2, 3, 4, 5, 7, 10, 12, 22, 24, 25, 27, 28, 42, 48, 50, 51, 55, 61] [(0, 1), (1, 2), (29, 36), (36, 64), (64, 71)] o_me y.2) := by
                    intro N3
                    induction N3 with
                    | zero =>
                      intro v1_3 v4_3 v6_3 o_me_3 hI_me_3 hkp_me_3 hh19 hh20 hN3
                      exact absurd hN3 (Nat.not_lt_zero _)
                    | succ N3 ihx =>
                      have ih3 := ihx
                      intro v1_3 v4_3 v6_3 o_me_3 hI_me_3 hkp_me_3 hh19 hh20 hN3
                      show wp (lb_X9_few_157   (lp_X9_few_157   N3) v1_3 v4_3 v6_3 o_me_3) (fun (y : Int64 × Ob) => IvX9 y.2 ∧ Kp [1, 8, 11, 13, 14, 15, 16, 18, 19, 20, 21, 23, 26, 29, 34, 38, 43, 56, 57, 58, 59, 62] [2, 3, 4, 5, 7, 10, 12, 22, 24, 25, 27, 28, 42, 48, 50, 51, 55, 61] [(0, 1), (1, 2), (29, 36), (36, 64), (64, 71)] o_me y.2)
                      unfold lb_X9_few_157
                      refine wp_if (fun c21 => ?_) (fun c21 => ?_)
                      · have c21 := cv_ge (a := v6_3.toInt) (b := v1_3.toInt) rfl rfl c21
                        refine wp_some ?_
                        exact (show IvX9 o_me_3 ∧ Kp [1, 8, 11, 13, 14, 15, 16, 18, 19, 20, 21, 23, 26, 29, 34, 38, 43, 56, 57, 58, 59, 62] [2, 3, 4, 5, 7, 10, 12, 22, 24, 25, 27, 28, 42, 48, 50, 51, 55, 61] [(0, 1), (1, 2), (29, 36), (36, 64), (64, 71)] o_me o_me_3 from ⟨hI_me_3, hkp_me_3⟩)
                      · have c21 := cv_nge (a := v6_3.toInt) (b := v1_3.toInt) rfl rfl c21
                        refine wp_gd (zin_of (m := 21) rfl hh20.1 (zlt_m (c := 20) hh20.2 (by decide))) ?_
                        refine wp_lt (fun x22 ex22 => ?_)
                        refine wp_lt (fun x23 ex23 => ?_)
                        have tx23 : x23.toInt = v6_3.toInt + 1 := by rw [ex23]; exact i32_add rfl (by decide) (zk_l hh20.1 (by decide)) (zk_u (zu_e (k := 19) (zl_d c21) hh19.2 (by decide)) (by decide))
                        exact ih3 v1_3 x22 x23 o_me_3 hI_me_3 hkp_me_3 ⟨hh19.1, hh19.2⟩ ⟨(zl_e (zq_r (c := (-1)) tx23 (by decide)) hh20.1 (by decide)), (zu_e (zd_e (c := 0) (Int.le_of_eq tx23) (zl_d c21) (by decide)) hh19.2 (by decide))⟩ (zms_u (c := 19) hN3 (zq_r (c := (-1)) tx23 (by decide)) (zu_e (zl_d c21) hh19.2 (by decide)) (by decide))
                  exact lp3 zfu v1_2 (0 : Int64) (0 : Int32) o_me_2 hI_me_2 hkp_me_2 ⟨hh15.1, hh15.2⟩ ⟨by decide, by decide⟩ (zme_u (l := 0) (Int.le_of_eq tz0.symm) (by decide))
                · have c18 := cv_nge (a := v4_2.toInt) (b := v2_2.toInt) rfl rfl c18
                  have t24 : (v1_2 - (1 : Int32)).toInt = v1_2.toInt - 1 := i32_sub rfl (by decide) (zs_l hh15.1 (by decide)) (zs_u hh15.2 (by decide))
                  refine wp_lt (fun x25 ex25 => ?_)
                  have tx25 : x25.toInt = (v1_2 - (1 : Int32)).toInt := by rw [ex25]
                  have lp4 : ∀ (N4 : Nat) (v1_4 : Int32) (v2_4 : Int32) (v3_4 : Int32) (v4_4 : Int32) (v5_4 : Int32) (o_me_4 : Ob), IvX9 o_me_4 → Kp [1, 8, 11, 13, 14, 15, 16, 18, 19, 20, 21, 23, 26, 29, 34, 38, 43, 56, 57, 58, 59, 62] [2, 3, 4, 5, 7, 10, 12, 22, 24, 25, 27, 28, 42, 48, 50, 51, 55, 61] [(0, 1), (1, 2), (29, 36), (36, 64), (64, 71)] o_me o_me_4 → (1 ≤ v1_4.toInt ∧ v1_4.toInt ≤ 20) → (1 ≤ v2_4.toInt ∧ v2_4.toInt ≤ 99) → (0 ≤ v4_4.toInt ∧ v4_4.toInt ≤ 98) → ((-1) ≤ v5_4.toInt ∧ v5_4.toInt ≤ 19) → (v4_2.toInt ≤ v4_4.toInt + 0) → (v5_4.toInt - (-1)).toNat < N4 → wp (lp_X9_few_85  (lp_X9_few_74   N2) N4 (v1_4, v2_4, v3_4, v4_4, v5_4, o_me_4)) (fun (y : Int64 × Ob) => IvX9 y.2 ∧ Kp [1, 8, 11, 13, 14, 15, 16, 18, 19, 20, 21, 23, 26, 29, 34, 38, 43, 56, 57, 58, 59, 62] [2, 3, 4, 5, 7, 10, 12, 22, 24, 25, 27, 28, 42, 48, 50, 51, 55, 61] [(0, 1), (1, 2), (29, 36), (36, 64), (64, 71)] o_me y.2) := by
                    intro N4
                    induction N4 with
                    | zero =>
                      intro v1_4 v2_4 v3_4 v4_4 v5_4 o_me_4 hI_me_4 hkp_me_4 hh26 hh27 hh28 hh29 hh30 hN4
                      exact absurd hN4 (Nat.not_lt_zero _)
                    | succ N4 ihx =>
                      have ih4 := ihx
                      intro v1_4 v2_4 v3_4 v4_4 v5_4 o_me_4 hI_me_4 hkp_me_4 hh26 hh27 hh28 hh29 hh30 hN4
                      show wp (lb_X9_few_85  (lp_X9_few_74   N2) (lp_X9_few_85  (lp_X9_few_74   N2) N4) v1_4 v2_4 v3_4 v4_4 v5_4 o_me_4) (fun (y : Int64 × Ob) => IvX9 y.2 ∧ Kp [1, 8, 11, 13, 14, 15, 16, 18, 19, 20, 21, 23, 26, 29, 34, 38, 43, 56, 57, 58, 59, 62] [2, 3, 4, 5, 7, 10, 12, 22, 24, 25, 27, 28, 42, 48, 50, 51, 55, 61] [(0, 1), (1, 2), (29, 36), (36, 64), (64, 71)] o_me y.2)
                      unfold lb_X9_few_85
                      refine wp_if (fun c31 => ?_) (fun c31 => ?_)
                      · have c31 := cv_lt (a := v5_4.toInt) (b := 0) rfl (by decide) c31
                        refine wp_lt (fun x32 ex32 => ?_)
                        have tx32 : x32.toInt = v4_4.toInt + 1 := by rw [ex32]; exact i32_add rfl (by decide) (zk_l hh28.1 (by decide)) (zk_u hh28.2 (by decide))
                        exact ih2 v1_4 v2_4 v3_4 x32 o_me_4 hI_me_4 hkp_me_4 ⟨hh26.1, hh26.2⟩ ⟨(Int.le_trans (by decide) hh27.1), hh27.2⟩ ⟨(zl_e (zq_r (c := (-1)) tx32 (by decide)) hh28.1 (by decide)), (zu_e (Int.le_of_eq tx32) hh28.2 (by decide))⟩ (zms_u (c := 98) hN2 (zd_e (c := (-1)) hh30 (zq_r (c := (-1)) tx32 (by decide)) (by decide)) (zu_e (zl_d c18) hh16.2 (by decide)) (by decide))
                      · have c31 := cv_nlt (a := v5_4.toInt) (b := 0) rfl (by decide) c31
                        refine wp_gd (zin_of (m := 21) rfl c31 (zlt_m (c := 20) (Int.le_trans hh29.2 (by decide)) (by decide))) ?_
                        refine wp_lt (fun x33 ex33 => ?_)
                        refine wp_gd (zin_of (m := 21) rfl c31 (zlt_m (c := 20) (Int.le_trans hh29.2 (by decide)) (by decide))) ?_
                        refine wp_lt (fun o36 eo36 => ?_)
                        have hIo36 : IvX9 o36 := by rw [eo36]; exact hI_me_4
                        have hkpo36 : Kp [1, 8, 11, 13, 14, 15, 16, 18, 19, 20, 21, 23, 26, 29, 34, 38, 43, 56, 57, 58, 59, 62] [2, 3, 4, 5, 7, 10, 12, 22, 24, 25, 27, 28, 42, 48, 50, 51, 55, 61] [(0, 1), (1, 2), (29, 36), (36, 64), (64, 71)] o_me o36 := hkp_me_4.trans (by rw [eo36]; exact Kp.tM)
                        have t37 : (v5_4 + (1 : Int32)).toInt = v5_4.toInt + 1 := i32_add rfl (by decide) (zk_l c31 (by decide)) (zk_u hh29.2 (by decide))
                        refine wp_lt (fun x38 ex38 => ?_)
                        have tx38 : x38.toInt = (v5_4 + (1 : Int32)).toInt := by rw [ex38]
                        refine wp_gd (zin_of (m := 21) rfl (zl_e (zd_e (c := (-1)) (zq_r (c := (-1)) t37 (by decide)) (zq_0 tx38.symm) (by decide)) hh29.1 (by decide)) (zlt_m (c := 20) (zu_e (zd_e (c := 1) (zq_0 tx38) (Int.le_of_eq t37) (by decide)) hh29.2 (by decide)) (by decide))) ?_
                        refine wp_gd (zin_of (m := 21) rfl (zl_e (zd_e (c := (-1)) (zq_r (c := (-1)) t37 (by decide)) (zq_0 tx38.symm) (by decide)) hh29.1 (by decide)) (zlt_m (c := 20) (zu_e (zd_e (c := 1) (zq_0 tx38) (Int.le_of_eq t37) (by decide)) hh29.2 (by decide)) (by decide))) ?_
                        refine wp_lt (fun o41 eo41 => ?_)
                        have hIo41 : IvX9 o41 := by rw [eo41]; exact hIo36
                        have hkpo41 : Kp [1, 8, 11, 13, 14, 15, 16, 18, 19, 20, 21, 23, 26, 29, 34, 38, 43, 56, 57, 58, 59, 62] [2, 3, 4, 5, 7, 10, 12, 22, 24, 25, 27, 28, 42, 48, 50, 51, 55, 61] [(0, 1), (1, 2), (29, 36), (36, 64), (64, 71)] o_me o41 := hkpo36.trans (by rw [eo41]; exact Kp.tM)
                        refine wp_lt (fun x42 ex42 => ?_)
                        have tx42 : x42.toInt = v5_4.toInt + (-1) := by rw [ex42]; exact i32_add rfl (by decide) (zk_l c31 (by decide)) (zk_u hh29.2 (by decide))
                        exact ih4 v1_4 v2_4 v3_4 v4_4 x42 o41 hIo41 hkpo41 ⟨hh26.1, hh26.2⟩ ⟨hh27.1, hh27.2⟩ ⟨hh28.1, hh28.2⟩ ⟨(zl_e (zq_r (c := 1) tx42 (by decide)) c31 (by decide)), (zu_e (Int.le_of_eq tx42) hh29.2 (by decide))⟩ hh30 (zms_d (c := 0) hN4 (Int.le_of_eq tx42) c31 (by decide))
                  exact lp4 zfu v1_2 v2_2 v3_2 v4_2 x25 o_me_2 hI_me_2 hkp_me_2 ⟨hh15.1, hh15.2⟩ ⟨(zl_e (zl_d c18) hh17.1 (by decide)), hh16.2⟩ ⟨hh17.1, (zu_e (zl_d c18) hh16.2 (by decide))⟩ ⟨(zl_e (zd_e (c := 1) (zq_t (c := 1) t24 (by decide)) (zq_0 tx25.symm) (by decide)) hh15.1 (by decide)), (zu_e (zd_e (c := (-1)) (zq_0 tx25) (zq_s (c := (-1)) t24 (by decide)) (by decide)) hh15.2 (by decide))⟩ (zd_r (by decide)) (zme_d (u := 19) (zu_e (k := 19) (zd_e (c := (-1)) (zq_0 tx25) (zq_s (c := (-1)) t24 (by decide)) (by decide)) hh15.2 (by decide)) (by decide))
            exact lp2 zfu v1_1 v2_1 x14 (0 : Int32) o_me_1 hI_me_1 hkp_me_1 ⟨hh10.1, hh10.2⟩ ⟨hh11.1, hh11.2⟩ ⟨by decide, by decide⟩ (zme_u (l := 0) (Int.le_of_eq tz0.symm) (by decide))
          · have c13 := cv_nge (a := v3_1.toInt) (b := 21) rfl (by decide) c13
            refine wp_if (fun c43 => ?_) (fun c43 => ?_)
            · have c43 := cv_eq (a := v3_1.toInt) (b := 0) rfl (by decide) c43
              obtain ⟨w44, ew44⟩ : ∃ z : Int64, z = (1000000000000 : Int64) := ⟨_, rfl⟩
              rw [show bk_X9_few_57  (lp_X9_few_35   N1) v1_1 v2_1 v3_1 (1000000000000 : Int64) v3_1 o_me_1 = bk_X9_few_57  (lp_X9_few_35   N1) v1_1 v2_1 v3_1 w44 v3_1 o_me_1 from by rw [ew44]]
              unfold bk_X9_few_57
              refine wp_gd (zin_of (m := 21) rfl hh12.1 (zlt_m (c := 20) (zlt_u (c := 20) c13 (by decide)) (by decide))) ?_
              refine wp_lt (fun o45 eo45 => ?_)
              have hIo45 : IvX9 o45 := by rw [eo45]; exact hI_me_1
              have hkpo45 : Kp [1, 8, 11, 13, 14, 15, 16, 18, 19, 20, 21, 23, 26, 29, 34, 38, 43, 56, 57, 58, 59, 62] [2, 3, 4, 5, 7, 10, 12, 22, 24, 25, 27, 28, 42, 48, 50, 51, 55, 61] [(0, 1), (1, 2), (29, 36), (36, 64), (64, 71)] o_me o45 := hkp_me_1.trans (by rw [eo45]; exact Kp.tM)
              refine wp_lt (fun x46 ex46 => ?_)
              have tx46 : x46.toInt = v3_1.toInt + 1 := by rw [ex46]; exact i32_add rfl (by decide) (zk_l hh12.1 (by decide)) (zk_u (Int.le_of_eq c43) (by decide))
              exact ih1 v1_1 v2_1 x46 o45 hIo45 hkpo45 ⟨hh10.1, hh10.2⟩ ⟨hh11.1, hh11.2⟩ ⟨(zl_e (zq_r (c := (-1)) tx46 (by decide)) hh12.1 (by decide)), (zu_e (Int.le_of_eq tx46) (zlt_u (c := 20) c13 (by decide)) (by decide))⟩ (zms_u (c := 20) hN1 (zq_r (c := (-1)) tx46 (by decide)) (zlt_u (c := 20) c13 (by decide)) (by decide))
            · obtain ⟨w47, ew47⟩ : ∃ z : Int64, z = (0 : Int64) := ⟨_, rfl⟩
              rw [show bk_X9_few_57  (lp_X9_few_35   N1) v1_1 v2_1 v3_1 (0 : Int64) v3_1 o_me_1 = bk_X9_few_57  (lp_X9_few_35   N1) v1_1 v2_1 v3_1 w47 v3_1 o_me_1 from by rw [ew47]]
              unfold bk_X9_few_57
              refine wp_gd (zin_of (m := 21) rfl hh12.1 (zlt_m (c := 20) (zlt_u (c := 20) c13 (by decide)) (by decide))) ?_
              refine wp_lt (fun o48 eo48 => ?_)
              have hIo48 : IvX9 o48 := by rw [eo48]; exact hI_me_1
              have hkpo48 : Kp [1, 8, 11, 13, 14, 15, 16, 18, 19, 20, 21, 23, 26, 29, 34, 38, 43, 56, 57, 58, 59, 62] [2, 3, 4, 5, 7, 10, 12, 22, 24, 25, 27, 28, 42, 48, 50, 51, 55, 61] [(0, 1), (1, 2), (29, 36), (36, 64), (64, 71)] o_me o48 := hkp_me_1.trans (by rw [eo48]; exact Kp.tM)
              refine wp_lt (fun x49 ex49 => ?_)
              have tx49 : x49.toInt = v3_1.toInt + 1 := by rw [ex49]; exact i32_add rfl (by decide) (zk_l hh12.1 (by decide)) (zk_u (zlt_u (c := 20) c13 (by decide)) (by decide))
              exact ih1 v1_1 v2_1 x49 o48 hIo48 hkpo48 ⟨hh10.1, hh10.2⟩ ⟨hh11.1, hh11.2⟩ ⟨(zl_e (zq_r (c := (-1)) tx49 (by decide)) hh12.1 (by decide)), (zu_e (Int.le_of_eq tx49) (zlt_u (c := 20) c13 (by decide)) (by decide))⟩ (zms_u (c := 20) hN1 (zq_r (c := (-1)) tx49 (by decide)) (zlt_u (c := 20) c13 (by decide)) (by decide))
      exact lp1 zfu p0 p1 (0 : Int32) o1 hIo1 hkpo1 ⟨(zl_e (zd_e (c := 0) c5i.1 (zq_0 t3) (by decide)) (Int.le_of_eq tl1.symm) (by decide)), (zu_e (zd_e (c := 0) (zq_0 t3.symm) c5i.2 (by decide)) (Int.le_of_eq tl20) (by decide))⟩ ⟨(zl_e (zd_e (c := 0) c9i.1 (zq_0 t7) (by decide)) (Int.le_of_eq tl0.symm) (by decide)), (zu_e (zd_e (c := 0) (zq_0 t7.symm) c9i.2 (by decide)) (Int.le_of_eq tl99) (by decide))⟩ ⟨by decide, by decide⟩ (zme_u (l := 0) (Int.le_of_eq tz0.symm) (by decide))

set_option maxHeartbeats 4000000 in
set_option maxRecDepth 100000 in
theorem s_X9_change_v2 (o_me : Ob) (p0 : Int32) (p1 : Int32) (hI_me : IvX9 o_me) (q0 : 3 ≤ p0.toInt ∧ p0.toInt ≤ 3) (q1 : (-1) ≤ p1.toInt ∧ p1.toInt ≤ 5) : wp (f_X9_change   o_me p0 p1) (fun (y : Int32 × Ob) => ((-1) ≤ y.1.toInt ∧ y.1.toInt ≤ 5) ∧ IvX9 y.2 ∧ Kp [8, 11, 13, 14, 15, 16, 18, 19, 20, 21, 23, 26, 29, 34, 38, 43, 56, 57, 58, 59, 62] [2, 4, 5, 7, 10, 12, 22, 24, 25, 27, 28, 42, 48, 50, 51, 55, 61] [(0, 1), (1, 2), (29, 36), (36, 64), (64, 71)] o_me y.2) := by
  unfold f_X9_change
  refine wp_gd (zin_of (m := 5484) rfl (Int.le_trans (by decide) q0.1) (zlt_m (c := 5483) (Int.le_trans q0.2 (by decide)) (by decide))) ?_
  have t1 := iaX9_3_3 hI_me (j := p0) q0.1 q0.2
  refine wp_lt (fun x2 ex2 => ?_)
  have tx2 : x2.toInt = (gA o_me 3 p0.toNatClampNeg).toInt := by rw [ex2]
  refine wp_gd (zin_of (m := 5484) rfl (Int.le_trans (by decide) q0.1) (zlt_m (c := 5483) (Int.le_trans q0.2 (by decide)) (by decide))) ?_
  refine wp_lt (fun o3 eo3 => ?_)
  have hIo3 : IvX9 o3 := by rw [eo3]; exact ibX9_3 hI_me (Int.le_trans (by decide) q0.1) (Int.le_trans q0.2 (by decide)) (Or.inr (Or.inl (zlt_k (c := 1) (Int.le_trans (by decide) q0.1) (by decide)))) (Or.inr (Or.inl (zlt_k (c := 2) (Int.le_trans (by decide) q0.1) (by decide)))) (Or.inr (Or.inl (zlt_k (c := 3) q0.1 (by decide)))) (Or.inr (Or.inr ⟨q1.1, q1.2⟩)) (Or.inl (zlt_m (c := 6) (Int.le_trans q0.2 (by decide)) (by decide))) (Or.inl (zlt_m (c := 7) (Int.le_trans q0.2 (by decide)) (by decide))) (Or.inl (zlt_m (c := 21) (Int.le_trans q0.2 (by decide)) (by decide))) (Or.inl (zlt_m (c := 28) (Int.le_trans q0.2 (by decide)) (by decide))) (Or.inl (zlt_m (c := 70) (Int.le_trans q0.2 (by decide)) (by decide)))
  have hkpo3 : Kp [8, 11, 13, 14, 15, 16, 18, 19, 20, 21, 23, 26, 29, 34, 38, 43, 56, 57, 58, 59, 62] [2, 4, 5, 7, 10, 12, 22, 24, 25, 27, 28, 42, 48, 50, 51, 55, 61] [(0, 1), (1, 2), (29, 36), (36, 64), (64, 71)] o_me o3 := Kp.rf.trans (by rw [eo3]; exact kp_bw (a := 2) (b := 29) (by decide) (by decide) (Int.le_trans (by decide) q0.1) (Int.lt_of_le_of_lt q0.2 (by decide)))
  refine wp_lt (fun o4 eo4 => ?_)
  have hIo4 : IvX9 o4 := by rw [eo4]; exact hIo3
  have hkpo4 : Kp [8, 11, 13, 14, 15, 16, 18, 19, 20, 21, 23, 26, 29, 34, 38, 43, 56, 57, 58, 59, 62] [2, 4, 5, 7, 10, 12, 22, 24, 25, 27, 28, 42, 48, 50, 51, 55, 61] [(0, 1), (1, 2), (29, 36), (36, 64), (64, 71)] o_me o4 := hkpo3.trans (by rw [eo4]; exact Kp.sI (by decide))
  refine wp_some ?_
  exact (show ((-1) ≤ x2.toInt ∧ x2.toInt ≤ 5) ∧ IvX9 o4 ∧ Kp [8, 11, 13, 14, 15, 16, 18, 19, 20, 21, 23, 26, 29, 34, 38, 43, 56, 57, 58, 59, 62] [2, 4, 5, 7, 10, 12, 22, 24, 25, 27, 28, 42, 48, 50, 51, 55, 61] [(0, 1), (1, 2), (29, 36), (36, 64), (64, 71)] o_me o4 from ⟨⟨(zl_e (zq_0 tx2.symm) t1.1 (by decide)), (zu_e (zq_0 tx2) t1.2 (by decide))⟩, hIo4, hkpo4⟩)

set_option maxHeartbeats 4000000 in
set_option maxRecDepth 100000 in
theorem s_X9_force (o_me : Ob) (p0 : Int32) (hI_me : IvX9 o_me)  : wp (f_X9_force   o_me p0) (fun (y : Int32 × Ob) => ((-6) ≤ y.1.toInt ∧ y.1.toInt ≤ 2147483647) ∧ IvX9 y.2 ∧ Kp [8, 11, 13, 14, 15, 16, 18, 19, 20, 21, 23, 26, 29, 34, 38, 43, 56, 57, 58, 59, 62] [4, 5, 7, 10, 12, 22, 24, 25, 27, 28, 42, 48, 50, 51, 55, 61] [(0, 1), (1, 2), (29, 36), (36, 64), (64, 71)] o_me y.2) := by
  unfold f_X9_force
  refine wp_lt (fun o1 eo1 => ?_)
  have hIo1 : IvX9 o1 := by rw [eo1]; exact hI_me
  have hkpo1 : Kp [8, 11, 13, 14, 15, 16, 18, 19, 20, 21, 23, 26, 29, 34, 38, 43, 56, 57, 58, 59, 62] [4, 5, 7, 10, 12, 22, 24, 25, 27, 28, 42, 48, 50, 51, 55, 61] [(0, 1), (1, 2), (29, 36), (36, 64), (64, 71)] o_me o1 := Kp.rf.trans (by rw [eo1]; exact Kp.sI (by decide))
  refine wp_bd (s_X9_isLaw   o1 p0  hIo1  ) (fun z2 hz2 => ?_)
  obtain ⟨hz2_0, hz2_1⟩ := hz2
  refine wp_if (fun c3 => ?_) (fun c3 => ?_)
  · have c3 := cv_eq (a := z2.toInt) (b := 0) rfl (by decide) c3
    refine wp_bd (s_X9_tell   o1 (-2 : Int32)  hIo1  ⟨by decide, by decide⟩) (fun z4 hz4 => ?_)
    obtain ⟨hz4_0, hz4_1, hz4_2⟩ := hz4
    have hkpz4_me : Kp [8, 11, 13, 14, 15, 16, 18, 19, 20, 21, 23, 26, 29, 34, 38, 43, 56, 57, 58, 59, 62] [4, 5, 7, 10, 12, 22, 24, 25, 27, 28, 42, 48, 50, 51, 55, 61] [(0, 1), (1, 2), (29, 36), (36, 64), (64, 71)] o_me z4.2 := hkpo1.trans (hz4_2.mono (by decide) (by decide) (by decide))
    refine wp_some ?_
    exact (show ((-6) ≤ z4.1.toInt ∧ z4.1.toInt ≤ 2147483647) ∧ IvX9 z4.2 ∧ Kp [8, 11, 13, 14, 15, 16, 18, 19, 20, 21, 23, 26, 29, 34, 38, 43, 56, 57, 58, 59, 62] [4, 5, 7, 10, 12, 22, 24, 25, 27, 28, 42, 48, 50, 51, 55, 61] [(0, 1), (1, 2), (29, 36), (36, 64), (64, 71)] o_me z4.2 from ⟨⟨hz4_0.1, hz4_0.2⟩, hz4_1, hkpz4_me⟩)
  · have c3i := hz2_1 c3
    refine wp_bd (s_X9_change_v2   o1 (3 : Int32) p0  hIo1  ⟨by decide, by decide⟩ ⟨c3i.1, c3i.2⟩) (fun z6 hz6 => ?_)
    obtain ⟨hz6_0, hz6_1, hz6_2⟩ := hz6
    have hkpz6_me : Kp [8, 11, 13, 14, 15, 16, 18, 19, 20, 21, 23, 26, 29, 34, 38, 43, 56, 57, 58, 59, 62] [4, 5, 7, 10, 12, 22, 24, 25, 27, 28, 42, 48, 50, 51, 55, 61] [(0, 1), (1, 2), (29, 36), (36, 64), (64, 71)] o_me z6.2 := hkpo1.trans (hz6_2.mono (by decide) (by decide) (by decide))
    refine wp_some ?_
    exact (show ((-6) ≤ z6.1.toInt ∧ z6.1.toInt ≤ 2147483647) ∧ IvX9 z6.2 ∧ Kp [8, 11, 13, 14, 15, 16, 18, 19, 20, 21, 23, 26, 29, 34, 38, 43, 56, 57, 58, 59, 62] [4, 5, 7, 10, 12, 22, 24, 25, 27, 28, 42, 48, 50, 51, 55, 61] [(0, 1), (1, 2), (29, 36), (36, 64), (64, 71)] o_me z6.2 from ⟨⟨(Int.le_trans (by decide) hz6_0.1), (Int.le_trans hz6_0.2 (by decide))⟩, hz6_1, hkpz6_me⟩)

set_option maxHeartbeats 4000000 in
set_option maxRecDepth 100000 in
theorem s_X9_forget (o_me : Ob) (hI_me : IvX9 o_me)  : wp (f_X9_forget   o_me) (fun (y : Int32 × Ob) => (0 ≤ y.1.toInt ∧ y.1.toInt ≤ 6) ∧ IvX9 y.2 ∧ Kp [1, 8, 11, 13, 14, 15, 16, 18, 19, 20, 21, 23, 26, 29, 34, 38, 43, 56, 57, 58, 59, 62] [2, 4, 5, 7, 10, 12, 22, 24, 25, 27, 28, 42, 48, 50, 51, 55, 61] [(0, 1), (29, 36), (36, 64), (64, 71)] o_me y.2) := by
  unfold f_X9_forget
  refine wp_lt (fun o1 eo1 => ?_)
  have hIo1 : IvX9 o1 := by rw [eo1]; exact hI_me
  have hkpo1 : Kp [1, 8, 11, 13, 14, 15, 16, 18, 19, 20, 21, 23, 26, 29, 34, 38, 43, 56, 57, 58, 59, 62] [2, 4, 5, 7, 10, 12, 22, 24, 25, 27, 28, 42, 48, 50, 51, 55, 61] [(0, 1), (29, 36), (36, 64), (64, 71)] o_me o1 := Kp.rf.trans (by rw [eo1]; exact Kp.sI (by decide))
  have t2 := iaX9_3_1 hIo1 (j := (1 : Int32)) (by decide) (by decide)
  refine wp_lt (fun x3 ex3 => ?_)
  have tx3 : x3.toInt = (gA o1 3 (1 : Int32).toNatClampNeg).toInt := by rw [ex3]
  refine wp_lt (fun o4 eo4 => ?_)
  have hIo4 : IvX9 o4 := by rw [eo4]; exact ibX9_3 hIo1 (by decide) (by decide) (Or.inr (Or.inl (by decide))) (Or.inr (Or.inr ⟨by decide, by decide⟩)) (Or.inl (by decide)) (Or.inl (by decide)) (Or.inl (by decide)) (Or.inl (by decide)) (Or.inl (by decide)) (Or.inl (by decide)) (Or.inl (by decide))
  have hkpo4 : Kp [1, 8, 11, 13, 14, 15, 16, 18, 19, 20, 21, 23, 26, 29, 34, 38, 43, 56, 57, 58, 59, 62] [2, 4, 5, 7, 10, 12, 22, 24, 25, 27, 28, 42, 48, 50, 51, 55, 61] [(0, 1), (29, 36), (36, 64), (64, 71)] o_me o4 := hkpo1.trans (by rw [eo4]; exact kp_bw (a := 1) (b := 2) (by decide) (by decide) (by decide) (by decide))
  refine wp_some ?_
  exact (show (0 ≤ x3.toInt ∧ x3.toInt ≤ 6) ∧ IvX9 o4 ∧ Kp [1, 8, 11, 13, 14, 15, 16, 18, 19, 20, 21, 23, 26, 29, 34, 38, 43, 56, 57, 58, 59, 62] [2, 4, 5, 7, 10, 12, 22, 24, 25, 27, 28, 42, 48, 50, 51, 55, 61] [(0, 1), (29, 36), (36, 64), (64, 71)] o_me o4 from ⟨⟨(zl_e (zq_0 tx3.symm) t2.1 (by decide)), (zu_e (zq_0 tx3) t2.2 (by decide))⟩, hIo4, hkpo4⟩)

set_option maxHeartbeats 4000000 in
set_option maxRecDepth 100000 in
theorem s_X9_giveBack (o_me : Ob) (p0 : Int32) (hI_me : IvX9 o_me) (q0 : 0 ≤ p0.toInt ∧ p0.toInt ≤ 16) : wp (f_X9_giveBack   o_me p0) (fun (y : Ob) => IvX9 y ∧ Kp [1, 11, 13, 14, 15, 16, 18, 19, 20, 21, 23, 26, 29, 34, 38, 43, 56, 57, 58, 59, 62] [2, 4, 5, 10, 12, 22, 24, 25, 27, 28, 42, 48, 50, 51, 55, 61] [(0, 1), (1, 2), (29, 36), (36, 64), (64, 71)] o_me y) := by
  unfold f_X9_giveBack
  refine wp_bd (s_X9_putBack   o_me (17 : Int32)  hI_me  ⟨by decide, by decide⟩) (fun z1 hz1 => ?_)
  obtain ⟨hz1_0, hz1_1⟩ := hz1
  have hkpz1_me : Kp [1, 11, 13, 14, 15, 16, 18, 19, 20, 21, 23, 26, 29, 34, 38, 43, 56, 57, 58, 59, 62] [2, 4, 5, 10, 12, 22, 24, 25, 27, 28, 42, 48, 50, 51, 55, 61] [(0, 1), (1, 2), (29, 36), (36, 64), (64, 71)] o_me z1 := Kp.rf.trans (hz1_1.mono (by decide) (by decide) (by decide))
  have lp1 : ∀ (N1 : Nat) (v1_1 : Int32) (v2_1 : Int32) (o_me_1 : Ob), IvX9 o_me_1 → Kp [1, 11, 13, 14, 15, 16, 18, 19, 20, 21, 23, 26, 29, 34, 38, 43, 56, 57, 58, 59, 62] [2, 4, 5, 10, 12, 22, 24, 25, 27, 28, 42, 48, 50, 51, 55, 61] [(0, 1), (1, 2), (29, 36), (36, 64), (64, 71)] o_me o_me_1 → (0 ≤ v1_1.toInt ∧ v1_1.toInt ≤ 16) → (0 ≤ v2_1.toInt ∧ v2_1.toInt ≤ 400) → (400 - v2_1.toInt).toNat < N1 → wp (lp_X9_giveBack_8   N1 (v1_1, v2_1, o_me_1)) (fun (y : Ob) => IvX9 y ∧ Kp [1, 11, 13, 14, 15, 16, 18, 19, 20, 21, 23, 26, 29, 34, 38, 43, 56, 57, 58, 59, 62] [2, 4, 5, 10, 12, 22, 24, 25, 27, 28, 42, 48, 50, 51, 55, 61] [(0, 1), (1, 2), (29, 36), (36, 64), (64, 71)] o_me y) := by
    intro N1
    induction N1 with
    | zero =>
      intro v1_1 v2_1 o_me_1 hI_me_1 hkp_me_1 hh2 hh3 hN1
      exact absurd hN1 (Nat.not_lt_zero _)
    | succ N1 ihx =>
      have ih1 := ihx
      intro v1_1 v2_1 o_me_1 hI_me_1 hkp_me_1 hh2 hh3 hN1
      show wp (lb_X9_giveBack_8   (lp_X9_giveBack_8   N1) v1_1 v2_1 o_me_1) (fun (y : Ob) => IvX9 y ∧ Kp [1, 11, 13, 14, 15, 16, 18, 19, 20, 21, 23, 26, 29, 34, 38, 43, 56, 57, 58, 59, 62] [2, 4, 5, 10, 12, 22, 24, 25, 27, 28, 42, 48, 50, 51, 55, 61] [(0, 1), (1, 2), (29, 36), (36, 64), (64, 71)] o_me y)
      unfold lb_X9_giveBack_8
      refine wp_if (fun c4 => ?_) (fun c4 => ?_)
      · have c4 := cv_ge (a := v2_1.toInt) (b := 400) rfl (by decide) c4
        have lp2 : ∀ (N2 : Nat) (v1_2 : Int32) (v2_2 : Int32) (o_me_2 : Ob), IvX9 o_me_2 → Kp [1, 11, 13, 14, 15, 16, 18, 19, 20, 21, 23, 26, 29, 34, 38, 43, 56, 57, 58, 59, 62] [2, 4, 5, 10, 12, 22, 24, 25, 27, 28, 42, 48, 50, 51, 55, 61] [(0, 1), (1, 2), (29, 36), (36, 64), (64, 71)] o_me o_me_2 → (0 ≤ v1_2.toInt ∧ v1_2.toInt ≤ 16) → (0 ≤ v2_2.toInt ∧ v2_2.toInt ≤ 16) → (16 - v2_2.toInt).toNat < N2 → wp (lp_X9_giveBack_35   N2 (v1_2, v2_2, o_me_2)) (fun (y : Ob) => IvX9 y ∧ Kp [1, 11, 13, 14, 15, 16, 18, 19, 20, 21, 23, 26, 29, 34, 38, 43, 56, 57, 58, 59, 62] [2, 4, 5, 10, 12, 22, 24, 25, 27, 28, 42, 48, 50, 51, 55, 61] [(0, 1), (1, 2), (29, 36), (36, 64), (64, 71)] o_me y) := by
          intro N2
          induction N2 with
          | zero =>
            intro v1_2 v2_2 o_me_2 hI_me_2 hkp_me_2 hh5 hh6 hN2
            exact absurd hN2 (Nat.not_lt_zero _)
          | succ N2 ihx =>
            have ih2 := ihx
            intro v1_2 v2_2 o_me_2 hI_me_2 hkp_me_2 hh5 hh6 hN2
            show wp (lb_X9_giveBack_35   (lp_X9_giveBack_35   N2) v1_2 v2_2 o_me_2) (fun (y : Ob) => IvX9 y ∧ Kp [1, 11, 13, 14, 15, 16, 18, 19, 20, 21, 23, 26, 29, 34, 38, 43, 56, 57, 58, 59, 62] [2, 4, 5, 10, 12, 22, 24, 25, 27, 28, 42, 48, 50, 51, 55, 61] [(0, 1), (1, 2), (29, 36), (36, 64), (64, 71)] o_me y)
            unfold lb_X9_giveBack_35
            refine wp_if (fun c7 => ?_) (fun c7 => ?_)
            · have c7 := cv_ge (a := v2_2.toInt) (b := 16) rfl (by decide) c7
              refine wp_lt (fun o8 eo8 => ?_)
              have hIo8 : IvX9 o8 := by rw [eo8]; exact ipX9_8 hI_me_2 ⟨hh5.1, hh5.2⟩
              have hkpo8 : Kp [1, 11, 13, 14, 15, 16, 18, 19, 20, 21, 23, 26, 29, 34, 38, 43, 56, 57, 58, 59, 62] [2, 4, 5, 10, 12, 22, 24, 25, 27, 28, 42, 48, 50, 51, 55, 61] [(0, 1), (1, 2), (29, 36), (36, 64), (64, 71)] o_me o8 := hkp_me_2.trans (by rw [eo8]; exact Kp.sI (by decide))
              refine wp_some ?_
              exact (show IvX9 o8 ∧ Kp [1, 11, 13, 14, 15, 16, 18, 19, 20, 21, 23, 26, 29, 34, 38, 43, 56, 57, 58, 59, 62] [2, 4, 5, 10, 12, 22, 24, 25, 27, 28, 42, 48, 50, 51, 55, 61] [(0, 1), (1, 2), (29, 36), (36, 64), (64, 71)] o_me o8 from ⟨hIo8, hkpo8⟩)
            · have c7 := cv_nge (a := v2_2.toInt) (b := 16) rfl (by decide) c7
              refine wp_gd (zin_of (m := 16) rfl hh6.1 (zlt_m (c := 15) (zlt_u (c := 15) c7 (by decide)) (by decide))) ?_
              have t9 := iaX9_10_0 hI_me_2 (j := v2_2) hh6.1 (zlt_u (c := 15) c7 (by decide))
              refine wp_gd (zin_of (m := 16) rfl hh6.1 (zlt_m (c := 15) (zlt_u (c := 15) c7 (by decide)) (by decide))) ?_
              refine wp_lt (fun o10 eo10 => ?_)
              have hIo10 : IvX9 o10 := by rw [eo10]; exact ibX9_7 hI_me_2 hh6.1  (Or.inr (Or.inr ⟨t9.1, t9.2⟩))
              have hkpo10 : Kp [1, 11, 13, 14, 15, 16, 18, 19, 20, 21, 23, 26, 29, 34, 38, 43, 56, 57, 58, 59, 62] [2, 4, 5, 10, 12, 22, 24, 25, 27, 28, 42, 48, 50, 51, 55, 61] [(0, 1), (1, 2), (29, 36), (36, 64), (64, 71)] o_me o10 := hkp_me_2.trans (by rw [eo10]; exact Kp.tA (by decide) (by decide))
              refine wp_lt (fun x12 ex12 => ?_)
              have tx12 : x12.toInt = v2_2.toInt + 1 := by rw [ex12]; exact i32_add rfl (by decide) (zk_l hh6.1 (by decide)) (zk_u (zlt_u (c := 15) c7 (by decide)) (by decide))
              exact ih2 v1_2 x12 o10 hIo10 hkpo10 ⟨hh5.1, hh5.2⟩ ⟨(zl_e (zq_r (c := (-1)) tx12 (by decide)) hh6.1 (by decide)), (zu_e (Int.le_of_eq tx12) (zlt_u (c := 15) c7 (by decide)) (by decide))⟩ (zms_u (c := 15) hN2 (zq_r (c := (-1)) tx12 (by decide)) (zlt_u (c := 15) c7 (by decide)) (by decide))
        exact lp2 zfu v1_1 (0 : Int32) o_me_1 hI_me_1 hkp_me_1 ⟨hh2.1, hh2.2⟩ ⟨by decide, by decide⟩ (zme_u (l := 0) (Int.le_of_eq tz0.symm) (by decide))
      · have c4 := cv_nge (a := v2_1.toInt) (b := 400) rfl (by decide) c4
        refine wp_gd (zin_of (m := 400) rfl hh3.1 (zlt_m (c := 399) (zlt_u (c := 399) c4 (by decide)) (by decide))) ?_
        refine wp_gd (zin_of (m := 450) rfl hh3.1 (zlt_m (c := 449) (Int.le_trans hh3.2 (by decide)) (by decide))) ?_
        refine wp_lt (fun o13 eo13 => ?_)
        have hIo13 : IvX9 o13 := by rw [eo13]; exact spX9_give hI_me_1 ⟨hh3.1, (zlt_u (c := 399) c4 (by decide))⟩
        have hkpo13 : Kp [1, 11, 13, 14, 15, 16, 18, 19, 20, 21, 23, 26, 29, 34, 38, 43, 56, 57, 58, 59, 62] [2, 4, 5, 10, 12, 22, 24, 25, 27, 28, 42, 48, 50, 51, 55, 61] [(0, 1), (1, 2), (29, 36), (36, 64), (64, 71)] o_me o13 := hkp_me_1.trans (by rw [eo13]; exact Kp.tA (by decide) (by decide))
        refine wp_lt (fun x14 ex14 => ?_)
        have tx14 : x14.toInt = v2_1.toInt + 1 := by rw [ex14]; exact i32_add rfl (by decide) (zk_l hh3.1 (by decide)) (zk_u (zlt_u (c := 399) c4 (by decide)) (by decide))
        exact ih1 v1_1 x14 o13 hIo13 hkpo13 ⟨hh2.1, hh2.2⟩ ⟨(zl_e (zq_r (c := (-1)) tx14 (by decide)) hh3.1 (by decide)), (zu_e (Int.le_of_eq tx14) (zlt_u (c := 399) c4 (by decide)) (by decide))⟩ (zms_u (c := 399) hN1 (zq_r (c := (-1)) tx14 (by decide)) (zlt_u (c := 399) c4 (by decide)) (by decide))
  exact lp1 zfu p0 (0 : Int32) z1 hz1_0 hkpz1_me ⟨q0.1, q0.2⟩ ⟨by decide, by decide⟩ (zme_u (l := 0) (Int.le_of_eq tz0.symm) (by decide))

theorem pig : ∀ (n : Nat) (l : List Nat), l.Nodup → (∀ x ∈ l, x < n) → l.length ≤ n := by
  intro n
  induction n with
  | zero =>
    intro l _ h
    cases l with
    | nil => exact Nat.le_refl _
    | cons a l => exact absurd (h a (List.mem_cons_self ..)) (Nat.not_lt_zero _)
  | succ n ih =>
    intro l hd h
    by_cases hn : n ∈ l
    · have h1 := ih (l.erase n) (hd.erase n) (fun x hx => by
        have h2 := (hd.mem_erase_iff).mp hx
        have h3 := h x h2.2
        have h4 := h2.1
        omega)
      rw [List.length_erase_of_mem hn] at h1
      omega
    · have h1 := ih l hd (fun x hx => by
        have h3 := h x hx
        have h4 : x ≠ n := fun e => hn (e ▸ hx)
        omega)
      omega
def PS (g : Nat → Int32) : List Nat → Prop
  | [] => True
  | x :: r => (g r.length).toInt = (x : Int) ∧ PS g r
theorem PS_up {g : Nat → Int32} {j : Nat} {v : Int32} : ∀ (r : List Nat), r.length ≤ j → PS g r → PS (upd g j v) r := by
  intro r
  induction r with
  | nil => intro _ _; trivial
  | cons x r ih =>
    intro hj h
    have hj : r.length + 1 ≤ j := hj
    refine ⟨?_, ih (by omega) h.2⟩
    have e : upd g j v r.length = g r.length := if_neg (by omega)
    rw [e]; exact h.1
def LLc (o0 : Ob) (dn st : List Nat) : Prop := dn.Nodup ∧ st.Nodup ∧ (∀ a ∈ dn, ∀ b ∈ st, a ≠ b) ∧ (∀ x ∈ dn ++ st, x < 7) ∧ ∀ x ∈ dn ++ st, (gA o0 3 (29 + x)).toInt = -1 ∨ ∃ q ∈ dn, (gA o0 3 (29 + x)).toInt = (q : Int)
theorem LLc.le {o0 : Ob} {dn st : List Nat} (h : LLc o0 dn st) : dn.length + st.length ≤ 7 := by
  have h1 := pig 7 (dn ++ st) (List.nodup_append.mpr ⟨h.1, h.2.1, h.2.2.1⟩) h.2.2.2.1
  rw [List.length_append] at h1
  exact h1
theorem LLc.push {o0 : Ob} {dn st : List Nat} {p : Nat} (h : LLc o0 dn st) (hp : p < 7) (hn : p ∉ dn ++ st) (hpar : (gA o0 3 (29 + p)).toInt = -1 ∨ ∃ q ∈ dn, (gA o0 3 (29 + p)).toInt = (q : Int)) : LLc o0 dn (p :: st) := by
  obtain ⟨h1, h2, h3, h4, h5⟩ := h
  have n1 : p ∉ dn := fun z => hn (List.mem_append_left _ z)
  have n2 : p ∉ st := fun z => hn (List.mem_append_right _ z)
  have hm : ∀ x, x ∈ dn ++ p :: st → x = p ∨ x ∈ dn ++ st := by
    intro x hx
    rcases List.mem_append.mp hx with z | z
    · exact Or.inr (List.mem_append_left _ z)
    · rcases List.mem_cons.mp z with z | z
      · exact Or.inl z
      · exact Or.inr (List.mem_append_right _ z)
  refine ⟨h1, List.nodup_cons.mpr ⟨n2, h2⟩, fun a ha b hb => ?_, fun x hx => ?_, fun x hx => ?_⟩
  · rcases List.mem_cons.mp hb with e | e
    · subst e; exact fun e => n1 (e ▸ ha)
    · exact h3 a ha b e
  · rcases hm x hx with e | e
    · rw [e]; exact hp
    · exact h4 x e
  · rcases hm x hx with e | e
    · rw [e]; exact hpar
    · exact h5 x e
theorem LLc.pop {o0 : Ob} {dn st : List Nat} {p : Nat} (h : LLc o0 dn (p :: st)) : LLc o0 (p :: dn) st ∧ ∀ x ∈ (p :: dn) ++ st, (gA o0 3 (29 + x)).toInt ≠ (p : Int) := by
  obtain ⟨h1, h2, h3, h4, h5⟩ := h
  have hp : p ∉ dn := fun z => h3 p z p (List.mem_cons_self ..) rfl
  have h2 := List.nodup_cons.mp h2
  have hm : ∀ x, x ∈ (p :: dn) ++ st → x ∈ dn ++ p :: st := by
    intro x hx
    rcases List.mem_append.mp hx with z | z
    · rcases List.mem_cons.mp z with z | z
      · exact List.mem_append_right _ (z ▸ List.mem_cons_self ..)
      · exact List.mem_append_left _ z
    · exact List.mem_append_right _ (List.mem_cons_of_mem _ z)
  refine ⟨⟨List.nodup_cons.mpr ⟨hp, h1⟩, h2.2, fun a ha b hb => ?_, fun x hx => h4 x (hm x hx), fun x hx => ?_⟩, fun x hx e => ?_⟩
  · rcases List.mem_cons.mp ha with e | e
    · subst e; exact fun e => h2.1 (e ▸ hb)
    · exact h3 a e b (List.mem_cons_of_mem _ hb)
  · rcases h5 x (hm x hx) with z | ⟨q, hq, z⟩
    · exact Or.inl z
    · exact Or.inr ⟨q, List.mem_cons_of_mem _ hq, z⟩
  · rcases h5 x (hm x hx) with z | ⟨q, hq, z⟩
    · omega
    · have : q = p := by omega
      exact hp (this ▸ hq)
theorem h_ll89 (o0 : Ob) (P : Int32 × Ob → Prop) (rec46 : Int32 × Int32 × Ob → Option (Int32 × Ob)) (v1 v3 : Int32) (it : Nat) (e3 : v3.toInt = (it : Int)) (dn : List Nat) (hd : it ∈ dn)
    (hrec : ∀ (v2 : Int32) (o : Ob) (st : List Nat), IvX9 o → Kp [1, 8, 11, 13, 14, 15, 16, 18, 19, 20, 21, 23, 26, 29, 34, 38, 43, 56, 57, 58, 59, 62] [2, 3, 4, 5, 7, 10, 12, 22, 24, 25, 27, 28, 42, 48, 55, 61] [(0, 1), (1, 2), (29, 36), (36, 64), (64, 71)] o0 o → LLc o0 dn st → PS (gA o 50) st → v2.toInt = (st.length : Int) → wp (rec46 (v1, v2, o)) P) :
    ∀ (N : Nat) (v2 v4 : Int32) (o : Ob) (st : List Nat), IvX9 o → Kp [1, 8, 11, 13, 14, 15, 16, 18, 19, 20, 21, 23, 26, 29, 34, 38, 43, 56, 57, 58, 59, 62] [2, 3, 4, 5, 7, 10, 12, 22, 24, 25, 27, 28, 42, 48, 55, 61] [(0, 1), (1, 2), (29, 36), (36, 64), (64, 71)] o0 o → LLc o0 dn st → PS (gA o 50) st → v2.toInt = (st.length : Int) → -1 ≤ v4.toInt → v4.toInt ≤ 6 → (∀ x ∈ dn ++ st, (gA o0 3 (29 + x)).toInt = (it : Int) → v4.toInt < (x : Int)) → v4.toInt + 1 < (N : Int) → wp (lp_X9_layLine_89 rec46 N (v1, v2, v3, v4, o)) P := by
  intro N
  induction N with
  | zero => intro v2 v4 o st _ _ _ _ _ _ _ _ _; exfalso; omega
  | succ N ih =>
    intro v2 v4 o st hI hK hL hP e2 h4 h4b hB hN
    show wp (lb_X9_layLine_89 rec46 (lp_X9_layLine_89 rec46 N) v1 v2 v3 v4 o) P
    unfold lb_X9_layLine_89
    refine wp_if (fun c => hrec v2 o st hI hK hL hP e2) (fun c => ?_)
    have c := cv_nle (a := v4.toInt) (b := v3.toInt) rfl rfl c
    have k3 : gA o 3 = gA o0 3 := hK.2.1 3 (by decide)
    obtain ⟨p, ep⟩ : ∃ p : Nat, v4.toInt = (p : Int) := ⟨v4.toInt.toNat, by omega⟩
    have a1 : ((29 : Int32) + v4).toInt = 29 + (p : Int) := i32_add (by decide) ep (by omega) (by omega)
    have n1 : ((29 : Int32) + v4).toNatClampNeg = 29 + p := tnc_eq (by omega)
    have hle := hL.le
    have h120 : ∀ (w2 : Int32) (o' : Ob) (st' : List Nat), IvX9 o' → Kp [1, 8, 11, 13, 14, 15, 16, 18, 19, 20, 21, 23, 26, 29, 34, 38, 43, 56, 57, 58, 59, 62] [2, 3, 4, 5, 7, 10, 12, 22, 24, 25, 27, 28, 42, 48, 55, 61] [(0, 1), (1, 2), (29, 36), (36, 64), (64, 71)] o0 o' → LLc o0 dn st' → PS (gA o' 50) st' → w2.toInt = (st'.length : Int) → (∀ x ∈ dn ++ st', (gA o0 3 (29 + x)).toInt = (it : Int) → v4.toInt - 1 < (x : Int)) → wp (bk_X9_layLine_120 rec46 (lp_X9_layLine_89 rec46 N) v1 w2 v3 v4 o') P := by
      intro w2 o' st' g1 g2 g3 g4 g5 g6
      unfold bk_X9_layLine_120
      refine wp_lt (fun x8 e8 => ?_)
      have t8 : x8.toInt = v4.toInt + (-1) := by rw [e8]; exact i32_add rfl (by decide) (by omega) (by omega)
      exact ih w2 x8 o' st' g1 g2 g3 g4 g5 (by omega) (by omega) (fun x hx e => by have := g6 x hx e; omega) (by omega)
    refine wp_gd (zin_of (m := 5484) rfl (by omega) (by omega)) ?_
    refine wp_if (fun c2 => ?_) (fun c2 => h120 v2 o st hI hK hL hP e2 (fun x hx e => by have := hB x hx e; omega))
    rw [n1] at c2
    have c2 := cv_eq (a := (gA o 3 (29 + p)).toInt) (b := (it : Int)) rfl e3 c2
    rw [k3] at c2
    have hnew : p ∉ dn ++ st := fun z => by have := hB p z c2; omega
    have hL2 := hL.push (p := p) (by omega) hnew (Or.inr ⟨it, hd, c2⟩)
    have hle2 := hL2.le
    rw [List.length_cons] at hle2
    refine wp_gd (zin_of (m := 14) rfl (by omega) (by omega)) ?_
    refine wp_lt (fun o10 e10 => ?_)
    refine wp_lt (fun x11 e11 => ?_)
    have t11 : x11.toInt = v2.toInt + 1 := by rw [e11]; exact i32_add rfl (by decide) (by omega) (by omega)
    have n2 : v2.toNatClampNeg = st.length := tnc_eq e2
    have hI10 : IvX9 o10 := by rw [e10]; exact ibX9_50 hI (by omega) (Or.inr (Or.inr ⟨by omega, by omega⟩))
    refine h120 x11 o10 (p :: st) hI10 (hK.trans (by rw [e10]; exact Kp.tA (by decide) (by decide))) hL2 ?_ (by rw [List.length_cons]; omega) (fun x hx e => ?_)
    · have eg : gA o10 50 = upd (gA o 50) st.length v4 := by rw [e10, n2]; rfl
      rw [eg]
      refine ⟨?_, PS_up st (Nat.le_refl _) hP⟩
      have e : upd (gA o 50) st.length v4 st.length = v4 := if_pos rfl
      rw [e]; exact ep
    · rcases List.mem_append.mp hx with z | z
      · have := hB x (List.mem_append_left _ z) e; omega
      · rcases List.mem_cons.mp z with z | z
        · subst z; omega
        · have := hB x (List.mem_append_right _ z) e; omega
theorem h_ll46 (o0 : Ob) : ∀ (N : Nat) (v1 v2 : Int32) (o : Ob) (dn st : List Nat), IvX9 o → Kp [1, 8, 11, 13, 14, 15, 16, 18, 19, 20, 21, 23, 26, 29, 34, 38, 43, 56, 57, 58, 59, 62] [2, 3, 4, 5, 7, 10, 12, 22, 24, 25, 27, 28, 42, 48, 55, 61] [(0, 1), (1, 2), (29, 36), (36, 64), (64, 71)] o0 o → LLc o0 dn st → PS (gA o 50) st → v2.toInt = (st.length : Int) → 0 ≤ v1.toInt → v1.toInt ≤ (dn.length : Int) → 7 < N + dn.length → wp (lp_X9_layLine_46 N (v1, v2, o)) (fun (y : Int32 × Ob) => (0 ≤ y.1.toInt ∧ y.1.toInt ≤ 7) ∧ IvX9 y.2 ∧ Kp [1, 8, 11, 13, 14, 15, 16, 18, 19, 20, 21, 23, 26, 29, 34, 38, 43, 56, 57, 58, 59, 62] [2, 3, 4, 5, 7, 10, 12, 22, 24, 25, 27, 28, 42, 48, 55, 61] [(0, 1), (1, 2), (29, 36), (36, 64), (64, 71)] o0 y.2) := by
  intro N
  induction N with
  | zero => intro v1 v2 o dn st _ _ hL _ _ _ _ _; exfalso; have := hL.le; omega
  | succ N ih =>
    intro v1 v2 o dn st hI hK hL hP e2 h1 h1b hN
    have hle := hL.le
    show wp (lb_X9_layLine_46 (lp_X9_layLine_46 N) v1 v2 o) _
    unfold lb_X9_layLine_46
    refine wp_if (fun c => wp_some (by dsimp only; exact ⟨⟨h1, by omega⟩, hI, hK⟩)) (fun c => ?_)
    have c := cv_nle (a := v2.toInt) (b := 0) rfl (by decide) c
    cases st with
    | nil => exfalso; rw [List.length_nil] at e2; omega
    | cons it st =>
      rw [List.length_cons] at e2 hle
      refine wp_lt (fun x2 ex2 => ?_)
      have t2 : x2.toInt = (st.length : Int) := by
        have t : x2.toInt = v2.toInt + (-1) := by rw [ex2]; exact i32_add rfl (by decide) (by omega) (by omega)
        omega
      have n2 : x2.toNatClampNeg = st.length := tnc_eq t2
      refine wp_gd (zin_of (m := 14) rfl (by omega) (by omega)) ?_
      refine wp_lt (fun x4 ex4 => ?_)
      have t4 : x4.toInt = (it : Int) := by rw [ex4, n2]; exact hP.1
      have hit : it < 7 := hL.2.2.2.1 it (List.mem_append_right _ (List.mem_cons_self ..))
      obtain ⟨hL2, hne⟩ := hL.pop
      have r0 := iaX9_3_0 hI (j := 0) (by decide) (by decide)
      have h79 : ∀ (w1 : Int32) (o' : Ob), IvX9 o' → Kp [1, 8, 11, 13, 14, 15, 16, 18, 19, 20, 21, 23, 26, 29, 34, 38, 43, 56, 57, 58, 59, 62] [2, 3, 4, 5, 7, 10, 12, 22, 24, 25, 27, 28, 42, 48, 55, 61] [(0, 1), (1, 2), (29, 36), (36, 64), (64, 71)] o0 o' → gA o' 50 = gA o 50 → gA o' 3 = gA o 3 → 0 ≤ w1.toInt → w1.toInt ≤ (dn.length : Int) + 1 → wp (bk_X9_layLine_79 (lp_X9_layLine_46 N) w1 x2 x4 o') (fun (y : Int32 × Ob) => (0 ≤ y.1.toInt ∧ y.1.toInt ≤ 7) ∧ IvX9 y.2 ∧ Kp [1, 8, 11, 13, 14, 15, 16, 18, 19, 20, 21, 23, 26, 29, 34, 38, 43, 56, 57, 58, 59, 62] [2, 3, 4, 5, 7, 10, 12, 22, 24, 25, 27, 28, 42, 48, 55, 61] [(0, 1), (1, 2), (29, 36), (36, 64), (64, 71)] o0 y.2) := by
        intro w1 o' hI' hK' eg eg3 g1 g2
        unfold bk_X9_layLine_79
        refine wp_lt (fun x6 e6 => ?_)
        have t6 : x6.toInt = (gA o 3 (0 : Int32).toNatClampNeg).toInt - 1 := by rw [e6, eg3]; exact i32_sub rfl (by decide) (by omega) (by omega)
        refine h_ll89 o0 _ (lp_X9_layLine_46 N) w1 x4 it t4 (it :: dn) (List.mem_cons_self ..) (fun w2 o2 st2 f1 f2 f3 f4 f5 => ih w1 w2 o2 (it :: dn) st2 f1 f2 f3 f4 f5 g1 (by rw [List.length_cons]; omega) (by rw [List.length_cons]; omega)) zfu x2 x6 o' st hI' hK' hL2 (by rw [eg]; exact hP.2) t2 (by omega) (by omega) (fun x hx e => absurd e (hne x hx)) ?_
        show _ < ((100000 : Nat) : Int)
        omega
      refine wp_bd (s_X9_elder o x4 hI ⟨by omega, by omega⟩) (fun z5 _ => ?_)
      refine wp_if (fun c => h79 v1 o hI hK rfl rfl h1 (by omega)) (fun c => ?_)
      refine wp_gd (zin_of (m := 7) rfl (by omega) (by omega)) ?_
      refine wp_lt (fun o13 e13 => ?_)
      refine wp_lt (fun x14 e14 => ?_)
      have t14 : x14.toInt = v1.toInt + 1 := by rw [e14]; exact i32_add rfl (by decide) (by omega) (by omega)
      refine h79 x14 o13 ?_ (hK.trans (by rw [e13]; exact Kp.tA (by decide) (by decide))) (by rw [e13]; rfl) (by rw [e13]; rfl) (by omega) (by omega)
      rw [e13]; exact ibX9_51 hI (by omega) (Or.inr (Or.inr ⟨by omega, by omega⟩))
set_option maxHeartbeats 4000000 in
set_option maxRecDepth 100000 in
theorem s_X9_layLine (o_me : Ob) (hI_me : IvX9 o_me)  : wp (f_X9_layLine   o_me) (fun (y : Int32 × Ob) => (0 ≤ y.1.toInt ∧ y.1.toInt ≤ 7) ∧ IvX9 y.2 ∧ Kp [1, 8, 11, 13, 14, 15, 16, 18, 19, 20, 21, 23, 26, 29, 34, 38, 43, 56, 57, 58, 59, 62] [2, 3, 4, 5, 7, 10, 12, 22, 24, 25, 27, 28, 42, 48, 55, 61] [(0, 1), (1, 2), (29, 36), (36, 64), (64, 71)] o_me y.2) := by
  have z0 : (0 : Int32).toInt = 0 := by decide
  have r0 := iaX9_3_0 hI_me (j := 0) (by decide) (by decide)
  have loop : ∀ (N : Nat) (v2 v3 : Int32) (o : Ob) (st : List Nat), IvX9 o → Kp [1, 8, 11, 13, 14, 15, 16, 18, 19, 20, 21, 23, 26, 29, 34, 38, 43, 56, 57, 58, 59, 62] [2, 3, 4, 5, 7, 10, 12, 22, 24, 25, 27, 28, 42, 48, 55, 61] [(0, 1), (1, 2), (29, 36), (36, 64), (64, 71)] o_me o → LLc o_me [] st → PS (gA o 50) st → v2.toInt = (st.length : Int) → -1 ≤ v3.toInt → v3.toInt ≤ 6 → (∀ x ∈ st, v3.toInt < (x : Int)) → v3.toInt + 1 < (N : Int) → wp (lp_X9_layLine_13 N (0, v2, v3, o)) (fun (y : Int32 × Ob) => (0 ≤ y.1.toInt ∧ y.1.toInt ≤ 7) ∧ IvX9 y.2 ∧ Kp [1, 8, 11, 13, 14, 15, 16, 18, 19, 20, 21, 23, 26, 29, 34, 38, 43, 56, 57, 58, 59, 62] [2, 3, 4, 5, 7, 10, 12, 22, 24, 25, 27, 28, 42, 48, 55, 61] [(0, 1), (1, 2), (29, 36), (36, 64), (64, 71)] o_me y.2) := by
    intro N
    induction N with
    | zero => intro v2 v3 o st _ _ _ _ _ _ _ _ _; exfalso; omega
    | succ N ih =>
      intro v2 v3 o st hI hK hL hP e2 h3 h3b hB hN
      show wp (lb_X9_layLine_13 (lp_X9_layLine_13 N) 0 v2 v3 o) _
      unfold lb_X9_layLine_13
      refine wp_if (fun c => ?_) (fun c => ?_)
      · exact h_ll46 o_me zfu 0 v2 o [] st hI hK hL hP e2 (by omega) (by rw [z0]; exact Int.ofNat_nonneg _) (by show 7 < 100000 + _; omega)
      have c := cv_nlt (a := v3.toInt) (b := 0) rfl (by decide) c
      have k3 : gA o 3 = gA o_me 3 := hK.2.1 3 (by decide)
      obtain ⟨p, ep⟩ : ∃ p : Nat, v3.toInt = (p : Int) := ⟨v3.toInt.toNat, by omega⟩
      have a1 : ((29 : Int32) + v3).toInt = 29 + (p : Int) := i32_add (by decide) ep (by omega) (by omega)
      have n1 : ((29 : Int32) + v3).toNatClampNeg = 29 + p := tnc_eq (by omega)
      have h40 : ∀ (w2 : Int32) (o' : Ob) (st' : List Nat), IvX9 o' → Kp [1, 8, 11, 13, 14, 15, 16, 18, 19, 20, 21, 23, 26, 29, 34, 38, 43, 56, 57, 58, 59, 62] [2, 3, 4, 5, 7, 10, 12, 22, 24, 25, 27, 28, 42, 48, 55, 61] [(0, 1), (1, 2), (29, 36), (36, 64), (64, 71)] o_me o' → LLc o_me [] st' → PS (gA o' 50) st' → w2.toInt = (st'.length : Int) → (∀ x ∈ st', v3.toInt - 1 < (x : Int)) → wp (bk_X9_layLine_40 (lp_X9_layLine_13 N) 0 w2 v3 o') (fun (y : Int32 × Ob) => (0 ≤ y.1.toInt ∧ y.1.toInt ≤ 7) ∧ IvX9 y.2 ∧ Kp [1, 8, 11, 13, 14, 15, 16, 18, 19, 20, 21, 23, 26, 29, 34, 38, 43, 56, 57, 58, 59, 62] [2, 3, 4, 5, 7, 10, 12, 22, 24, 25, 27, 28, 42, 48, 55, 61] [(0, 1), (1, 2), (29, 36), (36, 64), (64, 71)] o_me y.2) := by
        intro w2 o' st' g1 g2 g3 g4 g5 g6
        unfold bk_X9_layLine_40
        refine wp_lt (fun x16 e16 => ?_)
        have t16 : x16.toInt = v3.toInt + (-1) := by rw [e16]; exact i32_add rfl (by decide) (by omega) (by omega)
        exact ih w2 x16 o' st' g1 g2 g3 g4 g5 (by omega) (by omega) (fun x hx => by have := g6 x hx; omega) (by omega)
      refine wp_gd (zin_of (m := 5484) rfl (by omega) (by omega)) ?_
      refine wp_if (fun c2 => ?_) (fun c2 => h40 v2 o st hI hK hL hP e2 (fun x hx => by have := hB x hx; omega))
      rw [n1] at c2
      have c2 := cv_eq (a := (gA o 3 (29 + p)).toInt) (b := -1) rfl (by decide) c2
      rw [k3] at c2
      have hnew : p ∉ [] ++ st := fun z => by have := hB p z; omega
      have hL2 := hL.push (p := p) (by omega) hnew (Or.inl c2)
      have hle2 := hL2.le
      rw [List.length_cons, List.length_nil] at hle2
      refine wp_gd (zin_of (m := 14) rfl (by omega) (by omega)) ?_
      refine wp_lt (fun o18 e18 => ?_)
      refine wp_lt (fun x19 e19 => ?_)
      have t19 : x19.toInt = v2.toInt + 1 := by rw [e19]; exact i32_add rfl (by decide) (by omega) (by omega)
      have n2 : v2.toNatClampNeg = st.length := tnc_eq e2
      have hI18 : IvX9 o18 := by rw [e18]; exact ibX9_50 hI (by omega) (Or.inr (Or.inr ⟨by omega, by omega⟩))
      refine h40 x19 o18 (p :: st) hI18 (hK.trans (by rw [e18]; exact Kp.tA (by decide) (by decide))) hL2 ?_ (by rw [List.length_cons]; omega) (fun x hx => ?_)
      · have eg : gA o18 50 = upd (gA o 50) st.length v3 := by rw [e18, n2]; rfl
        rw [eg]
        refine ⟨?_, PS_up st (Nat.le_refl _) hP⟩
        have e : upd (gA o 50) st.length v3 st.length = v3 := if_pos rfl
        rw [e]; exact ep
      · rcases List.mem_cons.mp hx with z | z
        · subst z; omega
        · have := hB x z; omega
  unfold f_X9_layLine
  refine wp_lt (fun x1 e1 => ?_)
  have t1 : x1.toInt = (gA o_me 3 (0 : Int32).toNatClampNeg).toInt - 1 := by rw [e1]; exact i32_sub rfl (by decide) (by omega) (by omega)
  refine loop zfu 0 x1 o_me [] hI_me Kp.rf ⟨List.nodup_nil, List.nodup_nil, fun a ha => absurd ha List.not_mem_nil, fun x hx => absurd hx List.not_mem_nil, fun x hx => absurd hx List.not_mem_nil⟩ trivial (by decide) (by omega) (by omega) (fun x hx => absurd hx List.not_mem_nil) ?_
  show _ < ((100000 : Nat) : Int)
  omega

set_option maxHeartbeats 4000000 in
set_option maxRecDepth 100000 in
theorem s_X9_heir (o_me : Ob) (p0 : Int32) (hI_me : IvX9 o_me)  : wp (f_X9_heir   o_me p0) (fun (y : Int32 × Ob) => ((-1) ≤ y.1.toInt ∧ y.1.toInt ≤ 7) ∧ IvX9 y.2 ∧ Kp [1, 8, 11, 13, 14, 15, 16, 18, 19, 20, 21, 23, 26, 29, 34, 38, 43, 56, 57, 58, 59, 62] [2, 3, 4, 5, 7, 10, 12, 22, 24, 25, 27, 28, 42, 48, 55, 61] [(0, 1), (1, 2), (29, 36), (36, 64), (64, 71)] o_me y.2) := by
  unfold f_X9_heir
  refine wp_lt (fun o1 eo1 => ?_)
  have hIo1 : IvX9 o1 := by rw [eo1]; exact hI_me
  have hkpo1 : Kp [1, 8, 11, 13, 14, 15, 16, 18, 19, 20, 21, 23, 26, 29, 34, 38, 43, 56, 57, 58, 59, 62] [2, 3, 4, 5, 7, 10, 12, 22, 24, 25, 27, 28, 42, 48, 55, 61] [(0, 1), (1, 2), (29, 36), (36, 64), (64, 71)] o_me o1 := Kp.rf.trans (by rw [eo1]; exact Kp.sI (by decide))
  refine wp_bd (s_X9_layLine   o1  hIo1  ) (fun z2 hz2 => ?_)
  obtain ⟨hz2_0, hz2_1, hz2_2⟩ := hz2
  have hkpz2_me : Kp [1, 8, 11, 13, 14, 15, 16, 18, 19, 20, 21, 23, 26, 29, 34, 38, 43, 56, 57, 58, 59, 62] [2, 3, 4, 5, 7, 10, 12, 22, 24, 25, 27, 28, 42, 48, 55, 61] [(0, 1), (1, 2), (29, 36), (36, 64), (64, 71)] o_me z2.2 := hkpo1.trans (hz2_2.mono (by decide) (by decide) (by decide))
  refine wp_if (fun c3 => ?_) (fun c3 => ?_)
  · refine wp_some ?_
    exact (show ((-1) ≤ z2.1.toInt ∧ z2.1.toInt ≤ 7) ∧ IvX9 z2.2 ∧ Kp [1, 8, 11, 13, 14, 15, 16, 18, 19, 20, 21, 23, 26, 29, 34, 38, 43, 56, 57, 58, 59, 62] [2, 3, 4, 5, 7, 10, 12, 22, 24, 25, 27, 28, 42, 48, 55, 61] [(0, 1), (1, 2), (29, 36), (36, 64), (64, 71)] o_me z2.2 from ⟨⟨(Int.le_trans (by decide) hz2_0.1), hz2_0.2⟩, hz2_1, hkpz2_me⟩)
  · have t5 : p0.toInt64.toInt = p0.toInt := Int32.toInt_toInt64 _
    have t6 : z2.1.toInt64.toInt = z2.1.toInt := Int32.toInt_toInt64 _
    have t7 : (z2.1.toInt64 - (1 : Int64)).toInt = z2.1.toInt64.toInt - 1 := i64_sub rfl (by decide) (zs_l (zl_e (k := 0) (zq_0 t6.symm) hz2_0.1 (by decide)) (by decide)) (zs_u (zu_e (k := 7) (zq_0 t6) hz2_0.2 (by decide)) (by decide))
    refine wp_bd (s_X9_in   p0.toInt64 (0 : Int64) (z2.1.toInt64 - (1 : Int64))    ) (fun z8 hz8 => ?_)
    obtain ⟨hz8_0, hz8_1⟩ := hz8
    refine wp_if (fun c9 => ?_) (fun c9 => ?_)
    · have c9 := cv_eq (a := z8.toInt) (b := 0) rfl (by decide) c9
      refine wp_some ?_
      exact (show ((-1) ≤ (-1 : Int32).toInt ∧ (-1 : Int32).toInt ≤ 7) ∧ IvX9 z2.2 ∧ Kp [1, 8, 11, 13, 14, 15, 16, 18, 19, 20, 21, 23, 26, 29, 34, 38, 43, 56, 57, 58, 59, 62] [2, 3, 4, 5, 7, 10, 12, 22, 24, 25, 27, 28, 42, 48, 55, 61] [(0, 1), (1, 2), (29, 36), (36, 64), (64, 71)] o_me z2.2 from ⟨⟨by decide, by decide⟩, hz2_1, hkpz2_me⟩)
    · have c9i := hz8_1 c9
      refine wp_gd (zin_of (m := 7) rfl (zl_e (zd_e (c := 0) c9i.1 (zq_0 t5) (by decide)) (Int.le_of_eq tl0.symm) (by decide)) (zlt_m (c := 6) (zu_e (zd_e (c := (-1)) (zd_e (c := (-1)) (zd_e (c := 0) (zq_0 t5.symm) c9i.2 (by decide)) (zq_s (c := (-1)) t7 (by decide)) (by decide)) (zq_0 t6) (by decide)) hz2_0.2 (by decide)) (by decide))) ?_
      have t10 := iaX9_51_0 hz2_1 (j := p0) (zl_e (zd_e (c := 0) c9i.1 (zq_0 t5) (by decide)) (Int.le_of_eq tl0.symm) (by decide)) (zu_e (zd_e (c := (-1)) (zd_e (c := (-1)) (zd_e (c := 0) (zq_0 t5.symm) c9i.2 (by decide)) (zq_s (c := (-1)) t7 (by decide)) (by decide)) (zq_0 t6) (by decide)) hz2_0.2 (by decide))
      refine wp_some ?_
      exact (show ((-1) ≤ (gA z2.2 51 p0.toNatClampNeg).toInt ∧ (gA z2.2 51 p0.toNatClampNeg).toInt ≤ 7) ∧ IvX9 z2.2 ∧ Kp [1, 8, 11, 13, 14, 15, 16, 18, 19, 20, 21, 23, 26, 29, 34, 38, 43, 56, 57, 58, 59, 62] [2, 3, 4, 5, 7, 10, 12, 22, 24, 25, 27, 28, 42, 48, 55, 61] [(0, 1), (1, 2), (29, 36), (36, 64), (64, 71)] o_me z2.2 from ⟨⟨(Int.le_trans (by decide) t10.1), (Int.le_trans t10.2 (by decide))⟩, hz2_1, hkpz2_me⟩)

theorem h_img (o0 : Ob) (hI0 : IvX9 o0) (k : Nat) (hk : k < 2) :
    ∀ (N : Nat) (v1 v2 : Int32) (o : Ob) (n : Nat), v1.toInt = (k : Int) → v2.toInt = (n : Int) → n ≤ 5484 → (∀ i, gI o i = gI o0 i) → gL o 60 = gL o0 60 → (∀ i, i ≠ 4 → gA o i = gA o0 i) → (∀ i, i < n → gA o 4 (5484 * k + i) = gA o0 3 i) → (∀ j, j < 5484 * k ∨ 5484 * k + 5484 ≤ j → gA o 4 j = gA o0 4 j) → 5484 < N + n → wp (lp_X9_image_23 N (v1, v2, o)) (fun y => IvX9 y.2 ∧ Kp [8, 11, 13, 14, 15, 16, 18, 19, 20, 21, 23, 26, 29, 34, 38, 43, 56, 57, 58, 59, 62] [3, 7, 10, 12, 22, 24, 25, 27, 28, 42, 48, 50, 51, 55, 61] [(0, 1), (1, 2), (29, 36), (36, 64), (64, 71)] o0 y.2) := by
  intro N
  induction N with
  | zero => intro v1 v2 o n _ _ _ _ _ _ _ _ _; exfalso; omega
  | succ N ih =>
    intro v1 v2 o n e1 e2 hn hI hL hA hp hr hN
    show wp (lb_X9_image_23 (lp_X9_image_23 N) v1 v2 o) _
    unfold lb_X9_image_23
    refine wp_if (fun c => ?_) (fun c => ?_)
    · have c := cv_le (a := 5484) (b := v2.toInt) (by decide) rfl c
      refine wp_gd (zin_of (m := 2) rfl (by omega) (by omega)) ?_
      refine wp_lt (fun o4 e4 => ?_)
      have hIo : IvX9 o := by
        refine ivX9_of hI0 hI hL (fun i _ h4 => hA i h4) (by rw [hA 3 (by decide)]; exact segX9_3 hI0) ?_
        rw [hA 3 (by decide), hA 6 (by decide), hA 9 (by decide)]
        exact EX9.img (k := k) (h9last hI0).1 (segX9_3 hI0) (fun i hi => hp i (by omega)) hr
      have hKo : Kp [8, 11, 13, 14, 15, 16, 18, 19, 20, 21, 23, 26, 29, 34, 38, 43, 56, 57, 58, 59, 62] [3, 7, 10, 12, 22, 24, 25, 27, 28, 42, 48, 50, 51, 55, 61] [(0, 1), (1, 2), (29, 36), (36, 64), (64, 71)] o0 o4 := by
        rw [e4]
        refine Kp.trans (o' := o) ⟨fun i _ => hI i, fun i hi => hA i (fun e => by subst e; revert hi; decide), fun c hc j _ _ => congrFun (hA 3 (by decide)) j⟩ (Kp.tA (by decide) (by decide))
      have hI4 : IvX9 o4 := by rw [e4]; exact hIo
      refine wp_bd (s_X9_tell o4 0 hI4 ⟨by decide, by decide⟩) (fun z hz => ?_)
      exact wp_some ⟨hz.2.1, hKo.trans (hz.2.2.mono (by decide) (by decide) (by decide))⟩
    · have c := cv_nle (a := 5484) (b := v2.toInt) (by decide) rfl c
      have m1 : ((5484 : Int32) * v1).toInt = 5484 * (k : Int) := i32_mul (by decide) e1 (by omega) (by omega)
      have m2 : (((5484 : Int32) * v1) + v2).toInt = 5484 * (k : Int) + (n : Int) := i32_add m1 e2 (by omega) (by omega)
      have n1 : (((5484 : Int32) * v1) + v2).toNatClampNeg = 5484 * k + n := tnc_eq (by omega)
      have n2 : v2.toNatClampNeg = n := tnc_eq e2
      refine wp_gd (zin_of (m := 5484) rfl (by omega) (by omega)) ?_
      refine wp_gd (zin_of (m := 10968) rfl (by omega) (by omega)) ?_
      rw [n1, n2]
      refine wp_lt (fun o8 e8 => ?_)
      refine wp_lt (fun x9 e9 => ?_)
      have t9 : x9.toInt = (n : Int) + 1 := by rw [e9]; exact i32_add e2 (by decide) (by omega) (by omega)
      have a4 : ∀ j, gA o8 4 j = if j = 5484 * k + n then gA o0 3 n else gA o 4 j := by
        intro j
        rw [e8]
        show (if j = 5484 * k + n then gA o 3 n else gA o 4 j) = _
        rw [hA 3 (by decide)]
      refine ih v1 x9 o8 (n + 1) e1 (by omega) (by omega) (fun i => by rw [e8]; exact hI i) (by rw [e8]; exact hL) (fun i hi => ?_) (fun i hi => ?_) (fun j hj => ?_) (by omega)
      · rw [e8]; exact (fset_ne hi).trans (hA i hi)
      · rw [a4]
        by_cases e : i = n
        · subst e; rw [if_pos rfl]
        · rw [if_neg (by omega)]; exact hp i (by omega)
      · rw [a4, if_neg (by omega)]; exact hr j hj
set_option maxHeartbeats 4000000 in
set_option maxRecDepth 100000 in
theorem s_X9_image (o_me : Ob) (p0 : Int32) (hI_me : IvX9 o_me)  : wp (f_X9_image   o_me p0) (fun (y : Int32 × Ob) => IvX9 y.2 ∧ Kp [8, 11, 13, 14, 15, 16, 18, 19, 20, 21, 23, 26, 29, 34, 38, 43, 56, 57, 58, 59, 62] [3, 7, 10, 12, 22, 24, 25, 27, 28, 42, 48, 50, 51, 55, 61] [(0, 1), (1, 2), (29, 36), (36, 64), (64, 71)] o_me y.2) := by
  unfold f_X9_image
  refine wp_lt (fun o1 e1 => ?_)
  have hI1 : IvX9 o1 := by rw [e1]; exact hI_me
  have hK1 : Kp [8, 11, 13, 14, 15, 16, 18, 19, 20, 21, 23, 26, 29, 34, 38, 43, 56, 57, 58, 59, 62] [3, 7, 10, 12, 22, 24, 25, 27, 28, 42, 48, 50, 51, 55, 61] [(0, 1), (1, 2), (29, 36), (36, 64), (64, 71)] o_me o1 := by rw [e1]; exact Kp.sI (by decide)
  refine wp_bd (s_X9_in _ _ _) (fun z2 hz2 => ?_)
  refine wp_if (fun c => ?_) (fun c => ?_)
  · refine wp_bd (s_X9_tell o1 (-1) hI1 ⟨by decide, by decide⟩) (fun z hz => ?_)
    exact wp_some ⟨hz.2.1, hK1.trans (hz.2.2.mono (by decide) (by decide) (by decide))⟩
  · have r := hz2.2 c
    have l0 : (0 : Int64).toInt = 0 := by decide
    have l1 : (1 : Int64).toInt = 1 := by decide
    have ep := Int32.toInt_toInt64 p0
    refine wp_mono (h_img o1 hI1 p0.toInt.toNat (by omega) zfu p0 0 o1 0 (by omega) (by decide) (by omega) (fun _ => rfl) rfl (fun _ _ => rfl) (fun i hi => absurd hi (Nat.not_lt_zero _)) (fun _ _ => rfl) (by show 5484 < 100000 + 0; omega)) (fun y hy => ⟨hy.1, hK1.trans hy.2⟩)

set_option maxHeartbeats 4000000 in
set_option maxRecDepth 100000 in
theorem s_X9_isTold (o_me : Ob) (p0 : Int32) (hI_me : IvX9 o_me) (q0 : 0 ≤ p0.toInt ∧ p0.toInt ≤ 395) : wp (f_X9_isTold   o_me p0) (fun (y : Int32) => (0 ≤ y.toInt ∧ y.toInt ≤ 1)) := by
  unfold f_X9_isTold
  refine wp_gd (zin_of (m := 400) rfl q0.1 (zlt_m (c := 399) (Int.le_trans q0.2 (by decide)) (by decide))) ?_
  refine wp_bd (s_X9_isPerson   o_me (gA o_me 12 p0.toNatClampNeg)  hI_me  ) (fun z1 hz1 => ?_)
  obtain ⟨hz1_0, hz1_1⟩ := hz1
  have lp1 : ∀ (N1 : Nat) (v1_1 : Int32) (v2_1 : Int32) (v3_1 : Int32), (0 ≤ v1_1.toInt ∧ v1_1.toInt ≤ 395) → (0 ≤ v2_1.toInt ∧ v2_1.toInt ≤ 1) → (0 ≤ v3_1.toInt ∧ v3_1.toInt ≤ 4) → (4 - v3_1.toInt).toNat < N1 → wp (lp_X9_isTold_13 o_me  N1 (v1_1, v2_1, v3_1)) (fun (y : Int32) => (0 ≤ y.toInt ∧ y.toInt ≤ 1)) := by
    intro N1
    induction N1 with
    | zero =>
      intro v1_1 v2_1 v3_1 hh2 hh3 hh4 hN1
      exact absurd hN1 (Nat.not_lt_zero _)
    | succ N1 ihx =>
      have ih1 := ihx
      intro v1_1 v2_1 v3_1 hh2 hh3 hh4 hN1
      show wp (lb_X9_isTold_13 o_me  (lp_X9_isTold_13 o_me  N1) v1_1 v2_1 v3_1) (fun (y : Int32) => (0 ≤ y.toInt ∧ y.toInt ≤ 1))
      unfold lb_X9_isTold_13
      refine wp_if (fun c5 => ?_) (fun c5 => ?_)
      · have c5 := cv_ge (a := v3_1.toInt) (b := 4) rfl (by decide) c5
        refine wp_gd (zbo_of hh3.1 hh3.2) ?_
        refine wp_some ?_
        exact (show (0 ≤ v2_1.toInt ∧ v2_1.toInt ≤ 1) from ⟨hh3.1, hh3.2⟩)
      · have c5 := cv_nge (a := v3_1.toInt) (b := 4) rfl (by decide) c5
        refine wp_if (fun c6 => ?_) (fun c6 => ?_)
        · unfold bk_X9_isTold_47
          obtain ⟨w7, ew7⟩ : ∃ z : Int32, z = (0 : Int32) := ⟨_, rfl⟩
          have tw7 : w7.toInt = 0 := by rw [ew7]; decide
          rw [show bk_X9_isTold_48 o_me (lp_X9_isTold_13 o_me  N1) v1_1 v3_1 (0 : Int32) = bk_X9_isTold_48 o_me (lp_X9_isTold_13 o_me  N1) v1_1 v3_1 w7 from by rw [ew7]]
          unfold bk_X9_isTold_48
          refine wp_lt (fun x8 ex8 => ?_)
          have tx8 : x8.toInt = v3_1.toInt + 1 := by rw [ex8]; exact i32_add rfl (by decide) (zk_l hh4.1 (by decide)) (zk_u (zlt_u (c := 3) c5 (by decide)) (by decide))
          exact ih1 v1_1 w7 x8  ⟨hh2.1, hh2.2⟩ ⟨(Int.le_of_eq tw7.symm), (Int.le_trans (Int.le_of_eq tw7) (by decide))⟩ ⟨(zl_e (zq_r (c := (-1)) tx8 (by decide)) hh4.1 (by decide)), (zu_e (Int.le_of_eq tx8) (zlt_u (c := 3) c5 (by decide)) (by decide))⟩ (zms_u (c := 3) hN1 (zq_r (c := (-1)) tx8 (by decide)) (zlt_u (c := 3) c5 (by decide)) (by decide))
        · have t9 : (v1_1 + (1 : Int32)).toInt = v1_1.toInt + 1 := i32_add rfl (by decide) (zk_l hh2.1 (by decide)) (zk_u hh2.2 (by decide))
          have t10 : ((v1_1 + (1 : Int32)) + v3_1).toInt = (v1_1 + (1 : Int32)).toInt + v3_1.toInt := i32_add rfl rfl (zk_ll (zl_e (k := 1) (zq_r (c := (-1)) t9 (by decide)) hh2.1 (by decide)) hh4.1 (by decide)) (zk_uu (zu_e (k := 396) (Int.le_of_eq t9) hh2.2 (by decide)) (zlt_u (c := 3) c5 (by decide)) (by decide))
          refine wp_gd (zin_of (m := 400) rfl (Int.le_trans (by decide) (zaq_l (c := 1) t10 (zl_e (k := 1) (zq_r (c := (-1)) t9 (by decide)) hh2.1 (by decide)) hh4.1 (by decide))) (zlt_m (c := 399) (zaq_u (c := 399) t10 (zu_e (k := 396) (Int.le_of_eq t9) hh2.2 (by decide)) (zlt_u (c := 3) c5 (by decide)) (by decide)) (by decide))) ?_
          refine wp_bd (s_X9_in   ((gA o_me 12 ((v1_1 + (1 : Int32)) + v3_1).toNatClampNeg).toInt64) (0 : Int64) (9 : Int64)    ) (fun z13 hz13 => ?_)
          refine wp_if (fun c14 => ?_) (fun c14 => ?_)
          · unfold bk_X9_isTold_47
            obtain ⟨w15, ew15⟩ : ∃ z : Int32, z = (0 : Int32) := ⟨_, rfl⟩
            have tw15 : w15.toInt = 0 := by rw [ew15]; decide
            rw [show bk_X9_isTold_48 o_me (lp_X9_isTold_13 o_me  N1) v1_1 v3_1 (0 : Int32) = bk_X9_isTold_48 o_me (lp_X9_isTold_13 o_me  N1) v1_1 v3_1 w15 from by rw [ew15]]
            unfold bk_X9_isTold_48
            refine wp_lt (fun x16 ex16 => ?_)
            have tx16 : x16.toInt = v3_1.toInt + 1 := by rw [ex16]; exact i32_add rfl (by decide) (zk_l hh4.1 (by decide)) (zk_u (zlt_u (c := 3) c5 (by decide)) (by decide))
            exact ih1 v1_1 w15 x16  ⟨hh2.1, hh2.2⟩ ⟨(Int.le_of_eq tw15.symm), (Int.le_trans (Int.le_of_eq tw15) (by decide))⟩ ⟨(zl_e (zq_r (c := (-1)) tx16 (by decide)) hh4.1 (by decide)), (zu_e (Int.le_of_eq tx16) (zlt_u (c := 3) c5 (by decide)) (by decide))⟩ (zms_u (c := 3) hN1 (zq_r (c := (-1)) tx16 (by decide)) (zlt_u (c := 3) c5 (by decide)) (by decide))
          · obtain ⟨w17, ew17⟩ : ∃ z : Int32, z = (1 : Int32) := ⟨_, rfl⟩
            have tw17 : w17.toInt = 1 := by rw [ew17]; decide
            rw [show bk_X9_isTold_48 o_me (lp_X9_isTold_13 o_me  N1) v1_1 v3_1 (1 : Int32) = bk_X9_isTold_48 o_me (lp_X9_isTold_13 o_me  N1) v1_1 v3_1 w17 from by rw [ew17]]
            unfold bk_X9_isTold_48
            refine wp_lt (fun x18 ex18 => ?_)
            have tx18 : x18.toInt = v3_1.toInt + 1 := by rw [ex18]; exact i32_add rfl (by decide) (zk_l hh4.1 (by decide)) (zk_u (zlt_u (c := 3) c5 (by decide)) (by decide))
            exact ih1 v1_1 w17 x18  ⟨hh2.1, hh2.2⟩ ⟨(Int.le_trans (by decide) (Int.le_of_eq tw17.symm)), (Int.le_of_eq tw17)⟩ ⟨(zl_e (zq_r (c := (-1)) tx18 (by decide)) hh4.1 (by decide)), (zu_e (Int.le_of_eq tx18) (zlt_u (c := 3) c5 (by decide)) (by decide))⟩ (zms_u (c := 3) hN1 (zq_r (c := (-1)) tx18 (by decide)) (zlt_u (c := 3) c5 (by decide)) (by decide))
  exact lp1 zfu p0 z1 (0 : Int32)  ⟨q0.1, q0.2⟩ ⟨hz1_0.1, hz1_0.2⟩ ⟨by decide, by decide⟩ (zme_u (l := 0) (Int.le_of_eq tz0.symm) (by decide))

set_option maxHeartbeats 4000000 in
set_option maxRecDepth 100000 in
theorem s_X9_ladder (o_me : Ob) (p0 : Int32) (p1 : Int32) (hI_me : IvX9 o_me)  : wp (f_X9_ladder   o_me p0 p1) (fun (y : Int64 × Ob) => IvX9 y.2 ∧ Kp [1, 8, 11, 13, 14, 15, 16, 18, 19, 20, 21, 23, 26, 29, 34, 38, 43, 56, 57, 58, 59, 62] [2, 3, 4, 5, 7, 10, 12, 22, 24, 25, 27, 28, 42, 48, 50, 51, 55, 61] [(0, 1), (1, 2), (29, 36), (36, 64), (64, 71)] o_me y.2) := by
  have li0 : (-1 : Int64).toInt = (-1) := by decide
  have li1 : (0 : Int32).toInt = 0 := by decide
  have li2 : (0 : Int64).toInt = 0 := by decide
  have li3 : (1 : Int32).toInt = 1 := by decide
  have li4 : (1 : Int64).toInt = 1 := by decide
  have li5 : (2 : Int32).toInt = 2 := by decide
  have li6 : (5 : Int64).toInt = 5 := by decide
  have li7 : (60 : Int64).toInt = 60 := by decide
  unfold f_X9_ladder
  refine wp_lt (fun o1 eo1 => ?_)
  have hIo1 : IvX9 o1 := by rw [eo1]; exact hI_me
  have ko1_v : (gI o1 0).toInt = 0 := by rw [eo1]; exact (show ((0 : Int32)).toInt = _ from by decide)
  have hkpo1 : Kp [1, 8, 11, 13, 14, 15, 16, 18, 19, 20, 21, 23, 26, 29, 34, 38, 43, 56, 57, 58, 59, 62] [2, 3, 4, 5, 7, 10, 12, 22, 24, 25, 27, 28, 42, 48, 50, 51, 55, 61] [(0, 1), (1, 2), (29, 36), (36, 64), (64, 71)] o_me o1 := Kp.rf.trans (by rw [eo1]; exact Kp.sI (by decide))
  have rg2 := i32_rg p0
  have t3 : p0.toInt64.toInt = p0.toInt := Int32.toInt_toInt64 _
  refine wp_bd (s_X9_in   p0.toInt64 (1 : Int64) (60 : Int64)    ) (fun z4 hz4 => ?_)
  obtain ⟨hz4_0, hz4_1⟩ := hz4
  refine wp_if (fun c5 => ?_) (fun c5 => ?_)
  · have c5 := cv_eq (a := z4.toInt) (b := 0) rfl (by decide) c5
    refine wp_some ?_
    exact (show IvX9 o1 ∧ Kp [1, 8, 11, 13, 14, 15, 16, 18, 19, 20, 21, 23, 26, 29, 34, 38, 43, 56, 57, 58, 59, 62] [2, 3, 4, 5, 7, 10, 12, 22, 24, 25, 27, 28, 42, 48, 50, 51, 55, 61] [(0, 1), (1, 2), (29, 36), (36, 64), (64, 71)] o_me o1 from ⟨hIo1, hkpo1⟩)
  · have c5z := c5
    have c5i := hz4_1 c5
    have c5 := cv_ne (a := z4.toInt) (b := 0) rfl (by decide) c5
    have rg6 := i32_rg p1
    have t7 : p1.toInt64.toInt = p1.toInt := Int32.toInt_toInt64 _
    refine wp_bd (s_X9_in   p1.toInt64 (1 : Int64) (5 : Int64)    ) (fun z8 hz8 => ?_)
    obtain ⟨hz8_0, hz8_1⟩ := hz8
    refine wp_if (fun c9 => ?_) (fun c9 => ?_)
    · have c9 := cv_eq (a := z8.toInt) (b := 0) rfl (by decide) c9
      refine wp_some ?_
      exact (show IvX9 o1 ∧ Kp [1, 8, 11, 13, 14, 15, 16, 18, 19, 20, 21, 23, 26, 29, 34, 38, 43, 56, 57, 58, 59, 62] [2, 3, 4, 5, 7, 10, 12, 22, 24, 25, 27, 28, 42, 48, 50, 51, 55, 61] [(0, 1), (1, 2), (29, 36), (36, 64), (64, 71)] o_me o1 from ⟨hIo1, hkpo1⟩)
    · have c9z := c9
      have c9i := hz8_1 c9
      have c9 := cv_ne (a := z8.toInt) (b := 0) rfl (by decide) c9
      refine wp_lt (fun o10 eo10 => ?_)
      have hIo10 : IvX9 o10 := by rw [eo10]; exact hIo1
      have ko10_k11 : (gI o10 0).toInt = (gI o1 0).toInt := by rw [eo10]; rfl
      have hkpo10 : Kp [1, 8, 11, 13, 14, 15, 16, 18, 19, 20, 21, 23, 26, 29, 34, 38, 43, 56, 57, 58, 59, 62] [2, 3, 4, 5, 7, 10, 12, 22, 24, 25, 27, 28, 42, 48, 50, 51, 55, 61] [(0, 1), (1, 2), (29, 36), (36, 64), (64, 71)] o_me o10 := hkpo1.trans (by rw [eo10]; exact Kp.tM)
      have lp1 : ∀ (N1 : Nat) (v1_1 : Int32) (v2_1 : Int32) (v3_1 : Int32) (o_me_1 : Ob), IvX9 o_me_1 → Kp [1, 8, 11, 13, 14, 15, 16, 18, 19, 20, 21, 23, 26, 29, 34, 38, 43, 56, 57, 58, 59, 62] [2, 3, 4, 5, 7, 10, 12, 22, 24, 25, 27, 28, 42, 48, 50, 51, 55, 61] [(0, 1), (1, 2), (29, 36), (36, 64), (64, 71)] o_me o_me_1 → (1 ≤ v1_1.toInt ∧ v1_1.toInt ≤ 60) → (1 ≤ v3_1.toInt ∧ v3_1.toInt ≤ 61) → (61 - v3_1.toInt).toNat < N1 → wp (lp_X9_ladder_42   N1 (v1_1, v2_1, v3_1, o_me_1)) (fun (y : Int64 × Ob) => IvX9 y.2 ∧ Kp [1, 8, 11, 13, 14, 15, 16, 18, 19, 20, 21, 23, 26, 29, 34, 38, 43, 56, 57, 58, 59, 62] [2, 3, 4, 5, 7, 10, 12, 22, 24, 25, 27, 28, 42, 48, 50, 51, 55, 61] [(0, 1), (1, 2), (29, 36), (36, 64), (64, 71)] o_me y.2) := by
        intro N1
        induction N1 with
        | zero =>
          intro v1_1 v2_1 v3_1 o_me_1 hI_me_1 hkp_me_1 hh12 hh13 hN1
          exact absurd hN1 (Nat.not_lt_zero _)
        | succ N1 ihx =>
          have ih1 := ihx
          intro v1_1 v2_1 v3_1 o_me_1 hI_me_1 hkp_me_1 hh12 hh13 hN1
          show wp (lb_X9_ladder_42   (lp_X9_ladder_42   N1) v1_1 v2_1 v3_1 o_me_1) (fun (y : Int64 × Ob) => IvX9 y.2 ∧ Kp [1, 8, 11, 13, 14, 15, 16, 18, 19, 20, 21, 23, 26, 29, 34, 38, 43, 56, 57, 58, 59, 62] [2, 3, 4, 5, 7, 10, 12, 22, 24, 25, 27, 28, 42, 48, 50, 51, 55, 61] [(0, 1), (1, 2), (29, 36), (36, 64), (64, 71)] o_me y.2)
          unfold lb_X9_ladder_42
          refine wp_if (fun c14 => ?_) (fun c14 => ?_)
          · have c14 := cv_gt (a := v3_1.toInt) (b := v1_1.toInt) rfl rfl c14
            refine wp_gd (zin_of (m := 61) rfl (Int.le_trans (by decide) hh12.1) (zlt_m (c := 60) hh12.2 (by decide))) ?_
            refine wp_some ?_
            exact (show IvX9 o_me_1 ∧ Kp [1, 8, 11, 13, 14, 15, 16, 18, 19, 20, 21, 23, 26, 29, 34, 38, 43, 56, 57, 58, 59, 62] [2, 3, 4, 5, 7, 10, 12, 22, 24, 25, 27, 28, 42, 48, 50, 51, 55, 61] [(0, 1), (1, 2), (29, 36), (36, 64), (64, 71)] o_me o_me_1 from ⟨hI_me_1, hkp_me_1⟩)
          · have c14 := cv_ngt (a := v3_1.toInt) (b := v1_1.toInt) rfl rfl c14
            refine wp_gd (zin_of (m := 61) rfl (Int.le_trans (by decide) hh13.1) (zlt_m (c := 60) (zu_e (zl_0 c14) hh12.2 (by decide)) (by decide))) ?_
            refine wp_lt (fun o15 eo15 => ?_)
            have hIo15 : IvX9 o15 := by rw [eo15]; exact hI_me_1
            have hkpo15 : Kp [1, 8, 11, 13, 14, 15, 16, 18, 19, 20, 21, 23, 26, 29, 34, 38, 43, 56, 57, 58, 59, 62] [2, 3, 4, 5, 7, 10, 12, 22, 24, 25, 27, 28, 42, 48, 50, 51, 55, 61] [(0, 1), (1, 2), (29, 36), (36, 64), (64, 71)] o_me o15 := hkp_me_1.trans (by rw [eo15]; exact Kp.tM)
            have lp2 : ∀ (N2 : Nat) (v1_2 : Int32) (v2_2 : Int32) (v3_2 : Int32) (v4_2 : Int32) (o_me_2 : Ob), IvX9 o_me_2 → Kp [1, 8, 11, 13, 14, 15, 16, 18, 19, 20, 21, 23, 26, 29, 34, 38, 43, 56, 57, 58, 59, 62] [2, 3, 4, 5, 7, 10, 12, 22, 24, 25, 27, 28, 42, 48, 50, 51, 55, 61] [(0, 1), (1, 2), (29, 36), (36, 64), (64, 71)] o_me o_me_2 → (1 ≤ v1_2.toInt ∧ v1_2.toInt ≤ 60) → (1 ≤ v3_2.toInt ∧ v3_2.toInt ≤ 60) → (1 ≤ v4_2.toInt ∧ v4_2.toInt ≤ 61) → (v3_1.toInt ≤ v3_2.toInt + 0) → (61 - v4_2.toInt).toNat < N2 → wp (lp_X9_ladder_57  (lp_X9_ladder_42   N1) N2 (v1_2, v2_2, v3_2, v4_2, o_me_2)) (fun (y : Int64 × Ob) => IvX9 y.2 ∧ Kp [1, 8, 11, 13, 14, 15, 16, 18, 19, 20, 21, 23, 26, 29, 34, 38, 43, 56, 57, 58, 59, 62] [2, 3, 4, 5, 7, 10, 12, 22, 24, 25, 27, 28, 42, 48, 50, 51, 55, 61] [(0, 1), (1, 2), (29, 36), (36, 64), (64, 71)] o_me y.2) := by
              intro N2
              induction N2 with
              | zero =>
                intro v1_2 v2_2 v3_2 v4_2 o_me_2 hI_me_2 hkp_me_2 hh16 hh17 hh18 hh19 hN2
                exact absurd hN2 (Nat.not_lt_zero _)
              | succ N2 ihx =>
                have ih2 := ihx
                intro v1_2 v2_2 v3_2 v4_2 o_me_2 hI_me_2 hkp_me_2 hh16 hh17 hh18 hh19 hN2
                show wp (lb_X9_ladder_57  (lp_X9_ladder_42   N1) (lp_X9_ladder_57  (lp_X9_ladder_42   N1) N2) v1_2 v2_2 v3_2 v4_2 o_me_2) (fun (y : Int64 × Ob) => IvX9 y.2 ∧ Kp [1, 8, 11, 13, 14, 15, 16, 18, 19, 20, 21, 23, 26, 29, 34, 38, 43, 56, 57, 58, 59, 62] [2, 3, 4, 5, 7, 10, 12, 22, 24, 25, 27, 28, 42, 48, 50, 51, 55, 61] [(0, 1), (1, 2), (29, 36), (36, 64), (64, 71)] o_me y.2)
                unfold lb_X9_ladder_57
                have rg21 := i32_rg v2_2
                refine wp_if (fun c20 => ?_) (fun c20 => ?_)
                · have c20 := cv_gt (a := v4_2.toInt) (b := v2_2.toInt) rfl rfl c20
                  unfold bk_X9_ladder_98
                  refine wp_lt (fun x22 ex22 => ?_)
                  have tx22 : x22.toInt = v3_2.toInt + 1 := by rw [ex22]; exact i32_add rfl (by decide) (zk_l hh17.1 (by decide)) (zk_u hh17.2 (by decide))
                  exact ih1 v1_2 v2_2 x22 o_me_2 hI_me_2 hkp_me_2 ⟨hh16.1, hh16.2⟩ ⟨(zl_e (zq_r (c := (-1)) tx22 (by decide)) hh17.1 (by decide)), (zu_e (Int.le_of_eq tx22) hh17.2 (by decide))⟩ (zms_u (c := 60) hN1 (zd_e (c := (-1)) hh19 (zq_r (c := (-1)) tx22 (by decide)) (by decide)) (zu_e (zl_0 c14) hh12.2 (by decide)) (by decide))
                · have c20 := cv_ngt (a := v4_2.toInt) (b := v2_2.toInt) rfl rfl c20
                  refine wp_if (fun c23 => ?_) (fun c23 => ?_)
                  · have c23 := cv_gt (a := v4_2.toInt) (b := v3_2.toInt) rfl rfl c23
                    unfold bk_X9_ladder_98
                    refine wp_lt (fun x24 ex24 => ?_)
                    have tx24 : x24.toInt = v3_2.toInt + 1 := by rw [ex24]; exact i32_add rfl (by decide) (zk_l hh17.1 (by decide)) (zk_u hh17.2 (by decide))
                    exact ih1 v1_2 v2_2 x24 o_me_2 hI_me_2 hkp_me_2 ⟨hh16.1, hh16.2⟩ ⟨(zl_e (zq_r (c := (-1)) tx24 (by decide)) hh17.1 (by decide)), (zu_e (Int.le_of_eq tx24) hh17.2 (by decide))⟩ (zms_u (c := 60) hN1 (zd_e (c := (-1)) hh19 (zq_r (c := (-1)) tx24 (by decide)) (by decide)) (zu_e (zl_0 c14) hh12.2 (by decide)) (by decide))
                  · have c23 := cv_ngt (a := v4_2.toInt) (b := v3_2.toInt) rfl rfl c23
                    refine wp_if (fun c25 => ?_) (fun c25 => ?_)
                    · have c25 := cv_eq (a := v3_2.toInt) (b := 2) rfl (by decide) c25
                      unfold bk_X9_ladder_98
                      refine wp_lt (fun x26 ex26 => ?_)
                      have tx26 : x26.toInt = v3_2.toInt + 1 := by rw [ex26]; exact i32_add rfl (by decide) (zk_l (Int.le_of_eq c25.symm) (by decide)) (zk_u (Int.le_of_eq c25) (by decide))
                      exact ih1 v1_2 v2_2 x26 o_me_2 hI_me_2 hkp_me_2 ⟨hh16.1, hh16.2⟩ ⟨(zl_e (zq_r (c := (-1)) tx26 (by decide)) hh17.1 (by decide)), (zu_e (Int.le_of_eq tx26) hh17.2 (by decide))⟩ (zms_u (c := 60) hN1 (zd_e (c := (-1)) hh19 (zq_r (c := (-1)) tx26 (by decide)) (by decide)) (zu_e (zl_0 c14) hh12.2 (by decide)) (by decide))
                    · have c25 := cv_ne (a := v3_2.toInt) (b := 2) rfl (by decide) c25
                      refine wp_gd (zin_of (m := 61) rfl (Int.le_trans (by decide) hh17.1) (zlt_m (c := 60) hh17.2 (by decide))) ?_
                      have t27 : (v3_2 - v4_2).toInt = v3_2.toInt - v4_2.toInt := i32_sub rfl rfl (zs_ll hh17.1 (zu_e (k := 60) (zl_0 c23) hh17.2 (by decide)) (by decide)) (zs_uu hh17.2 hh18.1 (by decide))
                      refine wp_gd (zin_of (m := 61) rfl (by omega) (zlt_m (c := 60) (Int.le_trans (zsq_u (c := 59) t27 hh17.2 hh18.1 (by decide)) (by decide)) (by decide))) ?_
                      refine wp_gd (zin_of (m := 61) rfl (Int.le_trans (by decide) hh17.1) (zlt_m (c := 60) hh17.2 (by decide))) ?_
                      refine wp_lt (fun o28 eo28 => ?_)
                      have hIo28 : IvX9 o28 := by rw [eo28]; exact hI_me_2
                      have hkpo28 : Kp [1, 8, 11, 13, 14, 15, 16, 18, 19, 20, 21, 23, 26, 29, 34, 38, 43, 56, 57, 58, 59, 62] [2, 3, 4, 5, 7, 10, 12, 22, 24, 25, 27, 28, 42, 48, 50, 51, 55, 61] [(0, 1), (1, 2), (29, 36), (36, 64), (64, 71)] o_me o28 := hkp_me_2.trans (by rw [eo28]; exact Kp.tM)
                      refine wp_lt (fun x29 ex29 => ?_)
                      have tx29 : x29.toInt = v4_2.toInt + 1 := by rw [ex29]; exact i32_add rfl (by decide) (zk_l hh18.1 (by decide)) (zk_u (zu_e (k := 60) (zl_0 c23) hh17.2 (by decide)) (by decide))
                      exact ih2 v1_2 v2_2 v3_2 x29 o28 hIo28 hkpo28 ⟨hh16.1, hh16.2⟩ ⟨hh17.1, hh17.2⟩ ⟨(zl_e (zq_r (c := (-1)) tx29 (by decide)) hh18.1 (by decide)), (zu_e (zd_e (c := 1) (Int.le_of_eq tx29) (zl_0 c23) (by decide)) hh17.2 (by decide))⟩ hh19 (zms_u (c := 60) hN2 (zq_r (c := (-1)) tx29 (by decide)) (zu_e (zl_0 c23) hh17.2 (by decide)) (by decide))
            exact lp2 zfu v1_1 v2_1 v3_1 (1 : Int32) o15 hIo15 hkpo15 ⟨hh12.1, hh12.2⟩ ⟨hh13.1, (zu_e (zl_0 c14) hh12.2 (by decide))⟩ ⟨by decide, by decide⟩ (zd_r (by decide)) (zme_u (l := 1) (Int.le_of_eq tz1.symm) (by decide))
      exact lp1 zfu p0 p1 (1 : Int32) o10 hIo10 hkpo10 ⟨(zl_e (zd_e (c := 0) c5i.1 (zq_0 t3) (by decide)) (Int.le_of_eq tl1.symm) (by decide)), (zu_e (zd_e (c := 0) (zq_0 t3.symm) c5i.2 (by decide)) (Int.le_of_eq tl60) (by decide))⟩ ⟨by decide, by decide⟩ (zme_u (l := 1) (Int.le_of_eq tz1.symm) (by decide))

set_option maxHeartbeats 4000000 in
set_option maxRecDepth 100000 in
theorem s_X9_partAt (o_me : Ob) (hI_me : IvX9 o_me)  : wp (f_X9_partAt   o_me) (fun (y : Int32) => ((-1) ≤ y.toInt ∧ y.toInt ≤ 9)) := by
  unfold f_X9_partAt
  have lp1 : ∀ (N1 : Nat) (v1_1 : Int32) (v2_1 : Int32), ((-1) ≤ v1_1.toInt ∧ v1_1.toInt ≤ 9) → (0 ≤ v2_1.toInt ∧ v2_1.toInt ≤ 9) → (v1_1.toInt ≤ v2_1.toInt + 0) → (9 - v2_1.toInt).toNat < N1 → wp (lp_X9_partAt_4 o_me  N1 (v1_1, v2_1)) (fun (y : Int32) => ((-1) ≤ y.toInt ∧ y.toInt ≤ 9)) := by
    intro N1
    induction N1 with
    | zero =>
      intro v1_1 v2_1 hh1 hh2 hh3 hN1
      exact absurd hN1 (Nat.not_lt_zero _)
    | succ N1 ihx =>
      have ih1 := ihx
      intro v1_1 v2_1 hh1 hh2 hh3 hN1
      show wp (lb_X9_partAt_4 o_me  (lp_X9_partAt_4 o_me  N1) v1_1 v2_1) (fun (y : Int32) => ((-1) ≤ y.toInt ∧ y.toInt ≤ 9))
      unfold lb_X9_partAt_4
      refine wp_if (fun c4 => ?_) (fun c4 => ?_)
      · have c4 := cv_ge (a := v2_1.toInt) (b := 9) rfl (by decide) c4
        refine wp_some ?_
        exact (show ((-1) ≤ v1_1.toInt ∧ v1_1.toInt ≤ 9) from ⟨hh1.1, hh1.2⟩)
      · have c4 := cv_nge (a := v2_1.toInt) (b := 9) rfl (by decide) c4
        refine wp_gd (zin_of (m := 9) rfl hh2.1 (zlt_m (c := 8) (zlt_u (c := 8) c4 (by decide)) (by decide))) ?_
        refine wp_bd (s_X9_isWord   o_me (gM o_me 31 v2_1.toNatClampNeg)  hI_me  ) (fun z5 hz5 => ?_)
        refine wp_if (fun c6 => ?_) (fun c6 => ?_)
        · unfold bk_X9_partAt_30
          refine wp_lt (fun x7 ex7 => ?_)
          have tx7 : x7.toInt = v2_1.toInt + 1 := by rw [ex7]; exact i32_add rfl (by decide) (zk_l hh2.1 (by decide)) (zk_u (zlt_u (c := 8) c4 (by decide)) (by decide))
          exact ih1 v1_1 x7  ⟨hh1.1, hh1.2⟩ ⟨(zl_e (zq_r (c := (-1)) tx7 (by decide)) hh2.1 (by decide)), (zu_e (Int.le_of_eq tx7) (zlt_u (c := 8) c4 (by decide)) (by decide))⟩ (zd_w (zd_e (c := (-1)) hh3 (zq_r (c := (-1)) tx7 (by decide)) (by decide)) (by decide)) (zms_u (c := 8) hN1 (zq_r (c := (-1)) tx7 (by decide)) (zlt_u (c := 8) c4 (by decide)) (by decide))
        · have t8 : (v2_1 + (1 : Int32)).toInt = v2_1.toInt + 1 := i32_add rfl (by decide) (zk_l hh2.1 (by decide)) (zk_u (zlt_u (c := 8) c4 (by decide)) (by decide))
          obtain ⟨w9, ew9⟩ : ∃ z : Int32, z = v2_1 + (1 : Int32) := ⟨_, rfl⟩
          have tw9 : w9.toInt = (v2_1 + (1 : Int32)).toInt := by rw [ew9]
          rw [show bk_X9_partAt_30 o_me (lp_X9_partAt_4 o_me  N1) v2_1 (v2_1 + (1 : Int32)) = bk_X9_partAt_30 o_me (lp_X9_partAt_4 o_me  N1) v2_1 w9 from by rw [ew9]]
          unfold bk_X9_partAt_30
          refine wp_lt (fun x10 ex10 => ?_)
          have tx10 : x10.toInt = v2_1.toInt + 1 := by rw [ex10]; exact i32_add rfl (by decide) (zk_l hh2.1 (by decide)) (zk_u (zlt_u (c := 8) c4 (by decide)) (by decide))
          exact ih1 w9 x10  ⟨(zl_e (zd_e (c := (-1)) (zq_r (c := (-1)) t8 (by decide)) (zq_0 tw9.symm) (by decide)) hh2.1 (by decide)), (zu_e (zd_e (c := 1) (zq_0 tw9) (Int.le_of_eq t8) (by decide)) (zlt_u (c := 8) c4 (by decide)) (by decide))⟩ ⟨(zl_e (zq_r (c := (-1)) tx10 (by decide)) hh2.1 (by decide)), (zu_e (Int.le_of_eq tx10) (zlt_u (c := 8) c4 (by decide)) (by decide))⟩ (zd_e (c := 0) (zd_e (c := 1) (zq_0 tw9) (Int.le_of_eq t8) (by decide)) (zq_r (c := (-1)) tx10 (by decide)) (by decide)) (zms_u (c := 8) hN1 (zq_r (c := (-1)) tx10 (by decide)) (zlt_u (c := 8) c4 (by decide)) (by decide))
  exact lp1 zfu (-1 : Int32) (0 : Int32)  ⟨by decide, by decide⟩ ⟨by decide, by decide⟩ (zd_b (Int.le_of_eq tzm1) (Int.le_of_eq tz0.symm) (by decide)) (zme_u (l := 0) (Int.le_of_eq tz0.symm) (by decide))

set_option maxHeartbeats 4000000 in
set_option maxRecDepth 100000 in
theorem s_X9_number (o_me : Ob) (p0 : Int64) (p1 : Int64) (hI_me : IvX9 o_me) (r0 : (gI o_me 15).toInt ≤ (gI o_me 13).toInt + 0) : wp (f_X9_number   o_me p0 p1) (fun (y : Int32 × Ob) => IvX9 y.2 ∧ Kp [1, 8, 11, 13, 20, 21, 23, 26, 29, 34, 38, 43, 56, 57, 58, 59, 62] [2, 3, 4, 5, 7, 10, 12, 22, 24, 25, 27, 28, 42, 48, 50, 51, 55, 61] [(0, 1), (1, 2), (29, 36), (36, 64), (64, 71)] o_me y.2 ∧ ((gI y.2 15).toInt ≤ (gI y.2 13).toInt + 0)) := by
  unfold f_X9_number
  refine wp_lt (fun x1 ex1 => ?_)
  refine wp_if (fun c3 => ?_) (fun c3 => ?_)
  · refine wp_bd (s_X9_in   (gL o_me 17) p0 p1    ) (fun z4 hz4 => ?_)
    refine wp_if (fun c5 => ?_) (fun c5 => ?_)
    · unfold bk_X9_number_32
      obtain ⟨w6, ew6⟩ : ∃ z : Int32, z = (0 : Int32) := ⟨_, rfl⟩
      have tw6 : w6.toInt = 0 := by rw [ew6]; decide
      rw [show bk_X9_number_33   x1 (0 : Int32) o_me = bk_X9_number_33   x1 w6 o_me from by rw [ew6]]
      unfold bk_X9_number_33
      refine wp_bd (s_X9_must   o_me w6  hI_me  ⟨(Int.le_of_eq tw6.symm), (Int.le_trans (Int.le_of_eq tw6) (by decide))⟩ r0) (fun z7 hz7 => ?_)
      obtain ⟨hz7_0, hz7_1, hz7_2⟩ := hz7
      have hkpz7_me : Kp [1, 8, 11, 13, 20, 21, 23, 26, 29, 34, 38, 43, 56, 57, 58, 59, 62] [2, 3, 4, 5, 7, 10, 12, 22, 24, 25, 27, 28, 42, 48, 50, 51, 55, 61] [(0, 1), (1, 2), (29, 36), (36, 64), (64, 71)] o_me z7 := Kp.rf.trans (hz7_1.mono (by decide) (by decide) (by decide))
      refine wp_some ?_
      exact (show IvX9 z7 ∧ Kp [1, 8, 11, 13, 20, 21, 23, 26, 29, 34, 38, 43, 56, 57, 58, 59, 62] [2, 3, 4, 5, 7, 10, 12, 22, 24, 25, 27, 28, 42, 48, 50, 51, 55, 61] [(0, 1), (1, 2), (29, 36), (36, 64), (64, 71)] o_me z7 ∧ ((gI z7 15).toInt ≤ (gI z7 13).toInt + 0) from ⟨hz7_0, hkpz7_me, hz7_2⟩)
    · obtain ⟨w12, ew12⟩ : ∃ z : Int32, z = (1 : Int32) := ⟨_, rfl⟩
      have tw12 : w12.toInt = 1 := by rw [ew12]; decide
      rw [show bk_X9_number_33   x1 (1 : Int32) o_me = bk_X9_number_33   x1 w12 o_me from by rw [ew12]]
      unfold bk_X9_number_33
      refine wp_bd (s_X9_must   o_me w12  hI_me  ⟨(Int.le_trans (by decide) (Int.le_of_eq tw12.symm)), (Int.le_of_eq tw12)⟩ r0) (fun z13 hz13 => ?_)
      obtain ⟨hz13_0, hz13_1, hz13_2⟩ := hz13
      have hkpz13_me : Kp [1, 8, 11, 13, 20, 21, 23, 26, 29, 34, 38, 43, 56, 57, 58, 59, 62] [2, 3, 4, 5, 7, 10, 12, 22, 24, 25, 27, 28, 42, 48, 50, 51, 55, 61] [(0, 1), (1, 2), (29, 36), (36, 64), (64, 71)] o_me z13 := Kp.rf.trans (hz13_1.mono (by decide) (by decide) (by decide))
      refine wp_some ?_
      exact (show IvX9 z13 ∧ Kp [1, 8, 11, 13, 20, 21, 23, 26, 29, 34, 38, 43, 56, 57, 58, 59, 62] [2, 3, 4, 5, 7, 10, 12, 22, 24, 25, 27, 28, 42, 48, 50, 51, 55, 61] [(0, 1), (1, 2), (29, 36), (36, 64), (64, 71)] o_me z13 ∧ ((gI z13 15).toInt ≤ (gI z13 13).toInt + 0) from ⟨hz13_0, hkpz13_me, hz13_2⟩)
  · unfold bk_X9_number_32
    obtain ⟨w18, ew18⟩ : ∃ z : Int32, z = (0 : Int32) := ⟨_, rfl⟩
    have tw18 : w18.toInt = 0 := by rw [ew18]; decide
    rw [show bk_X9_number_33   x1 (0 : Int32) o_me = bk_X9_number_33   x1 w18 o_me from by rw [ew18]]
    unfold bk_X9_number_33
    refine wp_bd (s_X9_must   o_me w18  hI_me  ⟨(Int.le_of_eq tw18.symm), (Int.le_trans (Int.le_of_eq tw18) (by decide))⟩ r0) (fun z19 hz19 => ?_)
    obtain ⟨hz19_0, hz19_1, hz19_2⟩ := hz19
    have hkpz19_me : Kp [1, 8, 11, 13, 20, 21, 23, 26, 29, 34, 38, 43, 56, 57, 58, 59, 62] [2, 3, 4, 5, 7, 10, 12, 22, 24, 25, 27, 28, 42, 48, 50, 51, 55, 61] [(0, 1), (1, 2), (29, 36), (36, 64), (64, 71)] o_me z19 := Kp.rf.trans (hz19_1.mono (by decide) (by decide) (by decide))
    refine wp_some ?_
    exact (show IvX9 z19 ∧ Kp [1, 8, 11, 13, 20, 21, 23, 26, 29, 34, 38, 43, 56, 57, 58, 59, 62] [2, 3, 4, 5, 7, 10, 12, 22, 24, 25, 27, 28, 42, 48, 50, 51, 55, 61] [(0, 1), (1, 2), (29, 36), (36, 64), (64, 71)] o_me z19 ∧ ((gI z19 15).toInt ≤ (gI z19 13).toInt + 0) from ⟨hz19_0, hkpz19_me, hz19_2⟩)

set_option maxHeartbeats 4000000 in
set_option maxRecDepth 100000 in
theorem s_X9_orderPartAt (o_me : Ob) (hI_me : IvX9 o_me)  : wp (f_X9_orderPartAt   o_me) (fun (y : Int32) => ((-1) ≤ y.toInt ∧ y.toInt ≤ 7)) := by
  unfold f_X9_orderPartAt
  have lp1 : ∀ (N1 : Nat) (v1_1 : Int32) (v2_1 : Int32), ((-1) ≤ v1_1.toInt ∧ v1_1.toInt ≤ 7) → (0 ≤ v2_1.toInt ∧ v2_1.toInt ≤ 7) → (v1_1.toInt ≤ v2_1.toInt + 0) → (7 - v2_1.toInt).toNat < N1 → wp (lp_X9_orderPartAt_4 o_me  N1 (v1_1, v2_1)) (fun (y : Int32) => ((-1) ≤ y.toInt ∧ y.toInt ≤ 7)) := by
    intro N1
    induction N1 with
    | zero =>
      intro v1_1 v2_1 hh1 hh2 hh3 hN1
      exact absurd hN1 (Nat.not_lt_zero _)
    | succ N1 ihx =>
      have ih1 := ihx
      intro v1_1 v2_1 hh1 hh2 hh3 hN1
      show wp (lb_X9_orderPartAt_4 o_me  (lp_X9_orderPartAt_4 o_me  N1) v1_1 v2_1) (fun (y : Int32) => ((-1) ≤ y.toInt ∧ y.toInt ≤ 7))
      unfold lb_X9_orderPartAt_4
      refine wp_if (fun c4 => ?_) (fun c4 => ?_)
      · have c4 := cv_ge (a := v2_1.toInt) (b := 7) rfl (by decide) c4
        refine wp_some ?_
        exact (show ((-1) ≤ v1_1.toInt ∧ v1_1.toInt ≤ 7) from ⟨hh1.1, hh1.2⟩)
      · have c4 := cv_nge (a := v2_1.toInt) (b := 7) rfl (by decide) c4
        refine wp_gd (zin_of (m := 7) rfl hh2.1 (zlt_m (c := 6) (zlt_u (c := 6) c4 (by decide)) (by decide))) ?_
        refine wp_bd (s_X9_isWord   o_me (gM o_me 32 v2_1.toNatClampNeg)  hI_me  ) (fun z5 hz5 => ?_)
        refine wp_if (fun c6 => ?_) (fun c6 => ?_)
        · unfold bk_X9_orderPartAt_30
          refine wp_lt (fun x7 ex7 => ?_)
          have tx7 : x7.toInt = v2_1.toInt + 1 := by rw [ex7]; exact i32_add rfl (by decide) (zk_l hh2.1 (by decide)) (zk_u (zlt_u (c := 6) c4 (by decide)) (by decide))
          exact ih1 v1_1 x7  ⟨hh1.1, hh1.2⟩ ⟨(zl_e (zq_r (c := (-1)) tx7 (by decide)) hh2.1 (by decide)), (zu_e (Int.le_of_eq tx7) (zlt_u (c := 6) c4 (by decide)) (by decide))⟩ (zd_w (zd_e (c := (-1)) hh3 (zq_r (c := (-1)) tx7 (by decide)) (by decide)) (by decide)) (zms_u (c := 6) hN1 (zq_r (c := (-1)) tx7 (by decide)) (zlt_u (c := 6) c4 (by decide)) (by decide))
        · have t8 : (v2_1 + (1 : Int32)).toInt = v2_1.toInt + 1 := i32_add rfl (by decide) (zk_l hh2.1 (by decide)) (zk_u (zlt_u (c := 6) c4 (by decide)) (by decide))
          obtain ⟨w9, ew9⟩ : ∃ z : Int32, z = v2_1 + (1 : Int32) := ⟨_, rfl⟩
          have tw9 : w9.toInt = (v2_1 + (1 : Int32)).toInt := by rw [ew9]
          rw [show bk_X9_orderPartAt_30 o_me (lp_X9_orderPartAt_4 o_me  N1) v2_1 (v2_1 + (1 : Int32)) = bk_X9_orderPartAt_30 o_me (lp_X9_orderPartAt_4 o_me  N1) v2_1 w9 from by rw [ew9]]
          unfold bk_X9_orderPartAt_30
          refine wp_lt (fun x10 ex10 => ?_)
          have tx10 : x10.toInt = v2_1.toInt + 1 := by rw [ex10]; exact i32_add rfl (by decide) (zk_l hh2.1 (by decide)) (zk_u (zlt_u (c := 6) c4 (by decide)) (by decide))
          exact ih1 w9 x10  ⟨(zl_e (zd_e (c := (-1)) (zq_r (c := (-1)) t8 (by decide)) (zq_0 tw9.symm) (by decide)) hh2.1 (by decide)), (zu_e (zd_e (c := 1) (zq_0 tw9) (Int.le_of_eq t8) (by decide)) (zlt_u (c := 6) c4 (by decide)) (by decide))⟩ ⟨(zl_e (zq_r (c := (-1)) tx10 (by decide)) hh2.1 (by decide)), (zu_e (Int.le_of_eq tx10) (zlt_u (c := 6) c4 (by decide)) (by decide))⟩ (zd_e (c := 0) (zd_e (c := 1) (zq_0 tw9) (Int.le_of_eq t8) (by decide)) (zq_r (c := (-1)) tx10 (by decide)) (by decide)) (zms_u (c := 6) hN1 (zq_r (c := (-1)) tx10 (by decide)) (zlt_u (c := 6) c4 (by decide)) (by decide))
  exact lp1 zfu (-1 : Int32) (0 : Int32)  ⟨by decide, by decide⟩ ⟨by decide, by decide⟩ (zd_b (Int.le_of_eq tzm1) (Int.le_of_eq tz0.symm) (by decide)) (zme_u (l := 0) (Int.le_of_eq tz0.symm) (by decide))

-- the reference's tokens
theorem sm_rg {c z : Int32} (h : f_X9_isSmall c = some z) (hz : ¬ z = 0) : 97 ≤ c.toInt ∧ c.toInt ≤ 122 := by
  unfold f_X9_isSmall at h
  by_cases c1 : c < (97 : Int32)
  · have h := z_t h c1; exact absurd (Option.some.inj h).symm hz
  · have h := z_f h c1
    by_cases c2 : (122 : Int32) < c
    · have h := z_t h c2; exact absurd (Option.some.inj h).symm hz
    · have c1 := cv_nlt (a := c.toInt) (b := 97) rfl (by decide) c1
      have c2 := cv_nlt (a := 122) (b := c.toInt) (by decide) rfl c2
      exact ⟨c1, c2⟩
theorem n243 : ∀ (N : Nat) (o y : Ob), lp_X9_next_243 N o = some y → 0 ≤ (gI o 15).toInt → (gI o 13).toInt ≤ 400 →
    gI y 14 = gI o 14 ∧ gI y 16 = gI o 16 ∧ (gI o 15).toInt ≤ (gI y 15).toInt ∧ (¬ gI o 16 = 2 → y = o) ∧ (gI o 16 = 2 → (gI o 15).toInt < (gI o 13).toInt → (∀ z, f_X9_isDigit (gA o 12 (gI o 15).toNatClampNeg) = some z → ¬ z = 0) → (gI o 15).toInt < (gI y 15).toInt) := by
  intro N
  induction N with
  | zero => intro o y h; cases h
  | succ N ih =>
    intro o y h h0 h4
    have h : lb_X9_next_243 (lp_X9_next_243 N) o = some y := h
    unfold lb_X9_next_243 at h
    by_cases c : gI o 16 = 2
    · have h := z_t h c
      by_cases d : (gI o 13) ≤ (gI o 15)
      · have h := z_t h d
        have e := Option.some.inj h
        subst e
        have d := cv_le (a := (gI o 13).toInt) (b := (gI o 15).toInt) rfl rfl d
        exact ⟨rfl, rfl, Int.le_refl _, fun _ => rfl, fun _ g => by omega⟩
      · have h := z_f h d
        have d := cv_nle (a := (gI o 13).toInt) (b := (gI o 15).toInt) rfl rfl d
        obtain ⟨-, h⟩ := z_gd h
        obtain ⟨z, ez, h⟩ := z_bd h
        by_cases e : z = 0
        · have h := z_t h e
          have e2 := Option.some.inj h
          subst e2
          exact ⟨rfl, rfl, Int.le_refl _, fun _ => rfl, fun _ _ g => absurd e (g z ez)⟩
        · have h := z_f h e
          have t : ((gI o 15) + (1 : Int32)).toInt = (gI o 15).toInt + 1 := i32_add rfl (by decide) (by omega) (by omega)
          have key : ∀ s : Int64, bk_X9_next_319 (lp_X9_next_243 N) s o = some y → gI y 14 = gI o 14 ∧ gI y 16 = gI o 16 ∧ (gI o 15).toInt < (gI y 15).toInt := by
            intro s h
            have h : lp_X9_next_243 N (sI (sL o 17 s) 15 ((gI o 15) + (1 : Int32))) = some y := h
            have r := ih _ y h (by show 0 ≤ ((gI o 15) + (1 : Int32)).toInt; omega) h4
            have r3 : ((gI o 15) + (1 : Int32)).toInt ≤ (gI y 15).toInt := r.2.2.1
            exact ⟨r.1, r.2.1, by omega⟩
          have key2 : gI y 14 = gI o 14 ∧ gI y 16 = gI o 16 ∧ (gI o 15).toInt < (gI y 15).toInt := by
            by_cases f : (lg_cmp (gL o 17) (1000000 : Int64)) ≤ (0 : Int32)
            · have h := z_t h f
              obtain ⟨-, h⟩ := z_gd h
              exact key _ h
            · exact key _ (z_f h f)
          exact ⟨key2.1, key2.2.1, by omega, fun g => absurd c g, fun _ _ _ => key2.2.2⟩
    · have h := z_f h c
      have e := Option.some.inj h
      subst e
      exact ⟨rfl, rfl, Int.le_refl _, fun _ => rfl, fun g => absurd g c⟩
def TJ (o : Ob) : Prop := ((gI o 15).toInt = (gI o 14).toInt ∧ (gL o 17).toInt = 0) ∨ ((gI o 15).toInt = (gI o 14).toInt + 1 ∧ (gL o 17).toInt ≤ 31) ∨ (gI o 14).toInt + 2 ≤ (gI o 15).toInt
theorem n149 : ∀ (N : Nat) (o y : Ob), lp_X9_next_149 N o = some y → 0 ≤ (gI o 15).toInt → (gI o 13).toInt ≤ 400 →
    gI y 14 = gI o 14 ∧ gI y 16 = gI o 16 ∧ (gI o 15).toInt ≤ (gI y 15).toInt ∧ (gI o 16 = 1 → TJ o → TJ y) ∧ (gI o 16 = 1 → (gI o 15).toInt < (gI o 13).toInt → (∀ z, f_X9_isSmall (gA o 12 (gI o 15).toNatClampNeg) = some z → ¬ z = 0) → (gI o 15).toInt < (gI y 15).toInt) ∧
    (gI o 16 = 2 → (gI o 15).toInt < (gI o 13).toInt → (∀ z, f_X9_isDigit (gA o 12 (gI o 15).toNatClampNeg) = some z → ¬ z = 0) → (gI o 15).toInt < (gI y 15).toInt) := by
  intro N
  induction N with
  | zero => intro o y h; cases h
  | succ N ih =>
    intro o y h h0 h4
    have h : lb_X9_next_149 (lp_X9_next_149 N) o = some y := h
    unfold lb_X9_next_149 at h
    by_cases c : gI o 16 = 1
    · have h := z_t h c
      have c2 : ¬ gI o 16 = 2 := fun e => absurd (c.symm.trans e) (by decide)
      by_cases d : (gI o 13) ≤ (gI o 15)
      · have h := z_t h d
        have r := n243 _ o y h h0 h4
        have e := r.2.2.2.1 c2
        subst e
        have d := cv_le (a := (gI y 13).toInt) (b := (gI y 15).toInt) rfl rfl d
        exact ⟨rfl, rfl, Int.le_refl _, fun _ g => g, fun _ g => by omega, fun g => absurd g c2⟩
      · have h := z_f h d
        have d := cv_nle (a := (gI o 13).toInt) (b := (gI o 15).toInt) rfl rfl d
        obtain ⟨-, h⟩ := z_gd h
        obtain ⟨z, ez, h⟩ := z_bd h
        by_cases e : z = 0
        · have h := z_t h e
          have r := n243 _ o y h h0 h4
          have e2 := r.2.2.2.1 c2
          subst e2
          exact ⟨rfl, rfl, Int.le_refl _, fun _ g => g, fun _ _ g => absurd e (g z ez), fun g => absurd g c2⟩
        · have h := z_f h e
          have rg := sm_rg ez e
          have t : ((gI o 15) + (1 : Int32)).toInt = (gI o 15).toInt + 1 := i32_add rfl (by decide) (by omega) (by omega)
          have key : ∀ s : Int64, ((gI o 15).toInt = (gI o 14).toInt → (gL o 17).toInt = 0 → s.toInt ≤ 31) → bk_X9_next_227 (lp_X9_next_149 N) s o = some y → gI y 14 = gI o 14 ∧ gI y 16 = gI o 16 ∧ (gI o 15).toInt < (gI y 15).toInt ∧ (TJ o → TJ y) := by
            intro s hs h
            have h : lp_X9_next_149 N (sI (sL o 17 s) 15 ((gI o 15) + (1 : Int32))) = some y := h
            have r := ih _ y h (by show 0 ≤ ((gI o 15) + (1 : Int32)).toInt; omega) h4
            have r3 : ((gI o 15) + (1 : Int32)).toInt ≤ (gI y 15).toInt := r.2.2.1
            refine ⟨r.1, r.2.1, by omega, fun g => r.2.2.2.1 c ?_⟩
            show (((gI o 15) + (1 : Int32)).toInt = (gI o 14).toInt ∧ s.toInt = 0) ∨ (((gI o 15) + (1 : Int32)).toInt = (gI o 14).toInt + 1 ∧ s.toInt ≤ 31) ∨ (gI o 14).toInt + 2 ≤ ((gI o 15) + (1 : Int32)).toInt
            rcases g with ⟨g1, g2⟩ | ⟨g1, g2⟩ | g1
            · exact Or.inr (Or.inl ⟨by omega, hs g1 g2⟩)
            · exact Or.inr (Or.inr (by omega))
            · exact Or.inr (Or.inr (by omega))
          have key2 : gI y 14 = gI o 14 ∧ gI y 16 = gI o 16 ∧ (gI o 15).toInt < (gI y 15).toInt ∧ (TJ o → TJ y) := by
            by_cases f : (10 : Int32) ≤ ((gI o 15) - (gI o 14))
            · exact key _ (fun _ _ => by decide) (z_t h f)
            · have h := z_f h f
              obtain ⟨-, h⟩ := z_gd h
              refine key _ (fun _ g2 => ?_) h
              have a1 : ((gL o 17) * (32 : Int64)).toInt = 0 * 32 := i64_mul g2 (by decide) (by omega) (by omega)
              have a0 := Int32.toInt_toInt64 (gA o 12 (gI o 15).toNatClampNeg)
              have a2 : (((gL o 17) * (32 : Int64)) + ((gA o 12 (gI o 15).toNatClampNeg).toInt64)).toInt = 0 * 32 + (gA o 12 (gI o 15).toNatClampNeg).toInt := i64_add a1 a0 (by omega) (by omega)
              have a3 : ((((gL o 17) * (32 : Int64)) + ((gA o 12 (gI o 15).toNatClampNeg).toInt64)) - (96 : Int64)).toInt = 0 * 32 + (gA o 12 (gI o 15).toNatClampNeg).toInt - 96 := i64_sub a2 (by decide) (by omega) (by omega)
              omega
          exact ⟨key2.1, key2.2.1, by omega, fun _ => key2.2.2.2, fun _ _ _ => key2.2.2.1, fun g => absurd g c2⟩
    · have h := z_f h c
      have r := n243 _ o y h h0 h4
      exact ⟨r.1, r.2.1, r.2.2.1, fun g => absurd g c, fun g => absurd g c, r.2.2.2.2⟩
-- what is known of a token
def TK (o : Ob) : Prop := (gI o 14).toInt ≤ (gI o 15).toInt ∧ (¬ gI o 16 = 0 → (gI o 14).toInt < (gI o 15).toInt) ∧ (gI o 16 = 1 → 32 ≤ (gL o 17).toInt → (gI o 14).toInt + 2 ≤ (gI o 15).toInt)
theorem n46 (o y : Ob) (h : bk_X9_next_46 o = some y) (h0 : 0 ≤ (gI o 14).toInt) (h1 : (gI o 14).toInt ≤ (gI o 13).toInt) (h4 : (gI o 13).toInt ≤ 400) : TK y ∧ gI y 14 = gI o 14 := by
  unfold bk_X9_next_46 at h
  have h114 : ∀ s0 : Int32, bk_X9_next_114 s0 (sL (sI o 15 (gI o 14)) 17 (0 : Int64)) = some y → (¬ s0 = 0 → (gI o 14).toInt < (gI o 13).toInt) → (s0 = 1 → ∀ z, f_X9_isSmall (gA o 12 (gI o 14).toNatClampNeg) = some z → ¬ z = 0) → (s0 = 2 → ∀ z, f_X9_isDigit (gA o 12 (gI o 14).toNatClampNeg) = some z → ¬ z = 0) → (s0 = 0 ∨ s0 = 1 ∨ s0 = 2 ∨ s0 = 3) → TK y ∧ gI y 14 = gI o 14 := by
    intro s0 h hlt hs hd hc
    unfold bk_X9_next_114 at h
    obtain ⟨o8, e8, h⟩ := z_lt h
    have g14 : gI o8 14 = gI o 14 := by rw [e8]; rfl
    have g15 : gI o8 15 = gI o 14 := by rw [e8]; rfl
    have g16 : gI o8 16 = s0 := by rw [e8]; rfl
    have g13 : gI o8 13 = gI o 13 := by rw [e8]; rfl
    have g12 : gA o8 12 = gA o 12 := by rw [e8]; rfl
    have g17 : (gL o8 17).toInt = 0 := by rw [e8]; show (0 : Int64).toInt = 0; decide
    by_cases c : gI o8 16 = 3
    · have h := z_t h c
      obtain ⟨-, h⟩ := z_gd h
      obtain ⟨o20, e20, h⟩ := z_lt h
      obtain ⟨o21, e21, h⟩ := z_lt h
      have hl := hlt (by rw [← g16, c]; decide)
      have t : ((gI o 14) + (1 : Int32)).toInt = (gI o 14).toInt + 1 := i32_add rfl (by decide) (by omega) (by omega)
      have k14 : gI o21 14 = gI o 14 := by rw [e21, e20]; exact g14
      have k15 : gI o21 15 = (gI o 14) + 1 := by rw [e21, e20]; show (gI o8 15) + 1 = _; rw [g15]
      have k16 : gI o21 16 = 3 := by rw [e21, e20]; exact c
      have k13 : gI o21 13 = gI o 13 := by rw [e21, e20]; exact g13
      have r := n149 _ o21 y h (by rw [k15]; omega) (by rw [k13]; exact h4)
      have r3 := r.2.2.1
      rw [k15] at r3
      have r1 : gI y 14 = gI o 14 := r.1.trans k14
      refine ⟨⟨by rw [r1]; omega, fun _ => by rw [r1]; omega, fun g => absurd ((r.2.1.trans k16).symm.trans g) (by decide)⟩, r1⟩
    · have h := z_f h c
      have r := n149 _ o8 y h (by rw [g15]; omega) (by rw [g13]; exact h4)
      have r1 : gI y 14 = gI o 14 := r.1.trans g14
      have r2 : gI y 16 = s0 := r.2.1.trans g16
      have r3 := r.2.2.1
      rw [g15] at r3
      refine ⟨⟨by rw [r1]; omega, fun g => ?_, fun g g2 => ?_⟩, r1⟩
      · rw [r2] at g
        have hl := hlt g
        rw [r1]
        rcases hc with e | e | e | e
        · exact absurd e g
        · have q := r.2.2.2.2.1 (g16.trans e) (by rw [g15, g13]; exact hl) (by rw [g15, g12]; exact hs e)
          rw [g15] at q; exact q
        · have q := r.2.2.2.2.2 (g16.trans e) (by rw [g15, g13]; exact hl) (by rw [g15, g12]; exact hd e)
          rw [g15] at q; exact q
        · exact absurd (g16.trans e) c
      · rw [r2] at g
        have q := r.2.2.2.1 (g16.trans g) (Or.inl ⟨by rw [g14, g15], g17⟩)
        rw [r1]
        unfold TJ at q
        rw [r1] at q
        omega
  obtain ⟨o2, e2, h⟩ := z_lt h
  obtain ⟨o3, e3, h⟩ := z_lt h
  rw [e3, e2] at h
  by_cases c : gI (sL (sI o 15 (gI o 14)) 17 (0 : Int64)) 14 = gI (sL (sI o 15 (gI o 14)) 17 (0 : Int64)) 13
  · exact h114 0 (z_t h c) (fun g => absurd rfl g) (fun g => absurd g (by decide)) (fun g => absurd g (by decide)) (Or.inl rfl)
  · have h := z_f h c
    have hlt : (gI o 14).toInt < (gI o 13).toInt := by
      have c : ¬ gI o 14 = gI o 13 := c
      have c := cv_ne (a := (gI o 14).toInt) (b := (gI o 13).toInt) rfl rfl c
      omega
    obtain ⟨-, h⟩ := z_gd h
    obtain ⟨z5, e5, h⟩ := z_bd h
    by_cases d : z5 = 0
    · have h := z_t h d
      obtain ⟨-, h⟩ := z_gd h
      obtain ⟨z7, e7, h⟩ := z_bd h
      by_cases f : z7 = 0
      · exact h114 3 (z_t h f) (fun _ => hlt) (fun g => absurd g (by decide)) (fun g => absurd g (by decide)) (Or.inr (Or.inr (Or.inr rfl)))
      · exact h114 2 (z_f h f) (fun _ => hlt) (fun g => absurd g (by decide)) (fun _ z ez => by
          have e7 : f_X9_isDigit (gA o 12 (gI o 14).toNatClampNeg) = some z7 := e7
          rw [e7] at ez; exact (Option.some.inj ez) ▸ f) (Or.inr (Or.inr (Or.inl rfl)))
    · exact h114 1 (z_f h d) (fun _ => hlt) (fun _ z ez => by
        have e5 : f_X9_isSmall (gA o 12 (gI o 14).toNatClampNeg) = some z5 := e5
        rw [e5] at ez; exact (Option.some.inj ez) ▸ d) (fun g => absurd g (by decide)) (Or.inr (Or.inl rfl))
theorem n8 : ∀ (N : Nat) (o y : Ob), lp_X9_next_8 N o = some y → 0 ≤ (gI o 14).toInt → (gI o 14).toInt ≤ (gI o 13).toInt → (gI o 13).toInt ≤ 400 → TK y ∧ (gI o 14).toInt ≤ (gI y 14).toInt := by
  intro N
  induction N with
  | zero => intro o y h; cases h
  | succ N ih =>
    intro o y h h0 h1 h4
    have h : lb_X9_next_8 (lp_X9_next_8 N) o = some y := h
    unfold lb_X9_next_8 at h
    by_cases c : (gI o 13) ≤ (gI o 14)
    · have r := n46 o y (z_t h c) h0 h1 h4
      exact ⟨r.1, by rw [r.2]; exact Int.le_refl _⟩
    · have h := z_f h c
      have c := cv_nle (a := (gI o 13).toInt) (b := (gI o 14).toInt) rfl rfl c
      obtain ⟨-, h⟩ := z_gd h
      by_cases d : (gA o 12 (gI o 14).toNatClampNeg) = (32 : Int32)
      · have h := z_t h d
        have h : lp_X9_next_8 N (sI o 14 ((gI o 14) + (1 : Int32))) = some y := h
        have t : ((gI o 14) + (1 : Int32)).toInt = (gI o 14).toInt + 1 := i32_add rfl (by decide) (by omega) (by omega)
        have r := ih _ y h (by show 0 ≤ ((gI o 14) + (1 : Int32)).toInt; omega) (by show ((gI o 14) + (1 : Int32)).toInt ≤ (gI o 13).toInt; omega) h4
        have r2 : ((gI o 14) + (1 : Int32)).toInt ≤ (gI y 14).toInt := r.2
        exact ⟨r.1, by omega⟩
      · have r := n46 o y (z_f h d) h0 h1 h4
        exact ⟨r.1, by rw [r.2]; exact Int.le_refl _⟩
theorem h_next (o : Ob) (hI : IvX9 o) (hr : (gI o 15).toInt ≤ (gI o 13).toInt) : wp (f_X9_next o) (fun y => IvX9 y ∧ Kp [1, 8, 11, 13, 18, 19, 20, 21, 23, 26, 29, 34, 38, 43, 56, 57, 58, 59, 62] [2, 3, 4, 5, 7, 10, 12, 22, 24, 25, 27, 28, 42, 48, 50, 51, 55, 61] [(0, 1), (1, 2), (29, 36), (36, 64), (64, 71)] o y ∧ (gI y 15).toInt ≤ (gI y 13).toInt ∧ TK y ∧ (gI o 15).toInt ≤ (gI y 14).toInt) := by
  obtain ⟨y, e, h1, h2, h3⟩ := s_X9_next o hI (by omega)
  have b13 := igX9_13 hI
  have b15 := igX9_15 hI
  have h : lp_X9_next_8 zfu (sI o 14 (gI o 15)) = some y := e
  have r := n8 _ _ y h b15.1 hr b13.2
  exact ⟨y, e, h1, h2, by omega, r.1, r.2⟩
theorem h_must (o : Ob) (b : Int32) (hI : IvX9 o) (hr : (gI o 15).toInt ≤ (gI o 13).toInt) (ht : TK o) (h0 : gI o 19 = 0) : wp (f_X9_must o b) (fun y => IvX9 y ∧ Kp [1, 8, 11, 13, 20, 21, 23, 26, 29, 34, 38, 43, 56, 57, 58, 59, 62] [2, 3, 4, 5, 7, 10, 12, 22, 24, 25, 27, 28, 42, 48, 50, 51, 55, 61] [(0, 1), (1, 2), (29, 36), (36, 64), (64, 71)] o y ∧ (gI y 15).toInt ≤ (gI y 13).toInt ∧ TK y ∧ ((gI y 19 = 0 ∧ ¬ b = 0 ∧ (gI o 15).toInt ≤ (gI y 14).toInt) ∨ (gI y 19 = 1 ∧ gI y 14 = gI o 14))) := by
  unfold f_X9_must
  refine wp_if (fun _ => ?_) (fun c => absurd h0 c)
  refine wp_if (fun c => ?_) (fun c => ?_)
  · refine wp_lt (fun o2 e2 => ?_)
    refine wp_lt (fun o3 e3 => ?_)
    unfold bk_X9_must_24
    have k19 : gI o3 19 = 1 := by rw [e3, e2]; rfl
    refine wp_if (fun c => absurd (k19.symm.trans c) (by decide)) (fun _ => wp_some ⟨?_, ?_, ?_, ?_, Or.inr ⟨k19, ?_⟩⟩)
    · rw [e3, e2]; exact (show IvX9 (sI o 19 1) from ipX9_19 hI ⟨by decide, by decide⟩)
    · rw [e3, e2]; exact Kp.trans (o' := sI o 19 1) (Kp.sI (by decide)) (Kp.sI (by decide))
    · rw [e3, e2]; exact hr
    · rw [e3, e2]; exact ht
    · rw [e3, e2]; rfl
  · unfold bk_X9_must_24
    refine wp_if (fun _ => ?_) (fun c => absurd h0 c)
    refine wp_bd (h_next o hI hr) (fun z hz => ?_)
    obtain ⟨g1, g2, g3, g4, g5⟩ := hz
    exact wp_some ⟨g1, g2.mono (by decide) (by decide) (by decide), g3, g4, Or.inl ⟨(g2.1 19 (by decide)).trans h0, c, g5⟩⟩
-- heights of codes that are being written
def cnt (g : Nat → Int32) : Nat → Nat
  | 0 => 0
  | n + 1 => cnt g n + (if 20 ≤ (g n).toInt ∧ (g n).toInt ≤ 27 then 1 else 0)
theorem cnt_eq {g g' : Nat → Int32} : ∀ n, (∀ i, i < n → g' i = g i) → cnt g' n = cnt g n := by
  intro n
  induction n with
  | zero => intro _; rfl
  | succ n ih =>
    intro h
    show cnt g' n + _ = cnt g n + _
    rw [ih (fun i hi => h i (by omega)), h n (by omega)]
theorem cnt_b {g : Nat → Int32} {n : Nat} (h1 : 20 ≤ (g n).toInt) (h2 : (g n).toInt ≤ 27) : cnt g (n + 1) = cnt g n + 1 := by
  show cnt g n + _ = _
  rw [if_pos ⟨h1, h2⟩]
theorem cnt_o {g : Nat → Int32} {n : Nat} (h : 27 < (g n).toInt) : cnt g (n + 1) = cnt g n := by
  show cnt g n + _ = _
  rw [if_neg (by omega)]; rfl
def BO (v : Int32) : Prop := v.toInt = 29 ∨ v.toInt = 30
def HK (a c n : Nat) (h : Nat → Nat) (op arg pile pat : Nat → Int32) : Prop :=
  (∀ k, a ≤ k → k < c → CS op arg h c k ∨ ∃ i, i < n ∧ BO (pile i) ∧ (pat i).toInt = (k : Int)) ∧
  (∀ i, i < n → BO (pile i) → ∃ k : Nat, (pat i).toInt = (k : Int) ∧ a ≤ k ∧ k < c ∧ h k = cnt pile i + 1 ∧ BO (op k) ∧ h (k + 1) + 1 = h k)
def HT (a c n cc : Nat) (op arg pile pat : Nat → Int32) : Prop := ∃ h : Nat → Nat, h a = 0 ∧ h c = cnt pile n + cc ∧ HK a c n h op arg pile pat
theorem upd_n {g : Nat → Int32} {i j : Nat} {v : Int32} (h : j ≠ i) : upd g i v j = g j := if_neg h
theorem upd_s {g : Nat → Int32} {i : Nat} {v : Int32} : upd g i v i = v := if_pos rfl
theorem CS.ext {op arg op' arg' : Nat → Int32} {h h' : Nat → Nat} {c c' k : Nat} (H : CS op arg h c k) (hk : k < c) (hc : c ≤ c') (e1 : op' k = op k) (e2 : arg' k = arg k) (e3 : ∀ j, j ≤ c → h' j = h j) : CS op' arg' h' c' k := by
  unfold CS at H ⊢
  rw [e1, e2, e3 k (by omega), e3 (k + 1) (by omega)]
  rcases H with H | H | H | ⟨a1, a2, a3, a4, a5, a6, a7⟩
  · exact Or.inl H
  · exact Or.inr (Or.inl H)
  · exact Or.inr (Or.inr (Or.inl H))
  · refine Or.inr (Or.inr (Or.inr ⟨a1, a2, a3, a4, a5, by omega, ?_⟩))
    rw [e3 _ (by omega)]; exact a7
theorem HK.emit {a c n n' : Nat} {h : Nat → Nat} {op arg pile pat : Nat → Int32} (H : HK a c n h op arg pile pat) (v w : Int32) (x : Nat) (hn : n' ≤ n) (hp : ∀ i, n' ≤ i → i < n → ¬ BO (pile i)) (hcs : CS (upd op c v) (upd arg c w) (fun k => if k = c + 1 then x else h k) (c + 1) c) :
    HK a (c + 1) n' (fun k => if k = c + 1 then x else h k) (upd op c v) (upd arg c w) pile pat := by
  have e3 : ∀ j, j ≤ c → (fun k => if k = c + 1 then x else h k) j = h j := fun j hj => if_neg (by omega)
  refine ⟨fun k h1 h2 => ?_, fun i hi hb => ?_⟩
  · by_cases e : k = c
    · subst e; exact Or.inl hcs
    · rcases H.1 k h1 (by omega) with z | ⟨i, hi, hb, hz⟩
      · exact Or.inl (z.ext (by omega) (by omega) (upd_n e) (upd_n e) e3)
      · refine Or.inr ⟨i, ?_, hb, hz⟩
        by_cases g : i < n'
        · exact g
        · exact absurd hb (hp i (by omega) hi)
  · obtain ⟨k, h1, h2, h3, h4, h5, h6⟩ := H.2 i (by omega) hb
    refine ⟨k, h1, h2, by omega, ?_, ?_, ?_⟩
    · rw [e3 k (by omega)]; exact h4
    · rw [upd_n (by omega)]; exact h5
    · rw [e3 k (by omega), e3 (k + 1) (by omega)]; exact h6
theorem HT.leaf {a c n : Nat} {op arg pile pat : Nat → Int32} (H : HT a c n 0 op arg pile pat) (hac : a ≤ c) (v w : Int32) (h0 : 0 ≤ v.toInt) (h1 : v.toInt ≤ 9) : HT a (c + 1) n 1 (upd op c v) (upd arg c w) pile pat := by
  obtain ⟨h, e0, e1, H⟩ := H
  refine ⟨fun k => if k = c + 1 then cnt pile n + 1 else h k, ?_, if_pos rfl, H.emit v w _ (Nat.le_refl _) (fun i h1 h2 => by omega) ?_⟩
  · show (if a = c + 1 then _ else h a) = 0
    rw [if_neg (by omega)]; exact e0
  · refine Or.inl ⟨by rw [upd_s]; exact h0, by rw [upd_s]; exact h1, ?_⟩
    show (if c + 1 = c + 1 then cnt pile n + 1 else _) = (if c = c + 1 then _ else h c) + 1
    rw [if_pos rfl, if_neg (by omega), e1]
theorem HT.bin {a c m : Nat} {op arg pile pat : Nat → Int32} (H : HT a c (m + 1) 1 op arg pile pat) (hac : a ≤ c) (w : Int32) (h0 : 20 ≤ (pile m).toInt) (h1 : (pile m).toInt ≤ 27) : HT a (c + 1) m 1 (upd op c (pile m)) (upd arg c w) pile pat := by
  obtain ⟨h, e0, e1, H⟩ := H
  rw [cnt_b h0 h1] at e1
  refine ⟨fun k => if k = c + 1 then cnt pile m + 1 else h k, ?_, if_pos rfl, H.emit _ w _ (by omega) (fun i g1 g2 => ?_) ?_⟩
  · show (if a = c + 1 then _ else h a) = 0
    rw [if_neg (by omega)]; exact e0
  · have : i = m := by omega
    subst this
    unfold BO; omega
  · refine Or.inr (Or.inl ⟨by rw [upd_s]; exact h0, by rw [upd_s]; exact h1, ?_, ?_⟩)
    · show 2 ≤ (if c = c + 1 then _ else h c)
      rw [if_neg (by omega), e1]; omega
    · show (if c + 1 = c + 1 then cnt pile m + 1 else _) + 1 = (if c = c + 1 then _ else h c)
      rw [if_pos rfl, if_neg (by omega), e1]
theorem HT.neg {a c m : Nat} {op arg pile pat : Nat → Int32} (H : HT a c (m + 1) 1 op arg pile pat) (hac : a ≤ c) (w : Int32) (h0 : (pile m).toInt = 28) : HT a (c + 1) m 1 (upd op c (pile m)) (upd arg c w) pile pat := by
  obtain ⟨h, e0, e1, H⟩ := H
  rw [cnt_o (by omega)] at e1
  refine ⟨fun k => if k = c + 1 then cnt pile m + 1 else h k, ?_, if_pos rfl, H.emit _ w _ (by omega) (fun i g1 g2 => ?_) ?_⟩
  · show (if a = c + 1 then _ else h a) = 0
    rw [if_neg (by omega)]; exact e0
  · have : i = m := by omega
    subst this
    unfold BO; omega
  · refine Or.inr (Or.inr (Or.inl ⟨by rw [upd_s]; exact h0, ?_, ?_⟩))
    · show 1 ≤ (if c = c + 1 then _ else h c)
      rw [if_neg (by omega), e1]; omega
    · show (if c + 1 = c + 1 then cnt pile m + 1 else _) = (if c = c + 1 then _ else h c)
      rw [if_pos rfl, if_neg (by omega), e1]
theorem HT.land {a c m : Nat} {op arg pile pat : Nat → Int32} (H : HT a c (m + 1) 1 op arg pile pat) (v : Int32) (hv : v.toInt = (c : Int)) (k0 : Nat) (ek : (pat m).toInt = (k0 : Int)) (h0 : BO (pile m)) : HT a c m 1 op (upd arg k0 v) pile pat := by
  obtain ⟨h, e0, e1, H⟩ := H
  rw [cnt_o (by unfold BO at h0; omega)] at e1
  obtain ⟨k1, g1, g2, g3, g4, g5, g6⟩ := H.2 m (by omega) h0
  have ekk : k1 = k0 := by omega
  subst ekk
  refine ⟨h, e0, e1, fun k h1 h2 => ?_, fun i hi hb => H.2 i (by omega) hb⟩
  by_cases e : k = k1
  · subst e
    refine Or.inl (Or.inr (Or.inr (Or.inr ⟨?_, ?_, by omega, g6, ?_, ?_, ?_⟩)))
    · unfold BO at g5; omega
    · unfold BO at g5; omega
    · rw [upd_s, hv]; omega
    · rw [upd_s, hv]; omega
    · rw [upd_s, hv]
      have : (c : Int).toNat = c := by omega
      rw [this, e1, g4]
  · rcases H.1 k h1 h2 with z | ⟨i, hi, hb, hz⟩
    · exact Or.inl (z.ext h2 (Nat.le_refl _) rfl (upd_n e) (fun _ _ => rfl))
    · refine Or.inr ⟨i, ?_, hb, hz⟩
      rcases (show i < m ∨ i = m by omega) with g | g
      · exact g
      · subst g; omega
theorem HK.push {a c n : Nat} {h : Nat → Nat} {op arg pile pat : Nat → Int32} (H : HK a c n h op arg pile pat) (v w : Int32) (hv : ¬ BO v) : HK a c (n + 1) h op arg (upd pile n v) (upd pat n w) := by
  refine ⟨fun k h1 h2 => ?_, fun i hi hb => ?_⟩
  · rcases H.1 k h1 h2 with z | ⟨i, hi, hb, hz⟩
    · exact Or.inl z
    · exact Or.inr ⟨i, by omega, by rw [upd_n (by omega)]; exact hb, by rw [upd_n (by omega)]; exact hz⟩
  · by_cases e : i = n
    · subst e; rw [upd_s] at hb; exact absurd hb hv
    · rw [upd_n e] at hb
      obtain ⟨k, h1, h2, h3, h4, h5, h6⟩ := H.2 i (by omega) hb
      refine ⟨k, by rw [upd_n e]; exact h1, h2, h3, ?_, h5, h6⟩
      rw [cnt_eq i (fun j hj => upd_n (by omega))]; exact h4
theorem HT.pushb {a c n : Nat} {op arg pile pat : Nat → Int32} (H : HT a c n 1 op arg pile pat) (v w : Int32) (h0 : 20 ≤ v.toInt) (h1 : v.toInt ≤ 27) : HT a c (n + 1) 0 op arg (upd pile n v) (upd pat n w) := by
  obtain ⟨h, e0, e1, H⟩ := H
  refine ⟨h, e0, ?_, H.push v w (by unfold BO; omega)⟩
  rw [cnt_b (by rw [upd_s]; exact h0) (by rw [upd_s]; exact h1), cnt_eq n (fun j hj => upd_n (by omega)), e1]
theorem HT.pusho {a c n : Nat} {op arg pile pat : Nat → Int32} (H : HT a c n 0 op arg pile pat) (v w : Int32) (h0 : v.toInt = 28 ∨ 31 ≤ v.toInt) : HT a c (n + 1) 0 op arg (upd pile n v) (upd pat n w) := by
  obtain ⟨h, e0, e1, H⟩ := H
  refine ⟨h, e0, ?_, H.push v w (by unfold BO; omega)⟩
  rw [cnt_o (by rw [upd_s]; omega), cnt_eq n (fun j hj => upd_n (by omega)), e1]
theorem HT.andor {a c n : Nat} {op arg pile pat : Nat → Int32} (H : HT a c n 1 op arg pile pat) (hac : a ≤ c) (v w pc : Int32) (hv : BO v) (hpc : pc.toInt = (c : Int)) : HT a (c + 1) (n + 1) 0 (upd op c v) (upd arg c w) (upd pile n v) (upd pat n pc) := by
  obtain ⟨h, e0, e1, H⟩ := H
  have e3 : ∀ j, j ≤ c → (fun k => if k = c + 1 then cnt pile n else h k) j = h j := fun j hj => if_neg (by omega)
  refine ⟨fun k => if k = c + 1 then cnt pile n else h k, ?_, ?_, fun k h1 h2 => ?_, fun i hi hb => ?_⟩
  · show (if a = c + 1 then _ else h a) = 0
    rw [if_neg (by omega)]; exact e0
  · rw [cnt_o (by rw [upd_s]; unfold BO at hv; omega), cnt_eq n (fun j hj => upd_n (by omega))]
    exact if_pos rfl
  · by_cases e : k = c
    · subst e
      exact Or.inr ⟨n, by omega, by rw [upd_s]; exact hv, by rw [upd_s]; exact hpc⟩
    · rcases H.1 k h1 (by omega) with z | ⟨i, hi, hb, hz⟩
      · exact Or.inl (z.ext (by omega) (by omega) (upd_n e) (upd_n e) e3)
      · exact Or.inr ⟨i, by omega, by rw [upd_n (by omega)]; exact hb, by rw [upd_n (by omega)]; exact hz⟩
  · by_cases e : i = n
    · subst e
      refine ⟨c, by rw [upd_s]; exact hpc, hac, by omega, ?_, by rw [upd_s]; exact hv, ?_⟩
      · rw [cnt_eq i (fun j hj => upd_n (by omega)), e3 c (Nat.le_refl _)]; exact e1
      · rw [e3 c (Nat.le_refl _), e1]
        show (if c + 1 = c + 1 then cnt pile i else _) + 1 = _
        rw [if_pos rfl]
    · rw [upd_n e] at hb
      obtain ⟨k, h1, h2, h3, h4, h5, h6⟩ := H.2 i (by omega) hb
      refine ⟨k, by rw [upd_n e]; exact h1, h2, by omega, ?_, ?_, ?_⟩
      · rw [cnt_eq i (fun j hj => upd_n (by omega)), e3 k (by omega)]; exact h4
      · rw [upd_n (by omega)]; exact h5
      · rw [e3 k (by omega), e3 (k + 1) (by omega)]; exact h6
theorem HT.drop {a c m cc : Nat} {op arg pile pat : Nat → Int32} (H : HT a c (m + 1) cc op arg pile pat) (h0 : 31 ≤ (pile m).toInt) : HT a c m cc op arg pile pat := by
  obtain ⟨h, e0, e1, H⟩ := H
  rw [cnt_o (by omega)] at e1
  refine ⟨h, e0, e1, fun k h1 h2 => ?_, fun i hi hb => H.2 i (by omega) hb⟩
  rcases H.1 k h1 h2 with z | ⟨i, hi, hb, hz⟩
  · exact Or.inl z
  · refine Or.inr ⟨i, ?_, hb, hz⟩
    rcases (show i < m ∨ i = m by omega) with g | g
    · exact g
    · subst g; unfold BO at hb; omega
theorem HT.arg {a c n : Nat} {op arg pile pat : Nat → Int32} (H : HT a (c + 1) n 1 op arg pile pat) (v : Int32) (h1 : (op c).toInt ≤ 9) : HT a (c + 1) n 1 op (upd arg c v) pile pat := by
  obtain ⟨h, e0, e1, H⟩ := H
  refine ⟨h, e0, e1, fun k g1 g2 => ?_, H.2⟩
  rcases H.1 k g1 g2 with z | z
  · by_cases e : k = c
    · subst e
      rcases z with z | z | z | z
      · exact Or.inl (Or.inl z)
      · exfalso; omega
      · exfalso; omega
      · exfalso; omega
    · exact Or.inl (z.ext g2 (Nat.le_refl _) rfl (upd_n e) (fun _ _ => rfl))
  · exact Or.inr z
theorem HT.done {a c : Nat} {op arg pile pat : Nat → Int32} (H : HT a c 0 1 op arg pile pat) : CW op arg a c := by
  obtain ⟨h, e0, -, H⟩ := H
  refine ⟨h, e0, fun k h1 h2 => ?_⟩
  rcases H.1 k h1 h2 with z | ⟨i, hi, -⟩
  · exact z
  · exact absurd hi (Nat.not_lt_zero _)
def bd (p0 : Int32) : Int32 := if p0 < (31 : Int32) then (if p0 = (30 : Int32) then 1 else if p0 = (29 : Int32) then 2 else if p0 = (28 : Int32) then 3 else if p0 < (25 : Int32) then (if p0 < (22 : Int32) then 5 else 6) else 4) else 0
theorem binds_eq (v : Int32) : f_X9_binds v = some (bd v) := by
  unfold f_X9_binds bd
  repeat' split
  all_goals rfl
theorem bd_rg {v : Int32} (h0 : 20 ≤ v.toInt) : (v.toInt ≤ 21 → (bd v).toInt = 5) ∧ (22 ≤ v.toInt → v.toInt ≤ 24 → (bd v).toInt = 6) ∧ (25 ≤ v.toInt → v.toInt ≤ 27 → (bd v).toInt = 4) ∧ (v.toInt = 28 → (bd v).toInt = 3) ∧ (v.toInt = 29 → (bd v).toInt = 2) ∧ (v.toInt = 30 → (bd v).toInt = 1) ∧ (31 ≤ v.toInt → (bd v).toInt = 0) := by
  unfold bd
  by_cases c1 : v < (31 : Int32)
  · rw [if_pos c1]
    have d1 := cv_lt (a := v.toInt) (b := 31) rfl (by decide) c1
    by_cases c2 : v = (30 : Int32)
    · rw [if_pos c2]; have d2 := cv_eq (a := v.toInt) (b := 30) rfl (by decide) c2
      have e : (1 : Int32).toInt = 1 := by decide
      rw [e]; omega
    · rw [if_neg c2]; have d2 := cv_ne (a := v.toInt) (b := 30) rfl (by decide) c2
      by_cases c3 : v = (29 : Int32)
      · rw [if_pos c3]; have d3 := cv_eq (a := v.toInt) (b := 29) rfl (by decide) c3
        have e : (2 : Int32).toInt = 2 := by decide
        rw [e]; omega
      · rw [if_neg c3]; have d3 := cv_ne (a := v.toInt) (b := 29) rfl (by decide) c3
        by_cases c4 : v = (28 : Int32)
        · rw [if_pos c4]; have d4 := cv_eq (a := v.toInt) (b := 28) rfl (by decide) c4
          have e : (3 : Int32).toInt = 3 := by decide
          rw [e]; omega
        · rw [if_neg c4]; have d4 := cv_ne (a := v.toInt) (b := 28) rfl (by decide) c4
          by_cases c5 : v < (25 : Int32)
          · rw [if_pos c5]; have d5 := cv_lt (a := v.toInt) (b := 25) rfl (by decide) c5
            by_cases c6 : v < (22 : Int32)
            · rw [if_pos c6]; have d6 := cv_lt (a := v.toInt) (b := 22) rfl (by decide) c6
              have e : (5 : Int32).toInt = 5 := by decide
              rw [e]; omega
            · rw [if_neg c6]; have d6 := cv_nlt (a := v.toInt) (b := 22) rfl (by decide) c6
              have e : (6 : Int32).toInt = 6 := by decide
              rw [e]; omega
          · rw [if_neg c5]; have d5 := cv_nlt (a := v.toInt) (b := 25) rfl (by decide) c5
            have e : (4 : Int32).toInt = 4 := by decide
            rw [e]; omega
  · rw [if_neg c1]
    have d1 := cv_nlt (a := v.toInt) (b := 31) rfl (by decide) c1
    have e : (0 : Int32).toInt = 0 := by decide
    rw [e]; omega
-- the reference's parser: what stands while it reads
def PZ (a c n : Nat) (o : Ob) : Prop := (gI o 23).toInt = (c : Int) ∧ (gI o 29).toInt = (n : Int) ∧ a ≤ c ∧ (c : Int) + (n : Int) ≤ (gI o 14).toInt ∧ (∀ i, i < n → 20 ≤ (gA o 27 i).toInt ∧ (gA o 27 i).toInt ≤ 32) ∧ (∀ i, i < n → BO (gA o 27 i) → ∃ k : Nat, (gA o 28 i).toInt = (k : Int) ∧ a ≤ k ∧ k < c)
def BC (a : Nat) (o0 o : Ob) : Prop := IvX9 o ∧ Kp [1, 8, 11, 13, 20, 21, 34, 38, 43, 56, 57, 58, 59, 62] [2, 3, 4, 5, 7, 10, 12, 22, 42, 48, 50, 51, 55, 61] [(0, 1), (1, 2), (29, 36), (36, 64), (64, 71)] o0 o ∧ (gI o 15).toInt ≤ (gI o 13).toInt ∧ TK o ∧ (∀ k, k < a → gA o 24 k = gA o0 24 k ∧ gA o 25 k = gA o0 25 k) ∧ (gI o0 14).toInt ≤ (gI o 14).toInt
def HO (a c n cc : Nat) (o : Ob) : Prop := HT a c n cc (gA o 24) (gA o 25) (gA o 27) (gA o 28)
def SM (o y : Ob) : Prop := gI y 14 = gI o 14 ∧ gI y 15 = gI o 15 ∧ gI y 16 = gI o 16 ∧ gL y 17 = gL o 17 ∧ gI y 19 = gI o 19 ∧ gI y 20 = gI o 20
theorem SM.tr {o y z : Ob} (h : SM o y) (h' : SM y z) : SM o z := ⟨h'.1.trans h.1, h'.2.1.trans h.2.1, h'.2.2.1.trans h.2.2.1, h'.2.2.2.1.trans h.2.2.2.1, h'.2.2.2.2.1.trans h.2.2.2.2.1, h'.2.2.2.2.2.trans h.2.2.2.2.2⟩
theorem BC.rg {a : Nat} {o0 o : Ob} (h : BC a o0 o) : 0 ≤ (gI o 14).toInt ∧ (gI o 14).toInt ≤ (gI o 15).toInt ∧ (gI o 15).toInt ≤ 400 := by
  have b13 := igX9_13 h.1
  have b14 := igX9_14 h.1
  have t := h.2.2.2.1.1
  have r := h.2.2.1
  exact ⟨b14.1, t, by omega⟩
theorem w_emit {P : Ob → Prop} (o : Ob) (c : Nat) (e : (gI o 23).toInt = (c : Int)) (hc : c < 400) (v w : Int32) (h : P (sI (tA (tA o 24 c v) 25 c w) 23 ((gI o 23) + 1))) : wp (f_X9_emit o v w) P := by
  unfold f_X9_emit
  have n := tnc_eq e
  refine wp_gd (zin_of (m := 400) rfl (by omega) (by omega)) ?_
  refine wp_lt (fun o2 e2 => ?_)
  have k2 : gI o2 23 = gI o 23 := by rw [e2]; rfl
  refine wp_gd (by rw [k2]; exact zin_of (m := 400) rfl (by omega) (by omega)) ?_
  refine wp_lt (fun o4 e4 => ?_)
  have k4 : gI o4 23 = gI o 23 := by rw [e4]; exact k2
  refine wp_lt (fun o5 e5 => ?_)
  rw [n] at e2
  rw [k2, n] at e4
  rw [k4] at e5
  refine wp_some ?_
  rw [e5, e4, e2]; exact h
theorem w_push {P : Ob → Prop} (o : Ob) (n : Nat) (e : (gI o 29).toInt = (n : Int)) (hn : n < 400) (v w : Int32) (h : P (sI (tA (tA o 27 n v) 28 n w) 29 ((gI o 29) + 1))) : wp (f_X9_push o v w) P := by
  unfold f_X9_push
  have nn := tnc_eq e
  refine wp_gd (zin_of (m := 400) rfl (by omega) (by omega)) ?_
  refine wp_lt (fun o2 e2 => ?_)
  have k2 : gI o2 29 = gI o 29 := by rw [e2]; rfl
  refine wp_gd (by rw [k2]; exact zin_of (m := 400) rfl (by omega) (by omega)) ?_
  refine wp_lt (fun o4 e4 => ?_)
  have k4 : gI o4 29 = gI o 29 := by rw [e4]; exact k2
  refine wp_lt (fun o5 e5 => ?_)
  rw [nn] at e2
  rw [k2, nn] at e4
  rw [k4] at e5
  refine wp_some ?_
  rw [e5, e4, e2]; exact h
-- an object with one more code, with one more in the pile
theorem BC.emit {a c : Nat} {o0 o : Ob} (h : BC a o0 o) (e : (gI o 23).toInt = (c : Int)) (hac : a ≤ c) (hc : c < 400) (v w : Int32) : BC a o0 (sI (tA (tA o 24 c v) 25 c w) 23 ((gI o 23) + 1)) := by
  have t : ((gI o 23) + (1 : Int32)).toInt = (c : Int) + 1 := i32_add e (by decide) (by omega) (by omega)
  refine ⟨?_, h.2.1.trans (Kp.trans (o' := tA o 24 c v) (Kp.tA (by decide) (by decide)) (Kp.trans (o' := tA (tA o 24 c v) 25 c w) (Kp.tA (by decide) (by decide)) (Kp.sI (by decide)))), h.2.2.1, h.2.2.2.1, fun k hk => ?_, h.2.2.2.2.2⟩
  · exact (show IvX9 (sI o 23 ((gI o 23) + 1)) from ipX9_23 h.1 ⟨by omega, by omega⟩)
  · have q := h.2.2.2.2.1 k hk
    refine ⟨?_, ?_⟩
    · show upd (gA o 24) c v k = _
      rw [upd_n (by omega)]; exact q.1
    · show upd (gA o 25) c w k = _
      rw [upd_n (by omega)]; exact q.2
theorem BC.push {a n : Nat} {o0 o : Ob} (h : BC a o0 o) (e : (gI o 29).toInt = (n : Int)) (hn : n < 400) (v w : Int32) : BC a o0 (sI (tA (tA o 27 n v) 28 n w) 29 ((gI o 29) + 1)) := by
  have t : ((gI o 29) + (1 : Int32)).toInt = (n : Int) + 1 := i32_add e (by decide) (by omega) (by omega)
  refine ⟨?_, h.2.1.trans (Kp.trans (o' := tA o 27 n v) (Kp.tA (by decide) (by decide)) (Kp.trans (o' := tA (tA o 27 n v) 28 n w) (Kp.tA (by decide) (by decide)) (Kp.sI (by decide)))), h.2.2.1, h.2.2.2.1, h.2.2.2.2⟩
  exact (show IvX9 (sI o 29 ((gI o 29) + 1)) from ipX9_29 h.1 ⟨by omega, by omega⟩)
theorem h_settle (a : Nat) (o0 : Ob) (g : Prop) (ls : Int32) (hls : 1 ≤ ls.toInt) : ∀ (N : Nat) (o : Ob) (c n : Nat), BC a o0 o → PZ a c n o → (g → HO a c n 1 o) → n < N →
    wp (lp_X9_settle_0 N (ls, o)) (fun y => BC a o0 y ∧ gA y 27 = gA o 27 ∧ gA y 28 = gA o 28 ∧ SM o y ∧ ∃ c' n' : Nat, PZ a c' n' y ∧ n' ≤ n ∧ c' + n' ≤ c + n ∧ (g → HO a c' n' 1 y) ∧ (∀ i, n' ≤ i → i < n → ls.toInt ≤ (bd (gA o 27 i)).toInt) ∧ (n' = 0 ∨ (bd (gA o 27 (n' - 1))).toInt < ls.toInt)) := by
  intro N
  induction N with
  | zero => intro o c n _ _ _ h; exact absurd h (Nat.not_lt_zero _)
  | succ N ih =>
    intro o c n hB hP hH hN
    obtain ⟨p1, p2, p3, p4, p5, p6⟩ := hP
    have rg := hB.rg
    show wp (lb_X9_settle_0 (lp_X9_settle_0 N) ls o) _
    unfold lb_X9_settle_0
    refine wp_if (fun d => ?_) (fun d => ?_)
    · have d := cv_le (a := (gI o 29).toInt) (b := 0) rfl (by decide) d
      exact wp_some ⟨hB, rfl, rfl, ⟨rfl, rfl, rfl, rfl, rfl, rfl⟩, c, n, ⟨p1, p2, p3, p4, p5, p6⟩, Nat.le_refl _, Nat.le_refl _, hH, fun i h1 h2 => by omega, Or.inl (by omega)⟩
    have d := cv_nle (a := (gI o 29).toInt) (b := 0) rfl (by decide) d
    obtain ⟨m, rfl⟩ : ∃ m, n = m + 1 := ⟨n - 1, by omega⟩
    have t1 : ((gI o 29) - (1 : Int32)).toInt = (m : Int) := by
      have t : ((gI o 29) - (1 : Int32)).toInt = (gI o 29).toInt - 1 := i32_sub rfl (by decide) (by omega) (by omega)
      omega
    have n1 := tnc_eq t1
    refine wp_gd (zin_of (m := 400) rfl (by omega) (by omega)) ?_
    rw [n1]
    refine wp_bd (Q := fun z => z = bd (gA o 27 m)) ⟨_, binds_eq _, rfl⟩ (fun z2 hz2 => ?_)
    refine wp_if (fun c2 => ?_) (fun c2 => ?_)
    · have c2 := cv_lt (a := z2.toInt) (b := ls.toInt) rfl rfl c2
      exact wp_some ⟨hB, rfl, rfl, ⟨rfl, rfl, rfl, rfl, rfl, rfl⟩, c, m + 1, ⟨p1, p2, p3, p4, p5, p6⟩, Nat.le_refl _, Nat.le_refl _, hH, fun i h1 h2 => by omega, Or.inr (by show (bd (gA o 27 m)).toInt < ls.toInt; rw [← hz2]; exact c2)⟩
    have c2 := cv_nlt (a := z2.toInt) (b := ls.toInt) rfl rfl c2
    rw [hz2] at c2
    have r5 := p5 m (by omega)
    have bdr := bd_rg r5.1
    refine wp_lt (fun o3 e3 => ?_)
    have k29 : (gI o3 29).toInt = (m : Int) := by rw [e3]; exact t1
    have n29 := tnc_eq k29
    have hB3 : BC a o0 o3 := by
      rw [e3]
      exact ⟨ipX9_29 hB.1 ⟨by omega, by omega⟩, hB.2.1.trans (Kp.sI (by decide)), hB.2.2.1, hB.2.2.2.1, hB.2.2.2.2⟩
    have g27 : gA o3 27 = gA o 27 := by rw [e3]; rfl
    have g28 : gA o3 28 = gA o 28 := by rw [e3]; rfl
    have g24 : gA o3 24 = gA o 24 := by rw [e3]; rfl
    have g25 : gA o3 25 = gA o 25 := by rw [e3]; rfl
    have g23 : gI o3 23 = gI o 23 := by rw [e3]; rfl
    have s3 : SM o o3 := by rw [e3]; exact ⟨rfl, rfl, rfl, rfl, rfl, rfl⟩
    have z29 : zin (gI o3 29) 400 = true := zin_of (m := 400) rfl (by omega) (by omega)
    have fin : ∀ (y : Ob) (c1 : Nat), BC a o0 y → gA y 27 = gA o 27 → gA y 28 = gA o 28 → SM o y → PZ a c1 m y → c1 ≤ c + 1 → (g → HO a c1 m 1 y) → wp (lp_X9_settle_0 N (ls, y)) (fun y => BC a o0 y ∧ gA y 27 = gA o 27 ∧ gA y 28 = gA o 28 ∧ SM o y ∧ ∃ c' n' : Nat, PZ a c' n' y ∧ n' ≤ m + 1 ∧ c' + n' ≤ c + (m + 1) ∧ (g → HO a c' n' 1 y) ∧ (∀ i, n' ≤ i → i < m + 1 → ls.toInt ≤ (bd (gA o 27 i)).toInt) ∧ (n' = 0 ∨ (bd (gA o 27 (n' - 1))).toInt < ls.toInt)) := by
      intro y c1 q1 q2 q3 q4 q5 q5b q6
      refine wp_mono (ih y c1 m q1 q5 q6 (by omega)) (fun w hw => ?_)
      obtain ⟨w1, w2, w3, w4, c', n', w5, w6, w6b, w7, w8, w9⟩ := hw
      rw [q2] at w2 w8 w9
      rw [q3] at w3
      refine ⟨w1, w2, w3, q4.tr w4, c', n', w5, by omega, by omega, w7, fun i h1 h2 => ?_, w9⟩
      rcases (show i < m ∨ i = m by omega) with h | h
      · exact w8 i h1 h
      · rw [h]; exact c2
    have h63 : BO (gA o 27 m) → wp (bk_X9_settle_63 (lp_X9_settle_0 N) ls o3) (fun y => BC a o0 y ∧ gA y 27 = gA o 27 ∧ gA y 28 = gA o 28 ∧ SM o y ∧ ∃ c' n' : Nat, PZ a c' n' y ∧ n' ≤ m + 1 ∧ c' + n' ≤ c + (m + 1) ∧ (g → HO a c' n' 1 y) ∧ (∀ i, n' ≤ i → i < m + 1 → ls.toInt ≤ (bd (gA o 27 i)).toInt) ∧ (n' = 0 ∨ (bd (gA o 27 (n' - 1))).toInt < ls.toInt)) := by
      intro hbo
      obtain ⟨k, ek, hk1, hk2⟩ := p6 m (by omega) hbo
      have nk := tnc_eq ek
      unfold bk_X9_settle_63
      refine wp_gd z29 ?_
      rw [n29, g28, nk, g23]
      refine wp_gd (zin_of (m := 400) rfl (by omega) (by omega)) ?_
      refine wp_lt (fun o7 e7 => ?_)
      refine fin o7 c ?_ (by rw [e7]; exact g27) (by rw [e7]; exact g28) (by rw [e7]; exact s3) ?_ (by omega) (fun hg => ?_)
      · rw [e7]
        refine ⟨hB3.1, hB3.2.1.trans (Kp.tA (by decide) (by decide)), hB3.2.2.1, hB3.2.2.2.1, fun j hj => ?_, hB3.2.2.2.2.2⟩
        have q := hB3.2.2.2.2.1 j hj
        refine ⟨q.1, ?_⟩
        show upd (gA o3 25) k (gI o 23) j = _
        rw [upd_n (by omega)]; exact q.2
      · rw [e7]
        refine ⟨(congrArg Int32.toInt g23).trans p1, k29, p3, ?_, fun i hi => ?_, fun i hi hb => ?_⟩
        · show (c : Int) + (m : Int) ≤ (gI o3 14).toInt
          rw [s3.1]; omega
        · show 20 ≤ (gA o3 27 i).toInt ∧ (gA o3 27 i).toInt ≤ 32
          rw [g27]; exact p5 i (by omega)
        · have hb : BO (gA o3 27 i) := hb
          rw [g27] at hb
          show ∃ k : Nat, (gA o3 28 i).toInt = (k : Int) ∧ a ≤ k ∧ k < c
          rw [g28]; exact p6 i (by omega) hb
      · have q := (hH hg).land (gI o 23) p1 k ek hbo
        rw [e7]
        show HT a c m 1 (gA o3 24) (upd (gA o3 25) k (gI o 23)) (gA o3 27) (gA o3 28)
        rw [g24, g25, g27, g28]; exact q
    refine wp_gd z29 ?_
    rw [n29, g27]
    refine wp_if (fun c3 => h63 (Or.inl (cv_eq (a := (gA o 27 m).toInt) (b := 29) rfl (by decide) c3))) (fun c3 => ?_)
    refine wp_gd z29 ?_
    refine wp_if (fun c4 => h63 (Or.inr (cv_eq (a := (gA o 27 m).toInt) (b := 30) rfl (by decide) c4))) (fun c4 => ?_)
    have c3 := cv_ne (a := (gA o 27 m).toInt) (b := 29) rfl (by decide) c3
    have c4 := cv_ne (a := (gA o 27 m).toInt) (b := 30) rfl (by decide) c4
    refine wp_gd z29 ?_
    have e23 : (gI o3 23).toInt = (c : Int) := by rw [g23]; exact p1
    have hc : c < 400 := by omega
    refine wp_bd (Q := fun z => z = sI (tA (tA o3 24 c (gA o 27 m)) 25 c 0) 23 ((gI o3 23) + 1)) (w_emit o3 c e23 hc _ _ rfl) (fun z10 hz10 => ?_)
    have t23 : ((gI o3 23) + (1 : Int32)).toInt = ((c + 1 : Nat) : Int) := by
      have t : ((gI o3 23) + (1 : Int32)).toInt = (c : Int) + 1 := i32_add e23 (by decide) (by omega) (by omega)
      omega
    refine fin z10 (c + 1) (by rw [hz10]; exact hB3.emit e23 p3 hc _ _) (by rw [hz10]; exact g27) (by rw [hz10]; exact g28) (by rw [hz10]; exact s3) ?_ (by omega) (fun hg => ?_)
    · rw [hz10]
      refine ⟨t23, k29, by omega, ?_, fun i hi => ?_, fun i hi hb => ?_⟩
      · show ((c + 1 : Nat) : Int) + (m : Int) ≤ (gI o3 14).toInt
        rw [s3.1]; omega
      · show 20 ≤ (gA o3 27 i).toInt ∧ (gA o3 27 i).toInt ≤ 32
        rw [g27]; exact p5 i (by omega)
      · have hb : BO (gA o3 27 i) := hb
        rw [g27] at hb
        obtain ⟨k, q1, q2, q3⟩ := p6 i (by omega) hb
        exact ⟨k, by show (gA o3 28 i).toInt = _; rw [g28]; exact q1, q2, by omega⟩
    · rw [hz10]
      show HT a (c + 1) m 1 (upd (gA o3 24) c (gA o 27 m)) (upd (gA o3 25) c 0) (gA o3 27) (gA o3 28)
      rw [g24, g25, g27, g28]
      by_cases c5 : (gA o 27 m).toInt ≤ 27
      · exact (hH hg).bin p3 0 r5.1 c5
      · refine (hH hg).neg p3 0 ?_
        have b7 := bdr.2.2.2.2.2.2
        omega
theorem w_settle (a : Nat) (o0 : Ob) (g : Prop) (ls : Int32) (hls : 1 ≤ ls.toInt) (o : Ob) (c n : Nat) (hB : BC a o0 o) (hP : PZ a c n o) (hH : g → HO a c n 1 o) :
    wp (f_X9_settle o ls) (fun y => BC a o0 y ∧ gA y 27 = gA o 27 ∧ gA y 28 = gA o 28 ∧ SM o y ∧ ∃ c' n' : Nat, PZ a c' n' y ∧ n' ≤ n ∧ c' + n' ≤ c + n ∧ (g → HO a c' n' 1 y) ∧ (∀ i, n' ≤ i → i < n → ls.toInt ≤ (bd (gA o 27 i)).toInt) ∧ (n' = 0 ∨ (bd (gA o 27 (n' - 1))).toInt < ls.toInt)) := by
  have rg := hB.rg
  have p4 := hP.2.2.2.1
  exact h_settle a o0 g ls hls zfu o c n hB hP hH (by show n < 100000; omega)
-- what inner() says
def BR (n : Nat) (pile : Nat → Int32) : Prop := ∀ j i, j < i → i < n → (pile j).toInt = 32 → (pile i).toInt ≤ 24 ∨ (pile i).toInt = 32
def NS (n : Nat) (pile : Nat → Int32) : Prop := ∀ i, i < n → (pile i).toInt ≠ 32
theorem h_inner4 (o : Ob) (n : Nat) (e : (gI o 29).toInt = (n : Int)) (hn : n ≤ 400) (h5 : ∀ i, i < n → 20 ≤ (gA o 27 i).toInt ∧ (gA o 27 i).toInt ≤ 32) (hbr : BR n (gA o 27)) :
    ∀ (N : Nat) (v1 v2 : Int32) (k : Nat), v2.toInt = (k : Int) → k ≤ n → ((∃ j, j < k ∧ (gA o 27 j).toInt = 32) → v1.toInt = 32) → (v1.toInt = 32 → ∃ j, j < k ∧ (gA o 27 j).toInt = 32) → (v1.toInt = -1 ∨ ∃ j, j < k ∧ 31 ≤ (gA o 27 j).toInt) → (v1.toInt = -1 → ∀ j, j < k → (gA o 27 j).toInt < 31) → n < N + k →
      wp (lp_X9_inner_4 o N (v1, v2)) (fun y => (¬ y.toInt = 32 → NS n (gA o 27)) ∧ (y.toInt = 32 → ∃ j, j < n ∧ (gA o 27 j).toInt = 32) ∧ (y.toInt = -1 ∨ ∃ j, j < n ∧ 31 ≤ (gA o 27 j).toInt) ∧ (y.toInt = -1 → ∀ j, j < n → (gA o 27 j).toInt < 31)) := by
  intro N
  induction N with
  | zero => intro v1 v2 k _ _ _ _ _ _ _; exfalso; omega
  | succ N ih =>
    intro v1 v2 k e2 hk i1 i2 i3 i4 hN
    show wp (lb_X9_inner_4 o (lp_X9_inner_4 o N) v1 v2) _
    unfold lb_X9_inner_4
    refine wp_if (fun c => ?_) (fun c => ?_)
    · have c := cv_le (a := (gI o 29).toInt) (b := v2.toInt) rfl rfl c
      have ek : k = n := by omega
      subst ek
      exact wp_some ⟨fun h i hi e32 => h (i1 ⟨i, hi, e32⟩), i2, i3, i4⟩
    have c := cv_nle (a := (gI o 29).toInt) (b := v2.toInt) rfl rfl c
    have n2 := tnc_eq e2
    have h33 : ∀ s0 : Int32, (((∃ j, j < k + 1 ∧ (gA o 27 j).toInt = 32) → s0.toInt = 32) ∧ (s0.toInt = 32 → ∃ j, j < k + 1 ∧ (gA o 27 j).toInt = 32) ∧ (s0.toInt = -1 ∨ ∃ j, j < k + 1 ∧ 31 ≤ (gA o 27 j).toInt) ∧ (s0.toInt = -1 → ∀ j, j < k + 1 → (gA o 27 j).toInt < 31)) → wp (bk_X9_inner_33 o (lp_X9_inner_4 o N) v2 s0) (fun y => (¬ y.toInt = 32 → NS n (gA o 27)) ∧ (y.toInt = 32 → ∃ j, j < n ∧ (gA o 27 j).toInt = 32) ∧ (y.toInt = -1 ∨ ∃ j, j < n ∧ 31 ≤ (gA o 27 j).toInt) ∧ (y.toInt = -1 → ∀ j, j < n → (gA o 27 j).toInt < 31)) := by
      intro s0 hs
      unfold bk_X9_inner_33
      refine wp_lt (fun x2 ex => ?_)
      have tx : x2.toInt = ((k + 1 : Nat) : Int) := by
        have t : x2.toInt = (k : Int) + 1 := by rw [ex]; exact i32_add e2 (by decide) (by omega) (by omega)
        omega
      exact ih s0 x2 (k + 1) tx (by omega) hs.1 hs.2.1 hs.2.2.1 hs.2.2.2 (by omega)
    refine wp_gd (zin_of (m := 400) rfl (by omega) (by omega)) ?_
    rw [n2]
    refine wp_if (fun c2 => ?_) (fun c2 => ?_)
    · have c2 := cv_lt (a := (gA o 27 k).toInt) (b := 31) rfl (by decide) c2
      refine h33 v1 ⟨fun ⟨j, hj, ej⟩ => ?_, fun h => ?_, ?_, fun h j hj => ?_⟩
      · rcases (show j < k ∨ j = k by omega) with g | g
        · exact i1 ⟨j, g, ej⟩
        · subst g; omega
      · obtain ⟨j, hj, ej⟩ := i2 h; exact ⟨j, by omega, ej⟩
      · rcases i3 with h | ⟨j, hj, ej⟩
        · exact Or.inl h
        · exact Or.inr ⟨j, by omega, ej⟩
      · rcases (show j < k ∨ j = k by omega) with g | g
        · exact i4 h j g
        · subst g; exact c2
    · have c2 := cv_nlt (a := (gA o 27 k).toInt) (b := 31) rfl (by decide) c2
      refine wp_gd (zin_of (m := 400) rfl (by omega) (by omega)) ?_
      refine h33 (gA o 27 k) ⟨fun ⟨j, hj, ej⟩ => ?_, fun h => ⟨k, by omega, h⟩, Or.inr ⟨k, by omega, c2⟩, fun h => by omega⟩
      rcases (show j < k ∨ j = k by omega) with g | g
      · have := hbr j k g (by omega) ej; omega
      · subst g; exact ej
theorem w_inner (a c n : Nat) (o : Ob) (hP : PZ a c n o) (hn : n ≤ 400) (hbr : BR n (gA o 27)) : wp (f_X9_inner o) (fun y => (¬ y.toInt = 32 → NS n (gA o 27)) ∧ (y.toInt = 32 → ∃ j, j < n ∧ (gA o 27 j).toInt = 32) ∧ (y.toInt = -1 ∨ ∃ j, j < n ∧ 31 ≤ (gA o 27 j).toInt) ∧ (y.toInt = -1 → ∀ j, j < n → (gA o 27 j).toInt < 31)) := by
  have m1 : (-1 : Int32).toInt = -1 := by decide
  refine h_inner4 o n hP.2.1 hn hP.2.2.2.2.1 hbr zfu (-1) 0 0 (by decide) (Nat.zero_le _) (fun ⟨j, hj, _⟩ => absurd hj (Nat.not_lt_zero _)) (fun h => by omega) (Or.inl m1) (fun _ j hj => absurd hj (Nat.not_lt_zero _)) (by show n < 100000 + 0; omega)
def MS (o y : Ob) : Prop := gA y 24 = gA o 24 ∧ gA y 25 = gA o 25 ∧ gA y 27 = gA o 27 ∧ gA y 28 = gA o 28 ∧ gI y 23 = gI o 23 ∧ gI y 29 = gI o 29 ∧ gI y 20 = gI o 20 ∧ gI y 26 = gI o 26
theorem PZ.ms {a c n : Nat} {o y : Ob} (h : PZ a c n o) (m : MS o y) (hf : (gI o 14).toInt ≤ (gI y 14).toInt) : PZ a c n y := by
  obtain ⟨p1, p2, p3, p4, p5, p6⟩ := h
  obtain ⟨m1, m2, m3, m4, m5, m6, m7, m8⟩ := m
  refine ⟨by rw [m5]; exact p1, by rw [m6]; exact p2, p3, by omega, ?_, ?_⟩
  · rw [m3]; exact p5
  · rw [m3, m4]; exact p6
theorem HO.ms {a c n cc : Nat} {o y : Ob} (h : HO a c n cc o) (m : MS o y) : HO a c n cc y := by
  unfold HO at h ⊢
  rw [m.1, m.2.1, m.2.2.1, m.2.2.2.1]; exact h
theorem w_must (a : Nat) (o0 o : Ob) (b : Int32) (hB : BC a o0 o) (h0 : gI o 19 = 0) : wp (f_X9_must o b) (fun y => BC a o0 y ∧ MS o y ∧ ((gI y 19 = 0 ∧ ¬ b = 0 ∧ (gI o 15).toInt ≤ (gI y 14).toInt) ∨ (gI y 19 = 1 ∧ gI y 14 = gI o 14))) := by
  refine wp_mono (h_must o b hB.1 hB.2.2.1 hB.2.2.2.1 h0) (fun y hy => ?_)
  obtain ⟨g1, g2, g3, g4, g5⟩ := hy
  have fr : (gI o0 14).toInt ≤ (gI y 14).toInt := by
    have u1 := hB.2.2.2.1.1
    have u2 := hB.2.2.2.2.2
    rcases g5 with ⟨_, _, g⟩ | ⟨_, g⟩
    · omega
    · rw [g]; exact u2
  refine ⟨⟨g1, hB.2.1.trans (g2.mono (by decide) (by decide) (by decide)), g3, g4, fun k hk => ?_, fr⟩, ⟨g2.2.1 24 (by decide), g2.2.1 25 (by decide), g2.2.1 27 (by decide), g2.2.1 28 (by decide), g2.1 23 (by decide), g2.1 29 (by decide), g2.1 20 (by decide), g2.1 26 (by decide)⟩, g5⟩
  rw [g2.2.1 24 (by decide), g2.2.1 25 (by decide)]; exact hB.2.2.2.2.1 k hk
theorem w_next (a : Nat) (o0 o : Ob) (hB : BC a o0 o) : wp (f_X9_next o) (fun y => BC a o0 y ∧ MS o y ∧ gI y 19 = gI o 19 ∧ (gI o 15).toInt ≤ (gI y 14).toInt) := by
  refine wp_mono (h_next o hB.1 hB.2.2.1) (fun y hy => ?_)
  obtain ⟨g1, g2, g3, g4, g5⟩ := hy
  have fr : (gI o0 14).toInt ≤ (gI y 14).toInt := by
    have u1 := hB.2.2.2.1.1
    have u2 := hB.2.2.2.2.2
    omega
  refine ⟨⟨g1, hB.2.1.trans (g2.mono (by decide) (by decide) (by decide)), g3, g4, fun k hk => ?_, fr⟩, ⟨g2.2.1 24 (by decide), g2.2.1 25 (by decide), g2.2.1 27 (by decide), g2.2.1 28 (by decide), g2.1 23 (by decide), g2.1 29 (by decide), g2.1 20 (by decide), g2.1 26 (by decide)⟩, g2.1 19 (by decide), g5⟩
  rw [g2.2.1 24 (by decide), g2.2.1 25 (by decide)]; exact hB.2.2.2.2.1 k hk
theorem w_sign (o : Ob) (p : Int32) : wp (f_X9_isSign o p) (fun y => ¬ y = 0 → ¬ gI o 16 = 0) := by
  unfold f_X9_isSign
  refine wp_if (fun c => ?_) (fun c => wp_some (fun h => absurd rfl h))
  exact wp_if (fun _ => wp_some (fun _ => by rw [c]; decide)) (fun _ => wp_some (fun h => absurd rfl h))
theorem w_word (o : Ob) (p : Int64) : wp (f_X9_isWord o p) (fun y => ¬ y = 0 → gI o 16 = 1 ∧ gL o 17 = p) := by
  unfold f_X9_isWord
  refine wp_if (fun c => ?_) (fun c => wp_some (fun h => absurd rfl h))
  exact wp_if (fun d => wp_some (fun _ => ⟨c, (lg_cmp_eq _ _).mp d⟩)) (fun _ => wp_some (fun h => absurd rfl h))
def ST (a : Nat) (t : Int32) (o : Ob) : Prop := ∃ c n : Nat, PZ a c n o ∧ HO a c n (if t = 0 ∨ t = 1 then 0 else 1) o ∧ BR n (gA o 27) ∧ (t = 0 ∨ t = 2 → NS n (gA o 27)) ∧ (t = 4 → ∀ i, i < n → (gA o 27 i).toInt < 31)
def SP (a : Nat) (o0 o : Ob) (t : Int32) (y : Int32 × Ob) : Prop := BC a o0 y.2 ∧ (y.1 = 0 ∨ y.1 = 1 ∨ y.1 = 2 ∨ y.1 = 3 ∨ y.1 = 4) ∧ ((gI y.2 19 = 0 ∧ ST a y.1 y.2 ∧ (y.1 = 4 ∨ (gI o 14).toInt < (gI y.2 14).toInt ∨ (t = 3 ∧ y.1 = 2 ∧ gI y.2 14 = gI o 14))) ∨ (gI y.2 19 = 1 ∧ ∃ c n : Nat, PZ a c n y.2))
theorem w_leaf (a : Nat) (o0 o : Ob) (c n : Nat) (hB : BC a o0 o) (h0 : gI o 19 = 0) (hP : PZ a c n o) (hH : HO a c n 0 o) (p v w : Int32) (hs : ¬ p = 0 → ¬ gI o 16 = 0) (v0 : 0 ≤ v.toInt) (v9 : v.toInt ≤ 9) :
    wp (f_X9_leaf o p v w) (fun y => BC a o0 y ∧ gA y 27 = gA o 27 ∧ ((gI y 19 = 0 ∧ PZ a (c + 1) n y ∧ HO a (c + 1) n 1 y ∧ (gA y 24 c).toInt ≤ 9 ∧ (gI o 14).toInt < (gI y 14).toInt) ∨ (gI y 19 = 1 ∧ PZ a c n y))) := by
  have b26 := igX9_26 hB.1
  have h19 : ∀ s0 : Int32, (¬ s0 = 0 → ¬ p = 0 ∧ (gI o 26).toInt < 50) → wp (bk_X9_leaf_19 v w s0 o) (fun y => BC a o0 y ∧ gA y 27 = gA o 27 ∧ ((gI y 19 = 0 ∧ PZ a (c + 1) n y ∧ HO a (c + 1) n 1 y ∧ (gA y 24 c).toInt ≤ 9 ∧ (gI o 14).toInt < (gI y 14).toInt) ∨ (gI y 19 = 1 ∧ PZ a c n y))) := by
    intro s0 hs0
    unfold bk_X9_leaf_19
    refine wp_bd (w_must a o0 o s0 hB h0) (fun z hz => ?_)
    obtain ⟨g1, g2, g3⟩ := hz
    have k27 := g2.2.2.1
    rcases g3 with ⟨g3, g4, g5⟩ | ⟨g3, g4⟩
    · refine wp_if (fun _ => ?_) (fun d => absurd g3 d)
      have q := hs0 g4
      have htk := hB.2.2.2.1.2.1 (hs q.1)
      have hP1 := hP.ms g2 (by omega)
      have hH1 := hH.ms g2
      have rg := g1.rg
      have p4 := hP.2.2.2.1
      have hc : c < 400 := by omega
      refine wp_bd (Q := fun y => y = sI (tA (tA z 24 c v) 25 c w) 23 ((gI z 23) + 1)) (w_emit z c hP1.1 hc _ _ rfl) (fun z2 hz2 => ?_)
      have hB2 : BC a o0 z2 := by rw [hz2]; exact g1.emit hP1.1 hP1.2.2.1 hc v w
      have t26 : ((gI z2 26) + (1 : Int32)).toInt = (gI o 26).toInt + 1 := i32_add (by rw [hz2]; exact congrArg Int32.toInt g2.2.2.2.2.2.2.2) (by decide) (by omega) (by omega)
      refine wp_lt (fun o3 e3 => ?_)
      have t23 : ((gI z 23) + (1 : Int32)).toInt = ((c + 1 : Nat) : Int) := by
        have t : ((gI z 23) + (1 : Int32)).toInt = (c : Int) + 1 := i32_add hP1.1 (by decide) (by omega) (by omega)
        omega
      refine wp_some ⟨?_, ?_, Or.inl ⟨?_, ?_, ?_, ?_, ?_⟩⟩
      · rw [e3]; exact ⟨ipX9_26 hB2.1 ⟨by omega, by omega⟩, hB2.2.1.trans (Kp.sI (by decide)), hB2.2.2.1, hB2.2.2.2.1, hB2.2.2.2.2⟩
      · rw [e3, hz2]; exact k27
      · rw [e3, hz2]; exact g3
      · rw [e3, hz2]
        refine ⟨t23, hP1.2.1, by have := hP1.2.2.1; omega, ?_, hP1.2.2.2.2.1, fun i hi hb => ?_⟩
        · show ((c + 1 : Nat) : Int) + (n : Int) ≤ (gI z 14).toInt
          omega
        · obtain ⟨k, q1, q2, q3⟩ := hP1.2.2.2.2.2 i hi hb
          exact ⟨k, q1, q2, by omega⟩
      · rw [e3, hz2]
        exact hH1.leaf hP1.2.2.1 v w v0 v9
      · rw [e3, hz2]
        show (upd (gA z 24) c v c).toInt ≤ 9
        rw [upd_s]; exact v9
      · rw [e3, hz2]
        show (gI o 14).toInt < (gI z 14).toInt
        omega
    · refine wp_if (fun d => absurd (g3.symm.trans d) (by decide)) (fun _ => ?_)
      exact wp_some ⟨g1, k27, Or.inr ⟨g3, hP.ms g2 (by rw [g4]; exact Int.le_refl _)⟩⟩
  have h18 : wp (bk_X9_leaf_18 v w o) (fun y => BC a o0 y ∧ gA y 27 = gA o 27 ∧ ((gI y 19 = 0 ∧ PZ a (c + 1) n y ∧ HO a (c + 1) n 1 y ∧ (gA y 24 c).toInt ≤ 9 ∧ (gI o 14).toInt < (gI y 14).toInt) ∨ (gI y 19 = 1 ∧ PZ a c n y))) := h19 0 (fun h => absurd rfl h)
  unfold f_X9_leaf
  refine wp_if (fun _ => h18) (fun c1 => ?_)
  refine wp_if (fun _ => h18) (fun c2 => ?_)
  have c2 := cv_nle (a := 50) (b := (gI o 26).toInt) (by decide) rfl c2
  exact h19 1 (fun _ => ⟨c1, c2⟩)
theorem w_open (a : Nat) (o0 o : Ob) (c n : Nat) (hB : BC a o0 o) (h0 : gI o 19 = 0) (hP : PZ a c n o) (hH : HO a c n 0 o) (v : Int32) (hs : ¬ gI o 16 = 0) (hv : 31 ≤ v.toInt) (hv2 : v.toInt ≤ 32) :
    wp (f_X9_openBracket o v) (fun y => BC a o0 y ∧ ((gI y 19 = 0 ∧ PZ a c (n + 1) y ∧ HO a c (n + 1) 0 y ∧ gA y 27 = upd (gA o 27) n v ∧ (gI o 14).toInt < (gI y 14).toInt) ∨ (gI y 19 = 1 ∧ PZ a c n y))) := by
  have h15 : ∀ s0 : Int32, wp (bk_X9_openBracket_15 v s0 o) (fun y => BC a o0 y ∧ ((gI y 19 = 0 ∧ PZ a c (n + 1) y ∧ HO a c (n + 1) 0 y ∧ gA y 27 = upd (gA o 27) n v ∧ (gI o 14).toInt < (gI y 14).toInt) ∨ (gI y 19 = 1 ∧ PZ a c n y))) := by
    intro s0
    unfold bk_X9_openBracket_15
    refine wp_bd (w_must a o0 o s0 hB h0) (fun z hz => ?_)
    obtain ⟨g1, g2, g3⟩ := hz
    rcases g3 with ⟨g3, g4, g5⟩ | ⟨g3, g4⟩
    · refine wp_if (fun _ => ?_) (fun d => absurd g3 d)
      have htk := hB.2.2.2.1.2.1 hs
      have hP1 := hP.ms g2 (by omega)
      have hH1 := hH.ms g2
      have rg := g1.rg
      have p4 := hP.2.2.2.1
      refine wp_lt (fun o2 e2 => ?_)
      have hB2 : BC a o0 o2 := by rw [e2]; exact ⟨g1.1, g1.2.1.trans (Kp.sI (by decide)), g1.2.2.1, g1.2.2.2.1, g1.2.2.2.2⟩
      have e29 : (gI o2 29).toInt = (n : Int) := by rw [e2]; exact hP1.2.1
      refine wp_bd (Q := fun y => y = sI (tA (tA o2 27 n v) 28 n 0) 29 ((gI o2 29) + 1)) (w_push o2 n e29 (by omega) _ _ rfl) (fun z3 hz3 => ?_)
      have t29 : ((gI o2 29) + (1 : Int32)).toInt = ((n + 1 : Nat) : Int) := by
        have t : ((gI o2 29) + (1 : Int32)).toInt = (n : Int) + 1 := i32_add e29 (by decide) (by omega) (by omega)
        omega
      refine wp_some ⟨by rw [hz3]; exact hB2.push e29 (by omega) v 0, Or.inl ⟨?_, ?_, ?_, ?_, ?_⟩⟩
      · rw [hz3, e2]; exact g3
      · rw [hz3]
        refine ⟨by rw [e2]; exact hP1.1, t29, hP1.2.2.1, ?_, fun i hi => ?_, fun i hi hb => ?_⟩
        · show (c : Int) + ((n + 1 : Nat) : Int) ≤ (gI o2 14).toInt
          rw [e2]
          show (c : Int) + ((n + 1 : Nat) : Int) ≤ (gI z 14).toInt
          omega
        · show 20 ≤ (upd (gA o2 27) n v i).toInt ∧ (upd (gA o2 27) n v i).toInt ≤ 32
          by_cases e : i = n
          · subst e; rw [upd_s]; omega
          · rw [upd_n e, e2]; exact hP1.2.2.2.2.1 i (by omega)
        · have hb : BO (upd (gA o2 27) n v i) := hb
          show ∃ k : Nat, (upd (gA o2 28) n 0 i).toInt = (k : Int) ∧ a ≤ k ∧ k < c
          by_cases e : i = n
          · subst e; rw [upd_s] at hb; unfold BO at hb; omega
          · rw [upd_n e, e2] at hb
            rw [upd_n e, e2]; exact hP1.2.2.2.2.2 i (by omega) hb
      · rw [hz3, e2]
        exact hH1.pusho v 0 (Or.inr hv)
      · rw [hz3, e2]
        show upd (gA z 27) n v = _
        rw [g2.2.2.1]
      · rw [hz3, e2]
        show (gI o 14).toInt < (gI z 14).toInt
        omega
    · refine wp_if (fun d => absurd (g3.symm.trans d) (by decide)) (fun _ => ?_)
      exact wp_some ⟨g1, Or.inr ⟨g3, hP.ms g2 (by rw [g4]; exact Int.le_refl _)⟩⟩
  unfold f_X9_openBracket
  exact wp_if (fun _ => h15 _) (fun _ => h15 _)
theorem BR.up {n : Nat} {pile : Nat → Int32} (h : BR n pile) (v : Int32) (hv : NS n pile ∨ v.toInt ≤ 24 ∨ v.toInt = 32) : BR (n + 1) (upd pile n v) := by
  intro j i h1 h2 h3
  have ej : upd pile n v j = pile j := upd_n (by omega)
  rw [ej] at h3
  by_cases e : i = n
  · subst e
    rw [upd_s]
    rcases hv with hv | hv
    · exact absurd h3 (hv j h1)
    · exact hv
  · rw [upd_n e]; exact h j i h1 (by omega) h3
theorem NS.up {n : Nat} {pile : Nat → Int32} (h : NS n pile) (v : Int32) (hv : v.toInt ≠ 32) : NS (n + 1) (upd pile n v) := by
  intro i hi
  by_cases e : i = n
  · subst e; rw [upd_s]; exact hv
  · rw [upd_n e]; exact h i (by omega)
theorem part_n (o : Ob) (hs : ¬ gI o 16 = 1) : ∀ (N : Nat) (v1 v2 y : Int32), v1 = -1 → lp_X9_partAt_4 o N (v1, v2) = some y → y = -1 := by
  intro N
  induction N with
  | zero => intro v1 v2 y _ h; cases h
  | succ N ih =>
    intro v1 v2 y e h
    have h : lb_X9_partAt_4 o (lp_X9_partAt_4 o N) v1 v2 = some y := h
    unfold lb_X9_partAt_4 at h
    by_cases c : (9 : Int32) ≤ v2
    · have h := z_t h c; exact (Option.some.inj h).symm.trans e
    · have h := z_f h c
      obtain ⟨-, h⟩ := z_gd h
      obtain ⟨z, ez, h⟩ := z_bd h
      have e0 : z = 0 := by
        unfold f_X9_isWord at ez
        exact (Option.some.inj (z_f ez hs)).symm
      have h := z_t h e0
      unfold bk_X9_partAt_30 at h
      exact ih v1 _ y e h
theorem opart_n (o : Ob) (hs : ¬ gI o 16 = 1) : ∀ (N : Nat) (v1 v2 y : Int32), v1 = -1 → lp_X9_orderPartAt_4 o N (v1, v2) = some y → y = -1 := by
  intro N
  induction N with
  | zero => intro v1 v2 y _ h; cases h
  | succ N ih =>
    intro v1 v2 y e h
    have h : lb_X9_orderPartAt_4 o (lp_X9_orderPartAt_4 o N) v1 v2 = some y := h
    unfold lb_X9_orderPartAt_4 at h
    by_cases c : (7 : Int32) ≤ v2
    · have h := z_t h c; exact (Option.some.inj h).symm.trans e
    · have h := z_f h c
      obtain ⟨-, h⟩ := z_gd h
      obtain ⟨z, ez, h⟩ := z_bd h
      have e0 : z = 0 := by
        unfold f_X9_isWord at ez
        exact (Option.some.inj (z_f ez hs)).symm
      have h := z_t h e0
      unfold bk_X9_orderPartAt_30 at h
      exact ih v1 _ y e h
theorem w_partAt (o : Ob) (hI : IvX9 o) : wp (f_X9_partAt o) (fun y => (-1 ≤ y.toInt ∧ y.toInt ≤ 9) ∧ (¬ y = -1 → gI o 16 = 1)) := by
  obtain ⟨y, e, h⟩ := s_X9_partAt o hI
  refine ⟨y, e, h, fun g => ?_⟩
  by_cases c : gI o 16 = 1
  · exact c
  · exact absurd (part_n o c _ _ _ y rfl e) g
theorem w_opartAt (o : Ob) (hI : IvX9 o) : wp (f_X9_orderPartAt o) (fun y => (-1 ≤ y.toInt ∧ y.toInt ≤ 9) ∧ (¬ y = -1 → gI o 16 = 1)) := by
  obtain ⟨y, e, h⟩ := s_X9_orderPartAt o hI
  refine ⟨y, e, ⟨h.1, by omega⟩, fun g => ?_⟩
  by_cases c : gI o 16 = 1
  · exact c
  · exact absurd (opart_n o c _ _ _ y rfl e) g
theorem w_number (a : Nat) (o0 o : Ob) (p q : Int64) (hB : BC a o0 o) (h0 : gI o 19 = 0) : wp (f_X9_number o p q) (fun y => BC a o0 y.2 ∧ MS o y.2 ∧ ((gI y.2 19 = 0 ∧ (gI o 15).toInt ≤ (gI y.2 14).toInt) ∨ (gI y.2 19 = 1 ∧ gI y.2 14 = gI o 14))) := by
  have h33 : ∀ x s0 : Int32, wp (bk_X9_number_33 x s0 o) (fun y => BC a o0 y.2 ∧ MS o y.2 ∧ ((gI y.2 19 = 0 ∧ (gI o 15).toInt ≤ (gI y.2 14).toInt) ∨ (gI y.2 19 = 1 ∧ gI y.2 14 = gI o 14))) := by
    intro x s0
    unfold bk_X9_number_33
    refine wp_bd (w_must a o0 o s0 hB h0) (fun z hz => wp_some ⟨hz.1, hz.2.1, ?_⟩)
    rcases hz.2.2 with ⟨g1, -, g3⟩ | g
    · exact Or.inl ⟨g1, g3⟩
    · exact Or.inr g
  unfold f_X9_number
  refine wp_lt (fun x1 _ => ?_)
  refine wp_if (fun _ => ?_) (fun _ => h33 x1 0)
  refine wp_bd (s_X9_in _ _ _) (fun z3 _ => ?_)
  exact wp_if (fun _ => h33 x1 0) (fun _ => h33 x1 1)
theorem w_readPart (a : Nat) (o0 o : Ob) (t : Int32) (hB : BC a o0 o) (h0 : gI o 19 = 0) (hS : ST a t o) (ht : t = 0 ∨ t = 1) : wp (f_X9_readPart o) (SP a o0 o t) := by
  obtain ⟨c, n, hP, hH, hbr, hns, -⟩ := hS
  rw [if_pos ht] at hH
  have h99 : ∀ v1 s0 s1 s2 : Int32, 0 ≤ s1.toInt → s1.toInt ≤ 9 → (¬ s2 = 0 → ¬ gI o 16 = 0) → wp (bk_X9_readPart_99 v1 s0 s1 s2 o) (SP a o0 o t) := by
    intro v1 s0 s1 s2 g0 g9 gs
    unfold bk_X9_readPart_99
    refine wp_bd (w_leaf a o0 o c n hB h0 hP hH s2 s1 s0 gs g0 g9) (fun z hz => ?_)
    obtain ⟨w1, w2, w3⟩ := hz
    have fin : SP a o0 o t (3, z) := by
      refine ⟨w1, Or.inr (Or.inr (Or.inr (Or.inl rfl))), ?_⟩
      rcases w3 with ⟨q1, q2, q3, q4, q5⟩ | ⟨q1, q2⟩
      · refine Or.inl ⟨q1, ⟨c + 1, n, q2, q3, by rw [w2]; exact hbr, fun h => ?_, fun h => by first | exact absurd h (by decide) | (dsimp only at h; exact absurd h (by decide))⟩, Or.inr (Or.inl q5)⟩
        rcases h with h | h <;> first | exact absurd h (by decide) | (dsimp only at h; exact absurd h (by decide))
      · exact Or.inr ⟨q1, c, n, q2⟩
    refine wp_if (fun _ => wp_some fin) (fun _ => ?_)
    refine wp_if (fun _ => wp_some fin) (fun _ => ?_)
    refine wp_if (fun c9 => ?_) (fun _ => wp_some fin)
    rcases w3 with ⟨q1, q2, q3, q4, q5⟩ | ⟨q1, q2⟩
    · refine wp_lt (fun x4 e4 => ?_)
      have rg := w1.rg
      have p4 := q2.2.2.2.1
      have t4 : x4.toInt = (c : Int) := by
        have t : x4.toInt = ((c + 1 : Nat) : Int) - 1 := by rw [e4]; exact i32_sub q2.1 (by decide) (by omega) (by omega)
        omega
      have n4 := tnc_eq t4
      refine wp_bd (w_number a o0 z 0 6 w1 q1) (fun z5 hz5 => ?_)
      obtain ⟨y1, y2, y3⟩ := hz5
      refine wp_gd (zin_of (m := 400) rfl (by omega) (by omega)) ?_
      rw [n4]
      refine wp_lt (fun o7 e7 => ?_)
      have hfr : (gI z 14).toInt ≤ (gI z5.2 14).toInt := by
        have tk := w1.2.2.2.1.1
        rcases y3 with ⟨y3, y4⟩ | ⟨y3, y4⟩
        · omega
        · rw [y4]; exact Int.le_refl _
      have hPz := q2.ms y2 hfr
      have hB7 : BC a o0 o7 := by
        rw [e7]
        refine ⟨y1.1, y1.2.1.trans (Kp.tA (by decide) (by decide)), y1.2.2.1, y1.2.2.2.1, fun k hk => ?_, y1.2.2.2.2.2⟩
        have hac := hP.2.2.1
        have qq := y1.2.2.2.2.1 k hk
        refine ⟨qq.1, ?_⟩
        show upd (gA z5.2 25) c z5.1 k = _
        rw [upd_n (by omega)]; exact qq.2
      refine wp_some ⟨hB7, Or.inr (Or.inr (Or.inr (Or.inl rfl))), ?_⟩
      have hP7 : PZ a (c + 1) n o7 := by rw [e7]; exact hPz
      rcases y3 with ⟨y3, y4⟩ | ⟨y3, y4⟩
      · refine Or.inl ⟨by rw [e7]; exact y3, ⟨c + 1, n, hP7, ?_, ?_, fun h => ?_, fun h => by first | exact absurd h (by decide) | (dsimp only at h; exact absurd h (by decide))⟩, Or.inr (Or.inl ?_)⟩
        · rw [e7]
          exact (q3.ms y2).arg z5.1 (by rw [y2.1]; exact q4)
        · rw [e7]
          show BR n (gA z5.2 27)
          rw [y2.2.2.1, w2]; exact hbr
        · rcases h with h | h <;> first | exact absurd h (by decide) | (dsimp only at h; exact absurd h (by decide))
        · rw [e7]
          show (gI o 14).toInt < (gI z5.2 14).toInt
          omega
      · exact Or.inr ⟨by rw [e7]; exact y3, c + 1, n, hP7⟩
    · exact absurd (q1.symm.trans c9) (by decide)
  have h86 : ∀ v1 v2 s0 s1 : Int32, 0 ≤ s0.toInt → s0.toInt ≤ 9 → (¬ s1 = 0 → ¬ gI o 16 = 0) → wp (bk_X9_readPart_86 v1 v2 s0 s1 o) (SP a o0 o t) := by
    intro v1 v2 s0 s1 g0 g9 gs
    unfold bk_X9_readPart_86
    exact wp_if (fun _ => h99 _ _ _ _ g0 g9 gs) (fun _ => h99 _ _ _ _ g0 g9 gs)
  have h76 : ∀ v1 v2 s0 : Int32, -1 ≤ v1.toInt → v1.toInt ≤ 9 → (¬ s0 = 0 → ¬ gI o 16 = 0) → wp (bk_X9_readPart_76 v1 v2 s0 o) (SP a o0 o t) := by
    intro v1 v2 s0 g0 g9 gs
    unfold bk_X9_readPart_76
    refine wp_if (fun _ => h86 _ _ 0 s0 (by decide) (by decide) gs) (fun d => ?_)
    have d := cv_ne (a := v1.toInt) (b := -1) rfl (by decide) d
    exact h86 _ _ v1 s0 (by omega) g9 gs
  have h60 : ∀ v1 s0 : Int32, -1 ≤ v1.toInt → v1.toInt ≤ 9 → (¬ v1 = -1 → gI o 16 = 1) → (¬ s0 = 0 → gI o 16 = 2) → wp (bk_X9_readPart_60 v1 s0 o) (SP a o0 o t) := by
    intro v1 s0 g0 g9 g1 g2
    unfold bk_X9_readPart_60
    refine wp_if (fun _ => ?_) (fun d => ?_)
    · refine wp_if (fun _ => h76 _ _ 0 g0 g9 (fun h => absurd rfl h)) (fun d => ?_)
      exact h76 _ _ 1 g0 g9 (fun _ => by rw [g2 d]; decide)
    · exact h76 _ _ 1 g0 g9 (fun _ => by rw [g1 d]; decide)
  have h35 : ∀ s0 : Int32, -1 ≤ s0.toInt → s0.toInt ≤ 9 → (¬ s0 = -1 → gI o 16 = 1) → wp (bk_X9_readPart_35 s0 o) (SP a o0 o t) := by
    intro s0 g0 g9 g1
    unfold bk_X9_readPart_35
    have h59 : wp (bk_X9_readPart_59 s0 o) (SP a o0 o t) := h60 s0 0 g0 g9 g1 (fun h => absurd rfl h)
    refine wp_if (fun d => ?_) (fun _ => h59)
    exact wp_if (fun _ => h59) (fun _ => h60 s0 1 g0 g9 g1 (fun _ => d))
  unfold f_X9_readPart
  refine wp_bd (w_sign o 91) (fun z1 hz1 => ?_)
  refine wp_if (fun _ => ?_) (fun d => ?_)
  · refine wp_if (fun _ => ?_) (fun _ => ?_)
    · exact wp_bd (w_partAt o hB.1) (fun z2 hz2 => h35 z2 hz2.1.1 hz2.1.2 hz2.2)
    · exact wp_bd (w_opartAt o hB.1) (fun z2 hz2 => h35 z2 hz2.1.1 hz2.1.2 hz2.2)
  · refine wp_bd (w_open a o0 o c n hB h0 hP hH 32 (hz1 d) (by decide) (by decide)) (fun z9 hz9 => ?_)
    refine wp_some ⟨hz9.1, Or.inr (Or.inl rfl), ?_⟩
    rcases hz9.2 with ⟨q1, q2, q3, q4, q5⟩ | ⟨q1, q2⟩
    · refine Or.inl ⟨q1, ⟨c, n + 1, q2, q3, by rw [q4]; exact hbr.up 32 (Or.inr (Or.inr (by decide))), fun h => ?_, fun h => by first | exact absurd h (by decide) | (dsimp only at h; exact absurd h (by decide))⟩, Or.inr (Or.inl q5)⟩
      rcases h with h | h <;> first | exact absurd h (by decide) | (dsimp only at h; exact absurd h (by decide))
    · exact Or.inr ⟨q1, c, n, q2⟩
theorem PZ.pushed {a c c' n : Nat} {o y : Ob} (h : PZ a c n o) (v w : Int32) (hc : c ≤ c') (e23 : (gI y 23).toInt = (c' : Int)) (e29 : (gI y 29).toInt = ((n + 1 : Nat) : Int)) (e27 : gA y 27 = upd (gA o 27) n v) (e28 : gA y 28 = upd (gA o 28) n w) (hf : (c' : Int) + ((n + 1 : Nat) : Int) ≤ (gI y 14).toInt) (v0 : 20 ≤ v.toInt) (v1 : v.toInt ≤ 32) (hb : BO v → ∃ k : Nat, w.toInt = (k : Int) ∧ a ≤ k ∧ k < c') : PZ a c' (n + 1) y := by
  obtain ⟨p1, p2, p3, p4, p5, p6⟩ := h
  refine ⟨e23, e29, by omega, hf, fun i hi => ?_, fun i hi hbo => ?_⟩
  · rw [e27]
    by_cases e : i = n
    · subst e; rw [upd_s]; exact ⟨v0, v1⟩
    · rw [upd_n e]; exact p5 i (by omega)
  · rw [e27] at hbo
    rw [e28]
    by_cases e : i = n
    · subst e; rw [upd_s] at hbo; rw [upd_s]; exact hb hbo
    · rw [upd_n e] at hbo
      rw [upd_n e]
      obtain ⟨k, q1, q2, q3⟩ := p6 i (by omega) hbo
      exact ⟨k, q1, q2, by omega⟩
theorem BR.le {n m : Nat} {pile : Nat → Int32} (h : BR n pile) (hm : m ≤ n) : BR m pile := fun j i h1 h2 h3 => h j i h1 (by omega) h3
theorem NS.le {n m : Nat} {pile : Nat → Int32} (h : NS n pile) (hm : m ≤ n) : NS m pile := fun i hi => h i (by omega)
theorem PZ.drop {a c m : Nat} {o y : Ob} (h : PZ a c (m + 1) o) (e23 : gI y 23 = gI o 23) (e29 : (gI y 29).toInt = (m : Int)) (e27 : gA y 27 = gA o 27) (e28 : gA y 28 = gA o 28) (e14 : gI y 14 = gI o 14) : PZ a c m y := by
  obtain ⟨p1, p2, p3, p4, p5, p6⟩ := h
  refine ⟨by rw [e23]; exact p1, e29, p3, by rw [e14]; omega, fun i hi => ?_, fun i hi hb => ?_⟩
  · rw [e27]; exact p5 i (by omega)
  · rw [e27] at hb; rw [e28]; exact p6 i (by omega) hb
theorem w_readPlain (a : Nat) (o0 o : Ob) (hB : BC a o0 o) (h0 : gI o 19 = 0) (hS : ST a 0 o) : wp (f_X9_readPlain o) (SP a o0 o 0) := by
  have hS' := hS
  obtain ⟨c, n, hP, hH, hbr, hns, -⟩ := hS
  rw [if_pos (Or.inl rfl)] at hH
  have hns := hns (Or.inl rfl)
  have rg := hB.rg
  have p4 := hP.2.2.2.1
  unfold f_X9_readPlain
  refine wp_bd (w_word o 14836) (fun z1 hz1 => ?_)
  refine wp_if (fun _ => ?_) (fun d => ?_)
  · refine wp_bd (w_sign o 40) (fun z2 hz2 => ?_)
    refine wp_if (fun _ => ?_) (fun d => ?_)
    · exact wp_bd (w_readPart a o0 o 0 hB h0 hS' (Or.inl rfl)) (fun z3 hz3 => wp_some hz3)
    · refine wp_bd (w_open a o0 o c n hB h0 hP hH 31 (hz2 d) (by decide) (by decide)) (fun z9 hz9 => ?_)
      refine wp_some ⟨hz9.1, Or.inl rfl, ?_⟩
      rcases hz9.2 with ⟨q1, q2, q3, q4, q5⟩ | ⟨q1, q2⟩
      · exact Or.inl ⟨q1, ⟨c, n + 1, q2, q3, by rw [q4]; exact hbr.up 31 (Or.inl hns), fun _ => by rw [q4]; exact hns.up 31 (by decide), fun h => by first | exact absurd h (by decide) | (dsimp only at h; exact absurd h (by decide))⟩, Or.inr (Or.inl q5)⟩
      · exact Or.inr ⟨q1, c, n, q2⟩
  · have hw := hz1 d
    have htk := hB.2.2.2.1.2.1 (by rw [hw.1]; decide)
    refine wp_bd (Q := fun y => y = sI (tA (tA o 27 n 28) 28 n 0) 29 ((gI o 29) + 1)) (w_push o n hP.2.1 (by omega) _ _ rfl) (fun z5 hz5 => ?_)
    have hB5 : BC a o0 z5 := by rw [hz5]; exact hB.push hP.2.1 (by omega) 28 0
    have t29 : ((gI o 29) + (1 : Int32)).toInt = ((n + 1 : Nat) : Int) := by
      have t : ((gI o 29) + (1 : Int32)).toInt = (n : Int) + 1 := i32_add hP.2.1 (by decide) (by omega) (by omega)
      omega
    refine wp_bd (w_next a o0 z5 hB5) (fun z6 hz6 => ?_)
    obtain ⟨g1, g2, g3, g4⟩ := hz6
    have f15 : gI z5 15 = gI o 15 := by rw [hz5]; rfl
    rw [f15] at g4
    have f27 : gA z6 27 = upd (gA o 27) n 28 := by rw [g2.2.2.1, hz5]; rfl
    have f28 : gA z6 28 = upd (gA o 28) n 0 := by rw [g2.2.2.2.1, hz5]; rfl
    refine wp_some ⟨g1, Or.inl rfl, Or.inl ⟨?_, ⟨c, n + 1, ?_, ?_, by rw [f27]; exact hbr.up 28 (Or.inl hns), fun _ => by rw [f27]; exact hns.up 28 (by decide), fun h => by first | exact absurd h (by decide) | (dsimp only at h; exact absurd h (by decide))⟩, Or.inr (Or.inl ?_)⟩⟩
    · rw [g3, hz5]; exact h0
    · dsimp only
      refine hP.pushed 28 0 (Nat.le_refl _) ?_ ?_ f27 f28 (by omega) (by decide) (by decide) (fun h => absurd h (by unfold BO; decide))
      · rw [g2.2.2.2.2.1, hz5]; exact hP.1
      · rw [g2.2.2.2.2.2.1, hz5]; exact t29
    · unfold HO
      rw [f27, f28, g2.1, g2.2.1, hz5]
      exact hH.pusho 28 0 (Or.inl (by decide))
    · show (gI o 14).toInt < (gI z6 14).toInt
      omega
-- a push behind settle
theorem w_pushb (a : Nat) (o0 z : Ob) (v : Int32) (c n : Nat) (g1 : BC a o0 z) (g2 : PZ a c n z) (g3 : HO a c n 1 z) (g4 : 20 ≤ v.toInt) (g5 : v.toInt ≤ 27) (g6 : n < 400) :
    wp (f_X9_push z v 0) (fun y => BC a o0 y ∧ gA y 27 = upd (gA z 27) n v ∧ gA y 28 = upd (gA z 28) n 0 ∧ SM z y ∧ gI y 23 = gI z 23 ∧ (gI y 29).toInt = ((n + 1 : Nat) : Int) ∧ HO a c (n + 1) 0 y) := by
  refine w_push z n g2.2.1 g6 v 0 ⟨g1.push g2.2.1 g6 v 0, rfl, rfl, ⟨rfl, rfl, rfl, rfl, rfl, rfl⟩, rfl, ?_, g3.pushb v 0 g4 g5⟩
  have t : ((gI z 29) + (1 : Int32)).toInt = (n : Int) + 1 := i32_add g2.2.1 (by decide) (by have := g2.2.1; omega) (by have := g2.2.1; omega)
  show ((gI z 29) + (1 : Int32)).toInt = _
  omega
-- a bracket goes
theorem w_drop (a : Nat) (o0 z : Ob) (c m : Nat) (g1 : BC a o0 z) (g2 : PZ a c (m + 1) z) (g3 : HO a c (m + 1) 1 z) (hb : 31 ≤ (gA z 27 m).toInt) (o11 o12 : Ob) (e11 : o11 = sI z 29 ((gI z 29) - 1)) (e12 : o12 = sI o11 30 ((gI o11 30) - 1)) : BC a o0 o12 ∧ PZ a c m o12 ∧ HO a c m 1 o12 ∧ gA o12 27 = gA z 27 ∧ gI o12 14 = gI z 14 ∧ gI o12 19 = gI z 19 := by
  have rg := g1.rg
  have p4 := g2.2.2.2.1
  have t : ((gI z 29) - (1 : Int32)).toInt = ((m + 1 : Nat) : Int) - 1 := i32_sub g2.2.1 (by decide) (by omega) (by omega)
  have hI : IvX9 (sI z 29 ((gI z 29) - 1)) := ipX9_29 g1.1 ⟨by omega, by omega⟩
  rw [e12, e11]
  refine ⟨⟨hI, (g1.2.1.trans (Kp.sI (by decide))).trans (Kp.sI (by decide)), g1.2.2.1, g1.2.2.2.1, g1.2.2.2.2⟩, g2.drop rfl ?_ rfl rfl rfl, g3.drop hb, rfl, rfl, rfl⟩
  show ((gI z 29) - (1 : Int32)).toInt = _
  omega
-- behind a sum
theorem w_behindSum (a : Nat) (o0 o : Ob) (p0 : Int32) (hB : BC a o0 o) (h0 : gI o 19 = 0) (hS : ST a 3 o) : wp (f_X9_behindSum o p0) (SP a o0 o 3) := by
  obtain ⟨c, n, hP, hH, hbr, -, -⟩ := hS
  rw [if_neg (by decide)] at hH
  have rg := hB.rg
  have p4 := hP.2.2.2.1
  have five : (5 : Int32).toInt = 5 := by decide
  have h224 : ∀ v s0 : Int32, 25 ≤ v.toInt → v.toInt ≤ 27 → NS n (gA o 27) → (¬ s0 = 0 → ¬ gI o 16 = 0) → wp (bk_X9_behindSum_224 v s0 o) (SP a o0 o 3) := by
    intro v s0 v0 v1 hns hs
    unfold bk_X9_behindSum_224
    refine wp_bd (w_must a o0 o s0 hB h0) (fun z hz => ?_)
    obtain ⟨g1, g2, g3⟩ := hz
    rcases g3 with ⟨g3, g4, g5⟩ | ⟨g3, g4⟩
    · refine wp_if (fun _ => ?_) (fun d => absurd g3 d)
      have htk := hB.2.2.2.1.2.1 (hs g4)
      refine wp_bd (w_settle a o0 True 5 (by decide) z c n g1 (hP.ms g2 (by omega)) (fun _ => hH.ms g2)) (fun z2 hz2 => ?_)
      obtain ⟨y1, y2, y3, y4, c', n', y5, y6, y6b, y7, -, -⟩ := hz2
      have f14 : gI z2 14 = gI z 14 := y4.1
      refine wp_bd (w_pushb a o0 z2 v c' n' y1 y5 (y7 trivial) (by omega) v1 (by omega)) (fun y hy => ?_)
      obtain ⟨b1, b2, b3, b4, b5, b6, b7⟩ := hy
      have k27 : gA y 27 = upd (gA o 27) n' v := by rw [b2, y2, g2.2.2.1]
      have k14 : gI y 14 = gI z 14 := b4.1.trans f14
      refine wp_some ⟨b1, Or.inr (Or.inl rfl), Or.inl ⟨b4.2.2.2.2.1.trans (y4.2.2.2.2.1.trans g3), ⟨c', n' + 1, ?_, b7, by rw [k27]; exact (hbr.le y6).up v (Or.inl (hns.le y6)), fun h => ?_, fun h => by first | exact absurd h (by decide) | (dsimp only at h; exact absurd h (by decide))⟩, Or.inr (Or.inl ?_)⟩⟩
      · refine y5.pushed v 0 (Nat.le_refl _) (by rw [b5]; exact y5.1) b6 b2 b3 ?_ (by omega) (by omega) (fun h => by unfold BO at h; omega)
        rw [k14]; omega
      · rcases h with h | h <;> first | exact absurd h (by decide) | (dsimp only at h; exact absurd h (by decide))
      · show (gI o 14).toInt < (gI y 14).toInt
        rw [k14]; omega
    · refine wp_if (fun d => absurd (g3.symm.trans d) (by decide)) (fun _ => ?_)
      exact wp_some ⟨g1, Or.inr (Or.inl rfl), Or.inr ⟨g3, c, n, hP.ms g2 (by rw [g4]; exact Int.le_refl _)⟩⟩
  have h163 : NS n (gA o 27) → wp (bk_X9_behindSum_163 o) (SP a o0 o 3) := by
    intro hns
    unfold bk_X9_behindSum_163
    refine wp_bd (s_X9_isCompared o hB.1) (fun z7 _ => ?_)
    refine wp_if (fun _ => ?_) (fun _ => ?_)
    · refine wp_bd (w_sign o 60) (fun z8 hz8 => ?_)
      refine wp_if (fun _ => ?_) (fun d => ?_)
      · refine wp_bd (w_sign o 62) (fun z9 hz9 => ?_)
        refine wp_if (fun _ => ?_) (fun d => ?_)
        · unfold bk_X9_behindSum_202
          refine wp_if (fun _ => ?_) (fun d => absurd rfl d)
          refine wp_bd (w_sign o 61) (fun z13 hz13 => ?_)
          refine wp_if (fun _ => h224 27 0 (by decide) (by decide) hns (fun h => absurd rfl h)) (fun d => ?_)
          exact h224 27 1 (by decide) (by decide) hns (fun _ => hz13 d)
        · unfold bk_X9_behindSum_202
          exact wp_if (fun d => absurd d (by decide)) (fun _ => h224 26 1 (by decide) (by decide) hns (fun _ => hz9 d))
      · unfold bk_X9_behindSum_202
        exact wp_if (fun d => absurd d (by decide)) (fun _ => h224 25 1 (by decide) (by decide) hns (fun _ => hz8 d))
    · exact wp_some ⟨hB, Or.inr (Or.inr (Or.inl rfl)), Or.inl ⟨h0, ⟨c, n, hP, hH, hbr, fun _ => hns, fun h => by first | exact absurd h (by decide) | (dsimp only at h; exact absurd h (by decide))⟩, Or.inr (Or.inr ⟨rfl, rfl, rfl⟩)⟩⟩
  have h71a : wp (bk_X9_behindSum_71 p0 (-1) o) (SP a o0 o 3) := by
    unfold bk_X9_behindSum_71
    refine wp_if (fun _ => ?_) (fun d => absurd rfl d)
    refine wp_bd (w_inner a c n o hP (by omega) hbr) (fun z6 hz6 => ?_)
    obtain ⟨i1, i2, i3, i4⟩ := hz6
    refine wp_if (fun d => ?_) (fun d => ?_)
    · have d := cv_eq (a := z6.toInt) (b := 32) rfl (by decide) d
      obtain ⟨j, hj, ej⟩ := i2 d
      refine wp_bd (w_sign o 93) (fun z14 hz14 => ?_)
      refine wp_bd (w_must a o0 o z14 hB h0) (fun z hz => ?_)
      obtain ⟨g1, g2, g3⟩ := hz
      rcases g3 with ⟨g3, g4, g5⟩ | ⟨g3, g4⟩
      · refine wp_if (fun _ => ?_) (fun d => absurd g3 d)
        have htk := hB.2.2.2.1.2.1 (hz14 g4)
        refine wp_bd (w_settle a o0 True 5 (by decide) z c n g1 (hP.ms g2 (by omega)) (fun _ => hH.ms g2)) (fun z2 hz2 => ?_)
        obtain ⟨y1, y2, y3, y4, c', n', y5, y6, y6b, y7, y8, y9⟩ := hz2
        rw [g2.2.2.1] at y2 y8 y9
        have hj' : j < n' := by
          by_cases e : j < n'
          · exact e
          · have q := y8 j (by omega) hj
            have q2 := (bd_rg (v := gA o 27 j) (by omega)).2.2.2.2.2.2 (by omega)
            omega
        obtain ⟨m, rfl⟩ : ∃ m, n' = m + 1 := ⟨n' - 1, by omega⟩
        have htop : (gA o 27 m).toInt = 32 := by
          rcases (show j = m ∨ j < m by omega) with e | e
          · rw [← e]; exact ej
          · rcases hbr j m e (by omega) ej with q | q
            · have r5 := hP.2.2.2.2.1 m (by omega)
              have b := bd_rg r5.1
              rcases y9 with y9 | y9
              · omega
              · have y9 : (bd (gA o 27 m)).toInt < (5 : Int32).toInt := y9
                have b1 := b.1
                have b2 := b.2.1
                exfalso; omega
            · exact q
        refine wp_lt (fun o17 e17 => ?_)
        refine wp_lt (fun o18 e18 => ?_)
        obtain ⟨x1, x2, x3, x4, x5, x6⟩ := w_drop a o0 z2 c' m y1 y5 (y7 trivial) (by rw [y2, htop]; decide) o17 o18 e17 e18
        refine wp_some ⟨x1, Or.inr (Or.inr (Or.inr (Or.inl rfl))), Or.inl ⟨x6.trans (y4.2.2.2.2.1.trans g3), ⟨c', m, x2, x3, by rw [x4, y2]; exact hbr.le (by omega), fun h => ?_, fun h => by first | exact absurd h (by decide) | (dsimp only at h; exact absurd h (by decide))⟩, Or.inr (Or.inl ?_)⟩⟩
        · rcases h with h | h <;> first | exact absurd h (by decide) | (dsimp only at h; exact absurd h (by decide))
        · show (gI o 14).toInt < (gI o18 14).toInt
          rw [x5, y4.1]; omega
      · refine wp_if (fun d => absurd (g3.symm.trans d) (by decide)) (fun _ => ?_)
        exact wp_some ⟨g1, Or.inr (Or.inr (Or.inr (Or.inl rfl))), Or.inr ⟨g3, c, n, hP.ms g2 (by rw [g4]; exact Int.le_refl _)⟩⟩
    · have d := cv_ne (a := z6.toInt) (b := 32) rfl (by decide) d
      have hns := i1 d
      refine wp_if (fun d => ?_) (fun _ => h163 hns)
      have d := cv_eq (a := z6.toInt) (b := -1) rfl (by decide) d
      refine wp_if (fun _ => ?_) (fun _ => h163 hns)
      exact wp_some ⟨hB, Or.inr (Or.inr (Or.inr (Or.inr rfl))), Or.inl ⟨h0, ⟨c, n, hP, hH, hbr, fun _ => hns, fun _ => i4 d⟩, Or.inl rfl⟩⟩
  have h71b : ∀ s0 : Int32, 20 ≤ s0.toInt → s0.toInt ≤ 24 → ¬ gI o 16 = 0 → wp (bk_X9_behindSum_71 p0 s0 o) (SP a o0 o 3) := by
    intro s0 g0 g1 hs
    have htk := hB.2.2.2.1.2.1 hs
    unfold bk_X9_behindSum_71
    refine wp_if (fun d => ?_) (fun _ => ?_)
    · exfalso; have d := cv_eq (a := s0.toInt) (b := -1) rfl (by decide) d; omega
    refine wp_bd (Q := fun z => z = bd s0) ⟨_, binds_eq _, rfl⟩ (fun z19 hz19 => ?_)
    have b := bd_rg g0
    have hz : 1 ≤ z19.toInt := by
      rw [hz19]
      have b1 := b.1
      have b2 := b.2.1
      omega
    refine wp_bd (w_settle a o0 True z19 hz o c n hB hP (fun _ => hH)) (fun z2 hz2 => ?_)
    obtain ⟨y1, y2, y3, y4, c', n', y5, y6, y6b, y7, -, -⟩ := hz2
    refine wp_bd (w_pushb a o0 z2 s0 c' n' y1 y5 (y7 trivial) (by omega) (by omega) (by omega)) (fun y hy => ?_)
    obtain ⟨b1, b2, b3, b4, b5, b6, b7⟩ := hy
    refine wp_bd (w_next a o0 y b1) (fun z6 hz6 => ?_)
    obtain ⟨k1, k2, k3, k4⟩ := hz6
    have f15 : gI y 15 = gI o 15 := b4.2.1.trans y4.2.1
    rw [f15] at k4
    have k27 : gA z6 27 = upd (gA o 27) n' s0 := by rw [k2.2.2.1, b2, y2]
    refine wp_some ⟨k1, Or.inr (Or.inl rfl), Or.inl ⟨k3.trans (b4.2.2.2.2.1.trans (y4.2.2.2.2.1.trans h0)), ⟨c', n' + 1, ?_, b7.ms k2, by rw [k27]; exact (hbr.le y6).up s0 (Or.inr (Or.inl g1)), fun h => ?_, fun h => by first | exact absurd h (by decide) | (dsimp only at h; exact absurd h (by decide))⟩, Or.inr (Or.inl ?_)⟩⟩
    · dsimp only
      refine y5.pushed s0 0 (Nat.le_refl _) (by rw [k2.2.2.2.2.1, b5]; exact y5.1) (by rw [k2.2.2.2.2.2.1]; exact b6) (by rw [k2.2.2.1]; exact b2) (by rw [k2.2.2.2.1]; exact b3) (by omega) (by omega) (by omega) (fun h => by unfold BO at h; omega)
    · rcases h with h | h <;> first | exact absurd h (by decide) | (dsimp only at h; exact absurd h (by decide))
    · show (gI o 14).toInt < (gI z6 14).toInt
      omega
  unfold f_X9_behindSum
  refine wp_bd (w_sign o 43) (fun z1 hz1 => ?_)
  refine wp_if (fun _ => ?_) (fun d => h71b 20 (by decide) (by decide) (hz1 d))
  refine wp_bd (w_sign o 45) (fun z1 hz1 => ?_)
  refine wp_if (fun _ => ?_) (fun d => h71b 21 (by decide) (by decide) (hz1 d))
  refine wp_bd (w_sign o 42) (fun z1 hz1 => ?_)
  refine wp_if (fun _ => ?_) (fun d => h71b 22 (by decide) (by decide) (hz1 d))
  refine wp_bd (w_sign o 47) (fun z1 hz1 => ?_)
  refine wp_if (fun _ => ?_) (fun d => h71b 23 (by decide) (by decide) (hz1 d))
  refine wp_bd (w_sign o 37) (fun z1 hz1 => ?_)
  exact wp_if (fun _ => h71a) (fun d => h71b 24 (by decide) (by decide) (hz1 d))
-- behind a test
theorem w_behindTest (a : Nat) (o0 o : Ob) (hB : BC a o0 o) (h0 : gI o 19 = 0) (hS : ST a 2 o) : wp (f_X9_behindTest o) (SP a o0 o 2) := by
  obtain ⟨c, n, hP, hH, hbr, hns, -⟩ := hS
  rw [if_neg (by decide)] at hH
  have hns := hns (Or.inr rfl)
  have rg := hB.rg
  have p4 := hP.2.2.2.1
  have one : (1 : Int32).toInt = 1 := by decide
  have hop : ∀ (s v : Int32), 1 ≤ s.toInt → BO v → gI o 16 = 1 → 32 ≤ (gL o 17).toInt → wp ((f_X9_settle o s).bind fun z2 => (f_X9_push z2 v (gI z2 23)).bind fun z3 => bk_X9_behindTest_66 v z3) (SP a o0 o 2) := by
    intro s v hs hv h16 h17
    have htk := hB.2.2.2.1.2.2 h16 h17
    have hv' : v.toInt = 29 ∨ v.toInt = 30 := hv
    refine wp_bd (w_settle a o0 True s hs o c n hB hP (fun _ => hH)) (fun z2 hz2 => ?_)
    obtain ⟨y1, y2, y3, y4, c', n', y5, y6, y6b, y7, -, -⟩ := hz2
    refine wp_bd (Q := fun y => y = sI (tA (tA z2 27 n' v) 28 n' (gI z2 23)) 29 ((gI z2 29) + 1)) (w_push z2 n' y5.2.1 (by omega) _ _ rfl) (fun z3 hz3 => ?_)
    have hB3 : BC a o0 z3 := by rw [hz3]; exact y1.push y5.2.1 (by omega) v _
    have t29 : ((gI z2 29) + (1 : Int32)).toInt = ((n' + 1 : Nat) : Int) := by
      have t : ((gI z2 29) + (1 : Int32)).toInt = (n' : Int) + 1 := i32_add y5.2.1 (by decide) (by omega) (by omega)
      omega
    unfold bk_X9_behindTest_66
    have e23 : (gI z3 23).toInt = (c' : Int) := by rw [hz3]; exact y5.1
    refine wp_bd (Q := fun y => y = sI (tA (tA z3 24 c' v) 25 c' 0) 23 ((gI z3 23) + 1)) (w_emit z3 c' e23 (by omega) _ _ rfl) (fun z4 hz4 => ?_)
    have hB4 : BC a o0 z4 := by rw [hz4]; exact hB3.emit e23 y5.2.2.1 (by omega) v 0
    have t23 : ((gI z3 23) + (1 : Int32)).toInt = ((c' + 1 : Nat) : Int) := by
      have t : ((gI z3 23) + (1 : Int32)).toInt = (c' : Int) + 1 := i32_add e23 (by decide) (by omega) (by omega)
      omega
    refine wp_bd (w_next a o0 z4 hB4) (fun z5 hz5 => ?_)
    obtain ⟨k1, k2, k3, k4⟩ := hz5
    have f15 : gI z4 15 = gI o 15 := by rw [hz4, hz3]; exact y4.2.1
    rw [f15] at k4
    have q27 : gA z4 27 = upd (gA z2 27) n' v := by rw [hz4, hz3]; rfl
    have q28 : gA z4 28 = upd (gA z2 28) n' (gI z2 23) := by rw [hz4, hz3]; rfl
    have k27 : gA z5 27 = upd (gA o 27) n' v := by rw [k2.2.2.1, q27, y2]
    have hH4 : HO a (c' + 1) (n' + 1) 0 z4 := by
      rw [hz4, hz3]
      exact (y7 trivial).andor y5.2.2.1 v 0 (gI z2 23) hv y5.1
    have h19 : gI z5 19 = 0 := by
      rw [k3, hz4, hz3]; exact y4.2.2.2.2.1.trans h0
    refine wp_some ⟨k1, Or.inl rfl, Or.inl ⟨h19, ⟨c' + 1, n' + 1, ?_, hH4.ms k2, by rw [k27]; exact (hbr.le y6).up v (Or.inl (hns.le y6)), fun _ => by rw [k27]; exact (hns.le y6).up v (by omega), fun h => by first | exact absurd h (by decide) | (dsimp only at h; exact absurd h (by decide))⟩, Or.inr (Or.inl ?_)⟩⟩
    · dsimp only
      refine y5.pushed v (gI z2 23) (by omega) ?_ ?_ (by rw [k2.2.2.1]; exact q27) (by rw [k2.2.2.2.1]; exact q28) (by omega) (by omega) (by omega) (fun _ => ⟨c', y5.1, y5.2.2.1, by omega⟩)
      · rw [k2.2.2.2.2.1, hz4]; exact t23
      · rw [k2.2.2.2.2.2.1, hz4, hz3]; exact t29
    · show (gI o 14).toInt < (gI z5 14).toInt
      omega
  have h22 : ∀ v1 : Int32, gI o 16 = 1 → 32 ≤ (gL o 17).toInt → wp (bk_X9_behindTest_22 v1 o) (SP a o0 o 2) := by
    intro v1 h16 h17
    unfold bk_X9_behindTest_22
    refine wp_if (fun d => ?_) (fun d => ?_)
    · have q := hop 1 30 (by decide) (Or.inr (by decide)) h16 h17
      unfold bk_X9_behindTest_32
      obtain ⟨y, ey, hy⟩ := q
      obtain ⟨z2, ez2, ey⟩ := z_bd ey
      refine wp_bd (Q := fun z => z = z2) ⟨z2, ez2, rfl⟩ (fun z hz => ?_)
      subst hz
      refine wp_if (fun _ => ?_) (fun d2 => absurd d d2)
      unfold bk_X9_behindTest_47
      obtain ⟨z3, ez3, ey⟩ := z_bd ey
      refine wp_bd (Q := fun z => z = z3) ⟨z3, ez3, rfl⟩ (fun w hw => ?_)
      subst hw
      exact wp_if (fun _ => ⟨y, ey, hy⟩) (fun d2 => absurd d d2)
    · have q := hop 2 29 (by decide) (Or.inl (by decide)) h16 h17
      unfold bk_X9_behindTest_32
      obtain ⟨y, ey, hy⟩ := q
      obtain ⟨z2, ez2, ey⟩ := z_bd ey
      refine wp_bd (Q := fun z => z = z2) ⟨z2, ez2, rfl⟩ (fun z hz => ?_)
      subst hz
      refine wp_if (fun d2 => absurd d2 d) (fun _ => ?_)
      unfold bk_X9_behindTest_47
      obtain ⟨z3, ez3, ey⟩ := z_bd ey
      refine wp_bd (Q := fun z => z = z3) ⟨z3, ez3, rfl⟩ (fun w hw => ?_)
      subst hw
      exact wp_if (fun d2 => absurd d2 d) (fun _ => ⟨y, ey, hy⟩)
  unfold f_X9_behindTest
  refine wp_bd (w_word o 1476) (fun z1 hz1 => ?_)
  refine wp_if (fun _ => ?_) (fun d => h22 z1 (hz1 d).1 (by rw [(hz1 d).2]; decide))
  refine wp_bd (w_word o 498) (fun z6 hz6 => ?_)
  refine wp_if (fun _ => ?_) (fun d => h22 z1 (hz6 d).1 (by rw [(hz6 d).2]; decide))
  refine wp_bd (w_inner a c n o hP (by omega) hbr) (fun z7 hz7 => ?_)
  obtain ⟨i1, i2, i3, i4⟩ := hz7
  refine wp_if (fun d => ?_) (fun d => ?_)
  · have d := cv_eq (a := z7.toInt) (b := -1) rfl (by decide) d
    exact wp_some ⟨hB, Or.inr (Or.inr (Or.inr (Or.inr rfl))), Or.inl ⟨h0, ⟨c, n, hP, hH, hbr, fun _ => hns, fun _ => i4 d⟩, Or.inl rfl⟩⟩
  have d := cv_ne (a := z7.toInt) (b := -1) rfl (by decide) d
  obtain ⟨j, hj, ej⟩ : ∃ j, j < n ∧ 31 ≤ (gA o 27 j).toInt := by
    rcases i3 with h | h
    · exact absurd h d
    · exact h
  refine wp_bd (w_sign o 41) (fun z8 hz8 => ?_)
  refine wp_bd (w_must a o0 o z8 hB h0) (fun z hz => ?_)
  obtain ⟨g1, g2, g3⟩ := hz
  rcases g3 with ⟨g3, g4, g5⟩ | ⟨g3, g4⟩
  · refine wp_if (fun _ => ?_) (fun d => absurd g3 d)
    have htk := hB.2.2.2.1.2.1 (hz8 g4)
    refine wp_bd (w_settle a o0 True 1 (by decide) z c n g1 (hP.ms g2 (by omega)) (fun _ => hH.ms g2)) (fun z2 hz2 => ?_)
    obtain ⟨y1, y2, y3, y4, c', n', y5, y6, y6b, y7, y8, y9⟩ := hz2
    rw [g2.2.2.1] at y2 y8 y9
    have hj' : j < n' := by
      by_cases e : j < n'
      · exact e
      · have q := y8 j (by omega) hj
        have q2 := (bd_rg (v := gA o 27 j) (by omega)).2.2.2.2.2.2 (by omega)
        omega
    obtain ⟨m, rfl⟩ : ∃ m, n' = m + 1 := ⟨n' - 1, by omega⟩
    have htop : 31 ≤ (gA o 27 m).toInt := by
      have r5 := hP.2.2.2.2.1 m (by omega)
      have b := bd_rg r5.1
      obtain ⟨b1, b2, b3, b4, b5, b6, b7⟩ := b
      rcases y9 with y9 | y9
      · omega
      · have y9 : (bd (gA o 27 m)).toInt < (1 : Int32).toInt := y9
        omega
    refine wp_lt (fun o17 e17 => ?_)
    refine wp_lt (fun o18 e18 => ?_)
    obtain ⟨x1, x2, x3, x4, x5, x6⟩ := w_drop a o0 z2 c' m y1 y5 (y7 trivial) (by rw [y2]; exact htop) o17 o18 e17 e18
    refine wp_some ⟨x1, Or.inr (Or.inr (Or.inl rfl)), Or.inl ⟨x6.trans (y4.2.2.2.2.1.trans g3), ⟨c', m, x2, x3, by rw [x4, y2]; exact hbr.le (by omega), fun _ => by rw [x4, y2]; exact hns.le (by omega), fun h => by first | exact absurd h (by decide) | (dsimp only at h; exact absurd h (by decide))⟩, Or.inr (Or.inl ?_)⟩⟩
    show (gI o 14).toInt < (gI o18 14).toInt
    rw [x5, y4.1]; omega
  · refine wp_if (fun d => absurd (g3.symm.trans d) (by decide)) (fun _ => ?_)
    exact wp_some ⟨g1, Or.inr (Or.inr (Or.inl rfl)), Or.inr ⟨g3, c, n, hP.ms g2 (by rw [g4]; exact Int.le_refl _)⟩⟩
-- an expression
def RX (a : Nat) (o0 y : Ob) : Prop := BC a o0 y ∧ (gI y 19 = 0 ∨ gI y 19 = 1) ∧ ∃ c : Nat, (gI y 23).toInt = (c : Int) ∧ a ≤ c ∧ (c : Int) ≤ (gI y 14).toInt ∧ (gI y 19 = 0 → CW (gA y 24) (gA y 25) a c)
theorem h_rx20 (a : Nat) (o0 : Ob) : ∀ (N : Nat) (v1 v2 : Int32) (o : Ob), BC a o0 o → (v2 = 0 ∨ v2 = 1 ∨ v2 = 2 ∨ v2 = 3 ∨ v2 = 4) → ((gI o 19 = 0 ∧ ST a v2 o) ∨ (gI o 19 = 1 ∧ ∃ c n : Nat, PZ a c n o)) → 0 < N → (gI o 19 = 0 → (if v2 = 4 then 0 else 2 * (400 - (gI o 14).toInt) + (if v2 = 3 then 1 else 0) + 1) < (N : Int)) → wp (lp_X9_readExpression_20 N (v1, v2, o)) (RX a o0) := by
  intro N
  induction N with
  | zero => intro v1 v2 o _ _ _ h; exact absurd h (Nat.lt_irrefl _)
  | succ N ih =>
    intro v1 v2 o hB hv hS _ hN
    show wp (lb_X9_readExpression_20 (lp_X9_readExpression_20 N) v1 v2 o) _
    unfold lb_X9_readExpression_20
    have rg := hB.rg
    have hend : ∀ (c n : Nat), PZ a c n o → (gI o 19 = 0 ∨ gI o 19 = 1) → (gI o 19 = 0 → HO a c n 1 o ∧ ∀ i, i < n → (gA o 27 i).toInt < 31) → wp (bk_X9_readExpression_76 o) (RX a o0) := by
      intro c n hP h19 hH
      unfold bk_X9_readExpression_76
      refine wp_bd (w_settle a o0 (gI o 19 = 0) 1 (by decide) o c n hB hP (fun h => (hH h).1)) (fun z hz => ?_)
      obtain ⟨y1, y2, y3, y4, c', n', y5, y6, y6b, y7, y8, y9⟩ := hz
      have k19 : gI z 19 = gI o 19 := y4.2.2.2.2.1
      refine wp_some ⟨y1, by rw [k19]; exact h19, c', y5.1, y5.2.2.1, by have := y5.2.2.2.1; omega, fun h => ?_⟩
      rw [k19] at h
      have e0 : n' = 0 := by
        rcases y9 with y9 | y9
        · exact y9
        · by_cases e : n' = 0
          · exact e
          · have q := (hH h).2 (n' - 1) (by omega)
            have r5 := hP.2.2.2.2.1 (n' - 1) (by omega)
            obtain ⟨b1, b2, b3, b4, b5, b6, b7⟩ := bd_rg r5.1
            have one : (1 : Int32).toInt = 1 := by decide
            exfalso; omega
      subst e0
      exact (y7 h).done
    have next : ∀ y : Int32 × Ob, gI o 19 = 0 → SP a o0 o v2 y → ¬ v2 = 4 → wp (bk_X9_readExpression_72 (lp_X9_readExpression_20 N) v1 y.1 y.2) (RX a o0) := by
      intro y h0 hy h4
      obtain ⟨y1, y2, y3⟩ := hy
      have hN := hN h0
      rw [if_neg h4] at hN
      have rg2 := y1.rg
      have hN1 : 0 < N := by
        have : 0 ≤ (if v2 = 3 then (1 : Int) else 0) := by split <;> omega
        omega
      refine ih v1 y.1 y.2 y1 y2 ?_ hN1 (fun h => ?_)
      · rcases y3 with ⟨q1, q2, -⟩ | q
        · exact Or.inl ⟨q1, q2⟩
        · exact Or.inr q
      · rcases y3 with ⟨q1, q2, q3⟩ | ⟨q1, -⟩
        · rcases q3 with q3 | q3 | ⟨q3, q4, q5⟩
          · rw [if_pos q3]; omega
          · have u1 : (if y.1 = 3 then (1 : Int) else 0) ≤ 1 := by split <;> omega
            have u2 : 0 ≤ (if v2 = 3 then (1 : Int) else 0) := by split <;> omega
            split <;> omega
          · rw [if_neg (by rw [q4]; decide), if_neg (by rw [q4]; decide), q5]
            rw [if_pos q3] at hN
            omega
        · exact absurd (q1.symm.trans h) (by decide)
    rcases hS with ⟨h0, hS⟩ | ⟨h1, c, n, hP⟩
    · refine wp_if (fun _ => ?_) (fun d => absurd h0 d)
      refine wp_if (fun d => ?_) (fun d4 => ?_)
      · subst d
        obtain ⟨c, n, hP, hH, -, -, hb⟩ := hS
        rw [if_neg (by decide)] at hH
        exact hend c n hP (Or.inl h0) (fun _ => ⟨hH, hb rfl⟩)
      · refine wp_if (fun d => ?_) (fun d0 => ?_)
        · subst d
          exact wp_bd (w_readPlain a o0 o hB h0 hS) (fun y hy => next y h0 hy d4)
        refine wp_if (fun d => ?_) (fun d1 => ?_)
        · subst d
          exact wp_bd (w_readPart a o0 o 1 hB h0 hS (Or.inr rfl)) (fun y hy => next y h0 hy d4)
        refine wp_if (fun d => ?_) (fun d3 => ?_)
        · subst d
          exact wp_bd (w_behindSum a o0 o v1 hB h0 hS) (fun y hy => next y h0 hy d4)
        · have e2 : v2 = 2 := by
            rcases hv with h | h | h | h | h
            · exact absurd h d0
            · exact absurd h d1
            · exact h
            · exact absurd h d3
            · exact absurd h d4
          subst e2
          exact wp_bd (w_behindTest a o0 o hB h0 hS) (fun y hy => next y h0 hy d4)
    · refine wp_if (fun d => absurd (h1.symm.trans d) (by decide)) (fun _ => ?_)
      exact hend c n hP (Or.inr h1) (fun h => absurd (h1.symm.trans h) (by decide))
theorem w_readExpression (o0 : Ob) (hI : IvX9 o0) (hr : (gI o0 15).toInt ≤ (gI o0 13).toInt) (ht : TK o0) (h0 : gI o0 19 = 0) (c : Nat) (e23 : (gI o0 23).toInt = (c : Int)) (hc : (c : Int) ≤ (gI o0 14).toInt) (p0 : Int32) : wp (f_X9_readExpression o0 p0) (RX c o0) := by
  unfold f_X9_readExpression
  refine wp_lt (fun o1 e1 => ?_)
  refine wp_lt (fun o2 e2 => ?_)
  have hB : BC c o0 o2 := by
    rw [e2, e1]
    exact ⟨(show IvX9 (sI o0 29 0) from ipX9_29 hI ⟨by decide, by decide⟩), Kp.trans (o' := sI o0 29 0) (Kp.sI (by decide)) (Kp.sI (by decide)), hr, ht, fun _ _ => ⟨rfl, rfl⟩, Int.le_refl _⟩
  have k19 : gI o2 19 = 0 := by rw [e2, e1]; exact h0
  have hP : PZ c c 0 o2 := by
    rw [e2, e1]
    exact ⟨e23, (by decide : (0 : Int32).toInt = ((0 : Nat) : Int)), Nat.le_refl _, by show (c : Int) + ((0 : Nat) : Int) ≤ (gI o0 14).toInt; omega, fun i hi => absurd hi (Nat.not_lt_zero _), fun i hi => absurd hi (Nat.not_lt_zero _)⟩
  have hH : HO c c 0 0 o2 := ⟨fun _ => 0, rfl, rfl, fun k h1 h2 => by omega, fun i hi => absurd hi (Nat.not_lt_zero _)⟩
  have hS : ∀ t : Int32, t = 0 ∨ t = 1 → ST c t o2 := by
    intro t ht
    refine ⟨c, 0, hP, by rw [if_pos ht]; exact hH, fun j i h1 h2 => absurd h2 (Nat.not_lt_zero _), fun _ i hi => absurd hi (Nat.not_lt_zero _), fun _ i hi => absurd hi (Nat.not_lt_zero _)⟩
  have rg := hB.rg
  have zz : ((zfu : Nat) : Int) = 100000 := rfl
  refine wp_if (fun _ => ?_) (fun _ => ?_)
  · exact h_rx20 c o0 zfu p0 1 o2 hB (Or.inr (Or.inl rfl)) (Or.inl ⟨k19, hS 1 (Or.inr rfl)⟩) (by decide) (fun _ => by rw [if_neg (by decide), if_neg (by decide)]; omega)
  · exact h_rx20 c o0 zfu p0 0 o2 hB (Or.inl rfl) (Or.inl ⟨k19, hS 0 (Or.inl rfl)⟩) (by decide) (fun _ => by rw [if_neg (by decide), if_neg (by decide)]; omega)
-- clauses that were read
def CK (o : Ob) (f : Nat → Int32) (c : Nat) (i3 i4 i5 i6 : Nat) : Prop := ∃ a b e d : Nat, a ≤ b ∧ e ≤ d ∧ b ≤ c ∧ d ≤ c ∧ (f i3).toInt = (a : Int) ∧ (f i4).toInt = (b : Int) ∧ (f i5).toInt = (e : Int) ∧ (f i6).toInt = (d : Int) ∧ CW (gA o 24) (gA o 25) a b ∧ CW (gA o 24) (gA o 25) e d
def LB (o : Ob) (k c : Nat) : Prop := IvX9 o ∧ (gI o 15).toInt ≤ (gI o 13).toInt ∧ TK o ∧ (gI o 21).toInt = (k : Int) ∧ k ≤ 12 ∧ (gI o 23).toInt = (c : Int) ∧ (c : Int) ≤ (gI o 14).toInt
theorem LB.rg {o : Ob} {k c : Nat} (h : LB o k c) : c ≤ 400 := by
  have b13 := igX9_13 h.1
  have t := h.2.2.1.1
  have r := h.2.1
  have q := h.2.2.2.2.2.2
  omega
theorem CW_in {op arg op' arg' : Nat → Int32} {a b c : Nat} (h : CW op arg a b) (hb : b ≤ c) (e : ∀ k, k < c → op' k = op k ∧ arg' k = arg k) : CW op' arg' a b := CW_eq (fun k hk => e k (by omega)) h
def LC (o : Ob) (k : Nat) (c : Nat) : Prop := ∀ j, j < k → ∃ a b d : Nat, a ≤ b ∧ b ≤ d ∧ d ≤ c ∧ (gA o 22 (8 * j + 3)).toInt = (a : Int) ∧ (gA o 22 (8 * j + 4)).toInt = (b : Int) ∧ (gA o 22 (8 * j + 5)).toInt = (b : Int) ∧ (gA o 22 (8 * j + 6)).toInt = (d : Int) ∧ CW (gA o 24) (gA o 25) a b ∧ CW (gA o 24) (gA o 25) b d
theorem LC.ext {o y : Ob} {k c c' : Nat} (h : LC o k c) (hc : c ≤ c') (e22 : ∀ i, i < 8 * k → gA y 22 i = gA o 22 i) (e : ∀ j, j < c → gA y 24 j = gA o 24 j ∧ gA y 25 j = gA o 25 j) : LC y k c' := by
  intro j hj
  obtain ⟨a, b, d, h1, h2, h3, q3, q4, q5, q6, w1, w2⟩ := h j hj
  refine ⟨a, b, d, h1, h2, by omega, ?_, ?_, ?_, ?_, CW_in w1 (by omega) e, CW_in w2 (by omega) e⟩
  · rw [e22 _ (by omega)]; exact q3
  · rw [e22 _ (by omega)]; exact q4
  · rw [e22 _ (by omega)]; exact q5
  · rw [e22 _ (by omega)]; exact q6
def LR (o y : Ob) (k : Nat) : Prop := Kp [1, 8, 11, 13, 20, 34, 38, 43, 56, 57, 58, 59, 62] [2, 3, 4, 5, 7, 10, 12, 42, 48, 50, 51, 55, 61] [(0, 1), (1, 2), (29, 36), (36, 64), (64, 71)] o y ∧ ((gI y 19 = 0 ∧ (∃ c', LB y (k + 1) c' ∧ LC y (k + 1) c') ∧ (gI o 14).toInt < (gI y 14).toInt) ∨ (gI y 19 = 1 ∧ IvX9 y ∧ (gI y 15).toInt ≤ (gI y 13).toInt ∧ TK y))
theorem ad22 {v2 n : Int32} {k i : Nat} (e2 : v2.toInt = 8 * (k : Int)) (en : n.toInt = (i : Int)) (hk : k < 12) (hi : i < 8) : (v2 + n).toInt = 8 * (k : Int) + i ∧ (v2 + n).toNatClampNeg = 8 * k + i ∧ zin (v2 + n) 96 = true := by
  have t : (v2 + n).toInt = 8 * (k : Int) + i := i32_add e2 en (by omega) (by omega)
  exact ⟨t, tnc_eq (by omega), zin_of (m := 96) rfl (by omega) (by omega)⟩
-- behind the sum of a clause
theorem w_rl135 (o0 : Ob) (k a b : Nat) (hk : k < 12) (v2 : Int32) (e2 : v2.toInt = 8 * (k : Int)) (f0 : Int) (o : Ob) (hK : Kp [1, 8, 11, 13, 20, 34, 38, 43, 56, 57, 58, 59, 62] [2, 3, 4, 5, 7, 10, 12, 42, 48, 50, 51, 55, 61] [(0, 1), (1, 2), (29, 36), (36, 64), (64, 71)] o0 o) (h19 : gI o 19 = 0 ∨ gI o 19 = 1) (hI : IvX9 o) (hr : (gI o 15).toInt ≤ (gI o 13).toInt) (ht : TK o)
    (hok : gI o 19 = 0 → LB o (k + 1) b ∧ LC o k a ∧ a ≤ b ∧ (gA o 22 (8 * k + 3)).toInt = (a : Int) ∧ CW (gA o 24) (gA o 25) a b ∧ f0 < (gI o 14).toInt) :
    wp (bk_X9_readLaw_135 v2 o) (fun y => Kp [1, 8, 11, 13, 20, 34, 38, 43, 56, 57, 58, 59, 62] [2, 3, 4, 5, 7, 10, 12, 42, 48, 50, 51, 55, 61] [(0, 1), (1, 2), (29, 36), (36, 64), (64, 71)] o0 y ∧ ((gI y 19 = 0 ∧ (∃ c', LB y (k + 1) c' ∧ LC y (k + 1) c') ∧ f0 < (gI y 14).toInt) ∨ (gI y 19 = 1 ∧ IvX9 y ∧ (gI y 15).toInt ≤ (gI y 13).toInt ∧ TK y))) := by
  have i3 := ad22 (n := 3) (i := 3) e2 (by decide) hk (by omega)
  have i4 := ad22 (n := 4) (i := 4) e2 (by decide) hk (by omega)
  have i5 := ad22 (n := 5) (i := 5) e2 (by decide) hk (by omega)
  have i6 := ad22 (n := 6) (i := 6) e2 (by decide) hk (by omega)
  unfold bk_X9_readLaw_135
  refine wp_gd i4.2.2 ?_
  rw [i4.2.1]
  refine wp_lt (fun o9 e9 => ?_)
  refine wp_gd i5.2.2 ?_
  rw [i5.2.1]
  refine wp_lt (fun o11 e11 => ?_)
  have k23 : gI o9 23 = gI o 23 := by rw [e9]; rfl
  rw [k23] at e11
  have hI11 : IvX9 o11 := by rw [e11, e9]; exact hI
  have hK11 : Kp [1, 8, 11, 13, 20, 34, 38, 43, 56, 57, 58, 59, 62] [2, 3, 4, 5, 7, 10, 12, 42, 48, 50, 51, 55, 61] [(0, 1), (1, 2), (29, 36), (36, 64), (64, 71)] o0 o11 := (hK.trans (Kp.trans (o' := o9) (by rw [e9]; exact Kp.tA (by decide) (by decide)) (by rw [e11]; exact Kp.tA (by decide) (by decide))))
  have k19 : gI o11 19 = gI o 19 := by rw [e11, e9]; rfl
  have k14 : gI o11 14 = gI o 14 := by rw [e11, e9]; rfl
  have k24 : gA o11 24 = gA o 24 := by rw [e11, e9]; rfl
  have k25 : gA o11 25 = gA o 25 := by rw [e11, e9]; rfl
  have hr11 : (gI o11 15).toInt ≤ (gI o11 13).toInt := by rw [e11, e9]; exact hr
  have ht11 : TK o11 := by rw [e11, e9]; exact ht
  have q22 : ∀ i, gA o11 22 i = if i = 8 * k + 5 then gI o 23 else if i = 8 * k + 4 then gI o 23 else gA o 22 i := by
    intro i
    rw [e11, upd_at, e9, upd_at]
  have h185 : ∀ (y : Ob) (d : Nat), Kp [1, 8, 11, 13, 20, 34, 38, 43, 56, 57, 58, 59, 62] [2, 3, 4, 5, 7, 10, 12, 42, 48, 50, 51, 55, 61] [(0, 1), (1, 2), (29, 36), (36, 64), (64, 71)] o0 y → (gI y 19 = 0 ∨ gI y 19 = 1) → IvX9 y → (gI y 15).toInt ≤ (gI y 13).toInt → TK y → (gI y 19 = 0 → LB y (k + 1) d ∧ f0 < (gI y 14).toInt ∧ LC y k a ∧ a ≤ b ∧ b ≤ d ∧ (gA y 22 (8 * k + 3)).toInt = (a : Int) ∧ (gA y 22 (8 * k + 4)).toInt = (b : Int) ∧ (gA y 22 (8 * k + 5)).toInt = (b : Int) ∧ CW (gA y 24) (gA y 25) a b ∧ CW (gA y 24) (gA y 25) b d) →
      wp (bk_X9_readLaw_185 v2 y) (fun y => Kp [1, 8, 11, 13, 20, 34, 38, 43, 56, 57, 58, 59, 62] [2, 3, 4, 5, 7, 10, 12, 42, 48, 50, 51, 55, 61] [(0, 1), (1, 2), (29, 36), (36, 64), (64, 71)] o0 y ∧ ((gI y 19 = 0 ∧ (∃ c', LB y (k + 1) c' ∧ LC y (k + 1) c') ∧ f0 < (gI y 14).toInt) ∨ (gI y 19 = 1 ∧ IvX9 y ∧ (gI y 15).toInt ≤ (gI y 13).toInt ∧ TK y))) := by
    intro y d y1 y2 y3 y4 y5 y6
    unfold bk_X9_readLaw_185
    refine wp_gd i6.2.2 ?_
    rw [i6.2.1]
    refine wp_lt (fun o13 e13 => ?_)
    refine wp_some ⟨y1.trans (by rw [e13]; exact Kp.tA (by decide) (by decide)), ?_⟩
    rcases y2 with y2 | y2
    · obtain ⟨r1, r2, r3, r4, r5, r6, r7, r8, r9, r10⟩ := y6 y2
      have g22 : ∀ i, gA o13 22 i = if i = 8 * k + 6 then gI y 23 else gA y 22 i := by intro i; rw [e13, upd_at]
      refine Or.inl ⟨by rw [e13]; exact y2, ⟨d, by rw [e13]; exact r1, fun j hj => ?_⟩, by rw [e13]; exact r2⟩
      by_cases e : j = k
      · subst e
        refine ⟨a, b, d, r4, r5, Nat.le_refl _, ?_, ?_, ?_, ?_, ?_, ?_⟩
        · rw [g22, if_neg (by omega)]; exact r6
        · rw [g22, if_neg (by omega)]; exact r7
        · rw [g22, if_neg (by omega)]; exact r8
        · rw [g22, if_pos rfl]; exact r1.2.2.2.2.2.1
        · rw [e13]; exact r9
        · rw [e13]; exact r10
      · obtain ⟨a', b', d', h1, h2, h3, q3, q4, q5, q6, w1, w2⟩ := r3 j (by omega)
        refine ⟨a', b', d', h1, h2, by omega, ?_, ?_, ?_, ?_, by rw [e13]; exact w1, by rw [e13]; exact w2⟩
        · rw [g22, if_neg (by omega)]; exact q3
        · rw [g22, if_neg (by omega)]; exact q4
        · rw [g22, if_neg (by omega)]; exact q5
        · rw [g22, if_neg (by omega)]; exact q6
    · exact Or.inr ⟨by rw [e13]; exact y2, by rw [e13]; exact y3, by rw [e13]; exact y4, by rw [e13]; exact y5⟩
  have hsame : gI o 19 = 0 → LB o11 (k + 1) b ∧ f0 < (gI o11 14).toInt ∧ LC o11 k a ∧ a ≤ b ∧ b ≤ b ∧ (gA o11 22 (8 * k + 3)).toInt = (a : Int) ∧ (gA o11 22 (8 * k + 4)).toInt = (b : Int) ∧ (gA o11 22 (8 * k + 5)).toInt = (b : Int) ∧ CW (gA o11 24) (gA o11 25) a b ∧ CW (gA o11 24) (gA o11 25) b b := by
    intro h
    obtain ⟨r1, r2, r3, r4, r5, r6⟩ := hok h
    have hb23 := r1.2.2.2.2.2.1
    refine ⟨by rw [e11, e9]; exact r1, by rw [k14]; exact r6, r2.ext (Nat.le_refl _) (fun i hi => ?_) (fun j hj => ⟨by rw [k24], by rw [k25]⟩), r3, Nat.le_refl _, ?_, ?_, ?_, by rw [k24, k25]; exact r5, ⟨fun _ => 0, rfl, fun j h1 h2 => by omega⟩⟩
    · rw [q22, if_neg (by omega), if_neg (by omega)]
    · rw [q22, if_neg (by omega), if_neg (by omega)]; exact r4
    · rw [q22, if_neg (by omega), if_pos rfl]; exact hb23
    · rw [q22, if_pos rfl]; exact hb23
  refine wp_if (fun c0 => ?_) (fun c0 => ?_)
  · have c0' : gI o 19 = 0 := k19.symm.trans c0
    have hs := hsame c0'
    refine wp_bd (w_word o11 294) (fun z14 hz14 => ?_)
    refine wp_if (fun _ => ?_) (fun d => ?_)
    · exact h185 o11 b hK11 (Or.inl c0) hI11 hr11 ht11 (fun _ => hs)
    · refine wp_bd (h_next o11 hI11 hr11) (fun z15 hz15 => ?_)
      obtain ⟨n1, n2, n3, n4, n5⟩ := hz15
      have m19 : gI z15 19 = 0 := (n2.1 19 (by decide)).trans c0
      have m23 : (gI z15 23).toInt = (b : Int) := by rw [n2.1 23 (by decide)]; exact hs.1.2.2.2.2.2.1
      have t1 := ht11.1
      have m14 := hs.1.2.2.2.2.2.2
      refine wp_bd (w_readExpression z15 n1 n3 n4 m19 b m23 (by omega) 1) (fun z16 hz16 => ?_)
      obtain ⟨x1, x2, d2, x3, x4, x5, x6⟩ := hz16
      have g22 : gA z16 22 = gA o11 22 := (x1.2.1.2.1 22 (by decide)).trans (n2.2.1 22 (by decide))
      have m21 : gI z16 21 = gI o11 21 := (x1.2.1.1 21 (by decide)).trans (n2.1 21 (by decide))
      have hlow : ∀ j, j < b → gA z16 24 j = gA o11 24 j ∧ gA z16 25 j = gA o11 25 j := by
        intro j hj
        have q := x1.2.2.2.2.1 j hj
        rw [n2.2.1 24 (by decide), n2.2.1 25 (by decide)] at q
        exact q
      refine h185 z16 d2 ((hK11.trans (n2.mono (by decide) (by decide) (by decide))).trans (x1.2.1.mono (by decide) (by decide) (by decide))) x2 x1.1 x1.2.2.1 x1.2.2.2.1 (fun h => ?_)
      obtain ⟨s1, s2, s3, s4, s5, s6, s7, s8, s9, s10⟩ := hs
      refine ⟨⟨x1.1, x1.2.2.1, x1.2.2.2.1, by rw [m21]; exact s1.2.2.2.1, s1.2.2.2.2.1, x3, x5⟩, ?_, s3.ext (Nat.le_refl _) (fun i _ => by rw [g22]) (fun j hj => hlow j (by omega)), s4, x4, by rw [g22]; exact s6, by rw [g22]; exact s7, by rw [g22]; exact s8, CW_in s9 (Nat.le_refl _) hlow, x6 h⟩
      have fr : (gI z15 14).toInt ≤ (gI z16 14).toInt := by
        exact x1.2.2.2.2.2
      omega
  · rcases h19 with h | h
    · exact absurd (k19.trans h) c0
    · exact h185 o11 b hK11 (Or.inr (k19.trans h)) hI11 hr11 ht11 (fun h2 => absurd (((k19.trans h).symm).trans h2) (by decide))
theorem w_rl75 (o0 : Ob) (k c : Nat) (hk : k < 12) (v1 v2 : Int32) (e2 : v2.toInt = 8 * (k : Int)) (f0 : Int) :
    ∀ (N : Nat) (v3 : Int32) (o : Ob), Kp [1, 8, 11, 13, 20, 34, 38, 43, 56, 57, 58, 59, 62] [2, 3, 4, 5, 7, 10, 12, 42, 48, 50, 51, 55, 61] [(0, 1), (1, 2), (29, 36), (36, 64), (64, 71)] o0 o → gI o 19 = 0 → LB o k c → LC o k c → f0 < (gI o 14).toInt → 0 ≤ v3.toInt → v3.toInt ≤ 8 → 8 < (N : Int) + v3.toInt →
      wp (lp_X9_readLaw_75 N (v1, v2, v3, o)) (fun y => Kp [1, 8, 11, 13, 20, 34, 38, 43, 56, 57, 58, 59, 62] [2, 3, 4, 5, 7, 10, 12, 42, 48, 50, 51, 55, 61] [(0, 1), (1, 2), (29, 36), (36, 64), (64, 71)] o0 y ∧ ((gI y 19 = 0 ∧ (∃ c', LB y (k + 1) c' ∧ LC y (k + 1) c') ∧ f0 < (gI y 14).toInt) ∨ (gI y 19 = 1 ∧ IvX9 y ∧ (gI y 15).toInt ≤ (gI y 13).toInt ∧ TK y))) := by
  intro N
  induction N with
  | zero => intro v3 o _ _ _ _ _ _ _ _; exfalso; omega
  | succ N ih =>
    intro v3 o hK h0 hL hC hf h3 h3b hN
    show wp (lb_X9_readLaw_75 (lp_X9_readLaw_75 N) v1 v2 v3 o) _
    unfold lb_X9_readLaw_75
    refine wp_if (fun c8 => ?_) (fun c8 => ?_)
    · have i3 := ad22 (n := 3) (i := 3) e2 (by decide) hk (by omega)
      have n0 : v2.toNatClampNeg = 8 * k := tnc_eq (by omega)
      refine wp_gd (zin_of (m := 96) rfl (by omega) (by omega)) ?_
      rw [n0]
      refine wp_lt (fun o4 e4 => ?_)
      refine wp_lt (fun o5 e5 => ?_)
      refine wp_gd i3.2.2 ?_
      rw [i3.2.1]
      refine wp_lt (fun o7 e7 => ?_)
      have k21 : gI o4 21 = gI o 21 := by rw [e4]; rfl
      have t21 : ((gI o4 21) + (1 : Int32)).toInt = ((k + 1 : Nat) : Int) := by
        have t : ((gI o4 21) + (1 : Int32)).toInt = (k : Int) + 1 := i32_add (by rw [k21]; exact hL.2.2.2.1) (by decide) (by omega) (by omega)
        omega
      have k23 : gI o5 23 = gI o 23 := by rw [e5, e4]; rfl
      rw [k23] at e7
      have hI4 : IvX9 o4 := by rw [e4]; exact hL.1
      have hI5 : IvX9 o5 := by rw [e5]; exact ipX9_21 hI4 ⟨by omega, by omega⟩
      have hI7 : IvX9 o7 := by rw [e7]; exact hI5
      have hK7 : Kp [1, 8, 11, 13, 20, 34, 38, 43, 56, 57, 58, 59, 62] [2, 3, 4, 5, 7, 10, 12, 42, 48, 50, 51, 55, 61] [(0, 1), (1, 2), (29, 36), (36, 64), (64, 71)] o0 o7 := hK.trans (Kp.trans (o' := o4) (by rw [e4]; exact Kp.tA (by decide) (by decide)) (Kp.trans (o' := o5) (by rw [e5]; exact Kp.sI (by decide)) (by rw [e7]; exact Kp.tA (by decide) (by decide))))
      have k19 : gI o7 19 = 0 := by rw [e7, e5, e4]; exact h0
      have hLB7 : LB o7 (k + 1) c := by
        refine ⟨hI7, by rw [e7, e5, e4]; exact hL.2.1, by rw [e7, e5, e4]; exact hL.2.2.1, ?_, by omega, by rw [e7, e5, e4]; exact hL.2.2.2.2.2.1, by rw [e7, e5, e4]; exact hL.2.2.2.2.2.2⟩
        rw [e7, e5]; exact t21
      have q22 : ∀ i, gA o7 22 i = if i = 8 * k + 3 then gI o 23 else if i = 8 * k then v1 else gA o 22 i := by
        intro i
        rw [e7, upd_at]
        have e : gA o5 22 i = if i = 8 * k then v1 else gA o 22 i := by rw [e5, e4]; exact upd_at
        rw [e]
      have k24 : gA o7 24 = gA o 24 := by rw [e7, e5, e4]; rfl
      have k25 : gA o7 25 = gA o 25 := by rw [e7, e5, e4]; rfl
      have hC7 : LC o7 k c := hC.ext (Nat.le_refl _) (fun i hi => by rw [q22, if_neg (by omega), if_neg (by omega)]) (fun j _ => ⟨by rw [k24], by rw [k25]⟩)
      have q3 : (gA o7 22 (8 * k + 3)).toInt = (c : Int) := by rw [q22, if_pos rfl]; exact hL.2.2.2.2.2.1
      have k14 : gI o7 14 = gI o 14 := by rw [e7, e5, e4]; rfl
      refine wp_if (fun _ => ?_) (fun _ => ?_)
      · exact w_rl135 o0 k c c hk v2 e2 f0 o7 hK7 (Or.inl k19) hI7 hLB7.2.1 hLB7.2.2.1 (fun _ => ⟨hLB7, hC7, Nat.le_refl _, q3, ⟨fun _ => 0, rfl, fun j h1 h2 => by omega⟩, by rw [k14]; exact hf⟩)
      · refine wp_bd (w_readExpression o7 hI7 hLB7.2.1 hLB7.2.2.1 k19 c hLB7.2.2.2.2.2.1 hLB7.2.2.2.2.2.2 0) (fun z hz => ?_)
        obtain ⟨x1, x2, d2, x3, x4, x5, x6⟩ := hz
        have g22 : gA z 22 = gA o7 22 := x1.2.1.2.1 22 (by decide)
        have m21 : gI z 21 = gI o7 21 := x1.2.1.1 21 (by decide)
        refine w_rl135 o0 k c d2 hk v2 e2 f0 z (hK7.trans (x1.2.1.mono (by decide) (by decide) (by decide))) x2 x1.1 x1.2.2.1 x1.2.2.2.1 (fun h => ⟨⟨x1.1, x1.2.2.1, x1.2.2.2.1, by rw [m21]; exact hLB7.2.2.2.1, hLB7.2.2.2.2.1, x3, x5⟩, hC7.ext (Nat.le_refl _) (fun i _ => by rw [g22]) x1.2.2.2.2.1, x4, by rw [g22]; exact q3, x6 h, ?_⟩)
        have fr := x1.2.2.2.2.2
        rw [k14] at fr
        omega
    · have c8 := cv_nle (a := 8) (b := v3.toInt) (by decide) rfl c8
      have i3 := ad22 (n := v3) (i := v3.toInt.toNat) e2 (by omega) hk (by omega)
      refine wp_gd i3.2.2 ?_
      rw [i3.2.1]
      refine wp_lt (fun o19 e19 => ?_)
      refine wp_lt (fun x20 e20 => ?_)
      have t20 : x20.toInt = v3.toInt + 1 := by rw [e20]; exact i32_add rfl (by decide) (by omega) (by omega)
      refine ih x20 o19 (hK.trans (by rw [e19]; exact Kp.tA (by decide) (by decide))) (by rw [e19]; exact h0) (by rw [e19]; exact hL) (hC.ext (Nat.le_refl _) (fun i hi => ?_) (fun j _ => ⟨by rw [e19]; rfl, by rw [e19]; rfl⟩)) (by rw [e19]; exact hf) (by omega) (by omega) (by omega)
      rw [e19, upd_at, if_neg (by omega)]
theorem w_readLaw (o : Ob) (k c : Nat) (h0 : gI o 19 = 0) (hL : LB o k c) (hC : LC o k c) : wp (f_X9_readLaw o) (fun y => LR o y k) := by
  have hB13 := igX9_13 hL.1
  have h54 : ∀ v1 s0 : Int32, (¬ s0 = 0 → gI o 16 = 1 ∧ k < 12) → wp (bk_X9_readLaw_54 v1 s0 o) (fun y => LR o y k) := by
    intro v1 s0 hs
    unfold bk_X9_readLaw_54
    refine wp_bd (h_must o s0 hL.1 hL.2.1 hL.2.2.1 h0) (fun z hz => ?_)
    obtain ⟨g1, g2, g3, g4, g5⟩ := hz
    have g2' : Kp [1, 8, 11, 13, 20, 34, 38, 43, 56, 57, 58, 59, 62] [2, 3, 4, 5, 7, 10, 12, 42, 48, 50, 51, 55, 61] [(0, 1), (1, 2), (29, 36), (36, 64), (64, 71)] o z := g2.mono (by decide) (by decide) (by decide)
    rcases g5 with ⟨g5, g6, g7⟩ | ⟨g5, g6⟩
    · refine wp_if (fun _ => ?_) (fun d => absurd g5 d)
      obtain ⟨hs1, hs2⟩ := hs g6
      have htk := hL.2.2.1.2.1 (by rw [hs1]; decide)
      have k21 : (gI z 21).toInt = (k : Int) := by rw [g2.1 21 (by decide)]; exact hL.2.2.2.1
      have k23 : (gI z 23).toInt = (c : Int) := by rw [g2.1 23 (by decide)]; exact hL.2.2.2.2.2.1
      refine wp_lt (fun x2 e2 => ?_)
      have t2 : x2.toInt = 8 * (k : Int) := by rw [e2]; exact i32_mul (by decide) k21 (by omega) (by omega)
      have z0 : (0 : Int32).toInt = 0 := by decide
      have hcf := hL.2.2.2.2.2.2
      refine w_rl75 o k c hs2 v1 x2 t2 (gI o 14).toInt zfu 0 z g2' g5 ⟨g1, g3, g4, k21, by omega, k23, by omega⟩ (hC.ext (Nat.le_refl _) (fun i _ => by rw [g2.2.1 22 (by decide)]) (fun j _ => ⟨by rw [g2.2.1 24 (by decide)], by rw [g2.2.1 25 (by decide)]⟩)) (by omega) (by omega) (by omega) (by show (8 : Int) < ((100000 : Nat) : Int) + _; omega)
    · refine wp_if (fun d => absurd (g5.symm.trans d) (by decide)) (fun _ => ?_)
      exact wp_some ⟨g2', Or.inr ⟨g5, g1, g3, g4⟩⟩
  have loop : ∀ (N : Nat) (v1 v2 : Int32), (¬ v1 = -1 → gI o 16 = 1) → 0 ≤ v2.toInt → v2.toInt ≤ 4 → 4 < (N : Int) + v2.toInt → wp (lp_X9_readLaw_4 N (v1, v2, o)) (fun y => LR o y k) := by
    intro N
    induction N with
    | zero => intro v1 v2 _ _ _ _; exfalso; omega
    | succ N ih =>
      intro v1 v2 hv h2 h2b hN
      show wp (lb_X9_readLaw_4 (lp_X9_readLaw_4 N) v1 v2 o) _
      unfold lb_X9_readLaw_4
      refine wp_if (fun _ => ?_) (fun c4 => ?_)
      · refine wp_if (fun _ => h54 v1 0 (fun h => absurd rfl h)) (fun d => ?_)
        refine wp_if (fun _ => h54 v1 0 (fun h => absurd rfl h)) (fun d2 => ?_)
        have d2 := cv_nle (a := 12) (b := (gI o 21).toInt) (by decide) rfl d2
        have k21 := hL.2.2.2.1
        exact h54 v1 1 (fun _ => ⟨hv d, by omega⟩)
      · have c4 := cv_nle (a := 4) (b := v2.toInt) (by decide) rfl c4
        have h27 : ∀ s0 : Int32, (¬ s0 = -1 → gI o 16 = 1) → wp (bk_X9_readLaw_27 (lp_X9_readLaw_4 N) v2 s0 o) (fun y => LR o y k) := by
          intro s0 hs
          unfold bk_X9_readLaw_27
          refine wp_lt (fun x23 e23 => ?_)
          have t23 : x23.toInt = v2.toInt + 1 := by rw [e23]; exact i32_add rfl (by decide) (by omega) (by omega)
          exact ih s0 x23 hs (by omega) (by omega) (by omega)
        refine wp_gd (zin_of (m := 4) rfl (by omega) (by omega)) ?_
        refine wp_bd (w_word o _) (fun z hz => ?_)
        exact wp_if (fun _ => h27 v1 hv) (fun d => h27 v2 (fun _ => (hz d).1))
  have z0 : (0 : Int32).toInt = 0 := by decide
  unfold f_X9_readLaw
  exact loop zfu (-1) 0 (fun h => absurd rfl h) (by omega) (by omega) (by show (4 : Int) < ((100000 : Nat) : Int) + _; omega)
theorem w_beginText (o : Ob) (hI : IvX9 o) (p0 : Int32) (h0 : 0 ≤ p0.toInt) (h1 : p0.toInt ≤ 1) : wp (f_X9_beginText o p0) (fun y => Kp [1, 8, 11, 13, 29, 34, 38, 43, 56, 57, 58, 59, 62] [2, 3, 4, 5, 7, 10, 12, 22, 24, 25, 27, 28, 42, 48, 50, 51, 55, 61] [(0, 1), (1, 2), (29, 36), (36, 64), (64, 71)] o y ∧ gI y 19 = 0 ∧ gI y 20 = p0 ∧ LB y 0 0) := by
  have b13 := igX9_13 hI
  unfold f_X9_beginText
  refine wp_gd (zbo_of h0 h1) ?_
  refine wp_lt (fun o2 e2 => ?_)
  have hI2 : IvX9 o2 := by rw [e2]; exact ipX9_20 hI ⟨h0, h1⟩
  unfold f_X9_begin
  have hin : wp ((zlt (sI o2 15 (0 : Int32)) fun o1 => zlt (sI o1 19 (0 : Int32)) fun o2 => zlt (sI o2 18 (-1 : Int32)) fun o3 => (f_X9_next o3).bind fun z4 => some z4)) (fun y => IvX9 y ∧ Kp [1, 8, 11, 13, 20, 21, 23, 26, 29, 34, 38, 43, 56, 57, 58, 59, 62] [2, 3, 4, 5, 7, 10, 12, 22, 24, 25, 27, 28, 42, 48, 50, 51, 55, 61] [(0, 1), (1, 2), (29, 36), (36, 64), (64, 71)] o2 y ∧ (gI y 15).toInt ≤ (gI y 13).toInt ∧ TK y ∧ 0 ≤ (gI y 14).toInt ∧ gI y 19 = 0 ∧ gI y 20 = p0) := by
    refine wp_lt (fun q1 f1 => ?_)
    refine wp_lt (fun q2 f2 => ?_)
    refine wp_lt (fun q3 f3 => ?_)
    have a1 : IvX9 q1 := by rw [f1]; exact ipX9_15 hI2 ⟨by decide, by decide⟩
    have a2 : IvX9 q2 := by rw [f2]; exact ipX9_19 a1 ⟨by decide, by decide⟩
    have a3 : IvX9 q3 := by rw [f3]; exact a2
    have k13 : gI q3 13 = gI o 13 := by rw [f3, f2, f1, e2]; rfl
    have k15 : gI q3 15 = 0 := by rw [f3, f2, f1]; rfl
    have z0 : (0 : Int32).toInt = 0 := by decide
    refine wp_bd (h_next q3 a3 (by rw [k13, k15]; omega)) (fun z hz => ?_)
    obtain ⟨g1, g2, g3, g4, g5⟩ := hz
    refine wp_some ⟨g1, ?_, g3, g4, by rw [k15, z0] at g5; exact g5, ?_, ?_⟩
    · exact (Kp.trans (o' := q1) (by rw [f1]; exact Kp.sI (by decide)) (Kp.trans (o' := q2) (by rw [f2]; exact Kp.sI (by decide)) (by rw [f3]; exact Kp.sI (by decide)))).trans (g2.mono (by decide) (by decide) (by decide))
    · rw [g2.1 19 (by decide), f3, f2]; rfl
    · rw [g2.1 20 (by decide), f3, f2, f1, e2]; rfl
  refine wp_bd hin (fun z hz => ?_)
  obtain ⟨g1, g2, g3, g4, g5, g6, g7⟩ := hz
  refine wp_lt (fun o4 e4 => ?_)
  refine wp_lt (fun o5 e5 => ?_)
  refine wp_lt (fun o6 e6 => ?_)
  have a4 : IvX9 o4 := by rw [e4]; exact ipX9_21 g1 ⟨by decide, by decide⟩
  have a5 : IvX9 o5 := by rw [e5]; exact ipX9_23 a4 ⟨by decide, by decide⟩
  have a6 : IvX9 o6 := by rw [e6]; exact ipX9_26 a5 ⟨by decide, by decide⟩
  refine wp_some ⟨?_, ?_, ?_, a6, ?_, ?_, ?_, by omega, ?_, ?_⟩
  · exact (Kp.trans (o' := o2) (by rw [e2]; exact Kp.sI (by decide)) (g2.mono (by decide) (by decide) (by decide))).trans (Kp.trans (o' := o4) (by rw [e4]; exact Kp.sI (by decide)) (Kp.trans (o' := o5) (by rw [e5]; exact Kp.sI (by decide)) (by rw [e6]; exact Kp.sI (by decide))))
  · rw [e6, e5, e4]; exact g6
  · rw [e6, e5, e4]; exact g7
  · rw [e6, e5, e4]; exact g3
  · rw [e6, e5, e4]; exact g4
  · rw [e6, e5, e4]; exact (by decide : (0 : Int32).toInt = ((0 : Nat) : Int))
  · rw [e6, e5]; exact (by decide : (0 : Int32).toInt = ((0 : Nat) : Int))
  · rw [e6, e5, e4]; exact g5
theorem w_endText (o : Ob) (hI : IvX9 o) (hr : (gI o 15).toInt ≤ (gI o 13).toInt) : wp (f_X9_endText o) (fun y => IvX9 y ∧ Kp [1, 8, 11, 21, 23, 26, 29, 34, 38, 43, 56, 57, 58, 59, 62] [2, 3, 4, 5, 7, 10, 12, 22, 24, 25, 27, 28, 42, 48, 50, 51, 55, 61] [(0, 1), (1, 2), (29, 36), (36, 64), (64, 71)] o y ∧ gI y 20 = 0 ∧ (gI y 19 = 0 → gI o 19 = 0) ∧ gI y 13 = 0) := by
  obtain ⟨y, e, h1, h2⟩ := s_X9_endText o hI (by omega)
  have hz : gI y 20 = 0 ∧ gI y 13 = 0 := by
    unfold f_X9_endText at e
    have h19 : ∀ q : Ob, bk_X9_endText_19 q = some y → gI y 20 = 0 ∧ gI y 13 = 0 := by
      intro q hq
      have hq : some (sI (sI q 20 (0 : Int32)) 13 (0 : Int32)) = some y := hq
      rw [← Option.some.inj hq]; exact ⟨rfl, rfl⟩
    by_cases c : gI o 19 = 0
    · have e := z_t e c
      by_cases d : gI o 16 = 0
      · exact h19 _ (z_t e d)
      · obtain ⟨z, -, e⟩ := z_bd (z_f e d)
        exact h19 _ e
    · exact h19 _ (z_f e c)
  refine ⟨y, e, h1, h2, hz.1, fun h => ?_, hz.2⟩
  by_cases c : gI o 19 = 0
  · exact c
  · unfold f_X9_endText at e
    have e := z_f e c
    have hq : some (sI (sI o 20 (0 : Int32)) 13 (0 : Int32)) = some y := e
    rw [← Option.some.inj hq] at h
    exact absurd h c
-- the law is laid into its place
def RW9 (z o : Ob) (s : Nat) : Prop := (∀ i, gI o i = gI z i) ∧ gL o 60 = gL z 60 ∧ (∀ i, i ≠ 3 → gA o i = gA z i) ∧ (∀ j, j < s ∨ s + 900 ≤ j → gA o 3 j = gA z 3 j) ∧ gA o 3 (s + 1) = gI z 21
theorem RW9.up {z o : Ob} {s n : Nat} {v : Int32} (h : RW9 z o s) (h1 : s + 2 ≤ n) (h2 : n < s + 900) : RW9 z (tA o 3 n v) s := by
  obtain ⟨a1, a2, a3, a4, a5⟩ := h
  refine ⟨a1, a2, fun i hi => (fset_ne hi).trans (a3 i hi), fun j hj => ?_, ?_⟩
  · rw [upd_at, if_neg (by omega)]; exact a4 j hj
  · rw [upd_at, if_neg (by omega)]; exact a5
theorem h_law145 (o0 z : Ob) (l k c : Nat) (hl : l < 6) (hk : k ≤ 12) (hc : c ≤ 400) (hI : IvX9 z) (hK : Kp [8, 11, 34, 38, 43, 56, 57, 58, 59, 62] [4, 5, 7, 10, 12, 42, 48, 50, 51, 55, 61] [(0, 1), (1, 2), (29, 36), (36, 64), (64, 71)] o0 z) (k20 : gI z 20 = 0) (e2 : (gA z 3 (2 : Int32).toNatClampNeg).toInt = (l : Int)) (e21 : (gI z 21).toInt = (k : Int)) (e23 : (gI z 23).toInt = (c : Int)) (hC : LC z k c) (v1 : Int32) (ev : v1.toInt = 84 + 900 * (l : Int)) :
    ∀ (N : Nat) (v2 : Int32) (o : Ob) (m : Nat), v2.toInt = (m : Int) → m ≤ c → RW9 z o (84 + 900 * l) → (∀ i, i < 8 * k → gA o 3 (84 + 900 * l + 2 + i) = gA z 22 i) → (∀ i, i < m → gA o 3 (84 + 900 * l + 98 + 2 * i) = gA z 24 i ∧ gA o 3 (84 + 900 * l + 98 + 2 * i + 1) = gA z 25 i) → c < N + m →
      wp (lp_X9_law_145 N (v1, v2, o)) (fun y => IvX9 y.2 ∧ Kp [8, 11, 34, 38, 43, 56, 57, 58, 59, 62] [4, 5, 7, 10, 12, 42, 48, 50, 51, 55, 61] [(0, 1), (1, 2), (29, 36), (36, 64), (64, 71)] o0 y.2 ∧ gI y.2 20 = 0) := by
  intro N
  induction N with
  | zero => intro v2 o m _ _ _ _ _ _; exfalso; omega
  | succ N ih =>
    intro v2 o m em hm hR h22 hop hN
    show wp (lb_X9_law_145 (lp_X9_law_145 N) v1 v2 o) _
    unfold lb_X9_law_145
    have hR' := hR
    obtain ⟨r1, r2, r3, r4, r5⟩ := hR
    have n2 : (2 : Int32).toNatClampNeg = 2 := by decide
    have g2 : gA o 3 (2 : Int32).toNatClampNeg = gA z 3 (2 : Int32).toNatClampNeg := by rw [n2]; exact r4 2 (by omega)
    refine wp_if (fun d => ?_) (fun d => ?_)
    · rw [r1 23] at d
      have d := cv_le (a := (gI z 23).toInt) (b := v2.toInt) rfl rfl d
      have emc : m = c := by omega
      subst emc
      have hx := h9last hI
      have hs3 := segX9_3 hI
      have hWL : WL (gA o 3) (84 + 900 * l) := by
        refine ⟨?_, fun j hj => ?_⟩
        · rw [r5]; omega
        · rw [r5, e21] at hj
          obtain ⟨a, b, d', h1, h2, h3, q3, q4, q5, q6, w1, w2⟩ := hC j (by omega)
          have q : ∀ i, i < 8 → gA o 3 (84 + 900 * l + 2 + 8 * j + i) = gA z 22 (8 * j + i) := by
            intro i hi
            have := h22 (8 * j + i) (by omega)
            rw [← this]
            exact congrArg (gA o 3) (by omega)
          refine ⟨a, b, d', h1, h2, by omega, ?_, ?_, ?_, ?_, ?_, ?_⟩
          · show (gA o 3 (84 + 900 * l + 2 + 8 * j + 3)).toInt = _
            rw [q 3 (by omega)]; exact q3
          · show (gA o 3 (84 + 900 * l + 2 + 8 * j + 4)).toInt = _
            rw [q 4 (by omega)]; exact q4
          · show (gA o 3 (84 + 900 * l + 2 + 8 * j + 5)).toInt = _
            rw [q 5 (by omega)]; exact q5
          · show (gA o 3 (84 + 900 * l + 2 + 8 * j + 6)).toInt = _
            rw [q 6 (by omega)]; exact q6
          · exact CW_eq (fun i hi => hop i (by omega)) w1
          · exact CW_eq (fun i hi => hop i (by omega)) w2
      have hIo : IvX9 o := by
        refine ivX9_of hI r1 r2 (fun i h3 _ => r3 i h3) ?_ ?_
        · refine sgd_pw.mpr (fun j s hs g1 g2 => ?_)
          have h84 := rowS_lt s hs
          rw [r4 j (by omega)]
          exact sgd_pw.mp hs3 j s hs g1 g2
        · rw [r3 4 (by decide), r3 6 (by decide), r3 9 (by decide)]
          refine ⟨fun l' hl' => ?_, hx.1.2⟩
          by_cases e : l' = l
          · subst e; exact hWL
          · exact WL_eqb (fun j h1 h2 => r4 j (by omega)) (hx.1.1 l' hl')
      have t2 : ((gA o 3 (2 : Int32).toNatClampNeg) + (1 : Int32)).toInt = (l : Int) + 1 := i32_add (by rw [g2]; exact e2) (by decide) (by omega) (by omega)
      refine wp_lt (fun o8 e8 => ?_)
      have hI8 : IvX9 o8 := by
        rw [e8]
        exact spX9_row (n := 2) hIo (by decide) (by decide) (fun s hs g1 g2' => by
          have hh : ∀ s ∈ rowS, s.1 ≤ 2 → 2 ≤ s.2.1 → s.2.2.1 ≤ 0 ∧ 6 ≤ s.2.2.2 := by decide
          have q := hh s hs g1 g2'
          omega)
      have hKo : Kp [8, 11, 34, 38, 43, 56, 57, 58, 59, 62] [4, 5, 7, 10, 12, 42, 48, 50, 51, 55, 61] [(0, 1), (1, 2), (29, 36), (36, 64), (64, 71)] o0 o := hK.trans ⟨fun i _ => r1 i, fun i hi => r3 i (fun e => by subst e; revert hi; decide), fun c' hc' j' _ g9 => by
        have e4 : ∀ c ∈ ([(0, 1), (1, 2), (29, 36), (36, 64), (64, 71)] : List (Nat × Nat)), c.2 ≤ 71 := by decide
        have q4 := e4 c' hc'
        exact r4 j' (Or.inl (by omega))⟩
      have hK8 : Kp [8, 11, 34, 38, 43, 56, 57, 58, 59, 62] [4, 5, 7, 10, 12, 42, 48, 50, 51, 55, 61] [(0, 1), (1, 2), (29, 36), (36, 64), (64, 71)] o0 o8 := hKo.trans (by rw [e8]; exact kp_bw (a := 2) (b := 3) (by decide) (by decide) (by decide) (by decide))
      have g8 : gA o8 3 (2 : Int32).toNatClampNeg = (gA o 3 (2 : Int32).toNatClampNeg) + (1 : Int32) := by rw [e8, upd_at, if_pos rfl]
      have t8 : ((gA o8 3 (2 : Int32).toNatClampNeg) - (1 : Int32)).toInt = (l : Int) + 1 - 1 := i32_sub (by rw [g8]; exact t2) (by decide) (by omega) (by omega)
      refine wp_bd (s_X9_tell o8 _ hI8 ⟨by omega, by omega⟩) (fun w hw => ?_)
      refine wp_some ⟨hw.2.1, hK8.trans (hw.2.2.mono (by decide) (by decide) (by decide)), ?_⟩
      show gI w.2 20 = 0
      rw [hw.2.2.1 20 (by decide), e8]
      exact (r1 20).trans k20
    · rw [r1 23] at d
      have d := cv_nle (a := (gI z 23).toInt) (b := v2.toInt) rfl rfl d
      have nm := tnc_eq em
      have a1 : (v1 + (98 : Int32)).toInt = 84 + 900 * (l : Int) + 98 := i32_add ev (by decide) (by omega) (by omega)
      have a2 : ((2 : Int32) * v2).toInt = 2 * (m : Int) := i32_mul (by decide) em (by omega) (by omega)
      have a3 : ((v1 + (98 : Int32)) + ((2 : Int32) * v2)).toInt = 84 + 900 * (l : Int) + 98 + 2 * (m : Int) := i32_add a1 a2 (by omega) (by omega)
      have a4 : (((v1 + (98 : Int32)) + ((2 : Int32) * v2)) + (1 : Int32)).toInt = 84 + 900 * (l : Int) + 98 + 2 * (m : Int) + 1 := i32_add a3 (by decide) (by omega) (by omega)
      have n3 : ((v1 + (98 : Int32)) + ((2 : Int32) * v2)).toNatClampNeg = 84 + 900 * l + 98 + 2 * m := tnc_eq (by omega)
      have n4 : (((v1 + (98 : Int32)) + ((2 : Int32) * v2)) + (1 : Int32)).toNatClampNeg = 84 + 900 * l + 98 + 2 * m + 1 := tnc_eq (by omega)
      refine wp_gd (zin_of (m := 400) rfl (by omega) (by omega)) ?_
      refine wp_gd (zin_of (m := 5484) rfl (by omega) (by omega)) ?_
      rw [n3, nm]
      refine wp_lt (fun o12 e12 => ?_)
      refine wp_gd (zin_of (m := 400) rfl (by omega) (by omega)) ?_
      refine wp_gd (zin_of (m := 5484) rfl (by omega) (by omega)) ?_
      rw [n4]
      refine wp_lt (fun o15 e15 => ?_)
      refine wp_lt (fun x16 e16 => ?_)
      have t16 : x16.toInt = ((m + 1 : Nat) : Int) := by
        have t : x16.toInt = (m : Int) + 1 := by rw [e16]; exact i32_add em (by decide) (by omega) (by omega)
        omega
      have hR12 : RW9 z o12 (84 + 900 * l) := by rw [e12]; exact hR'.up (by omega) (by omega)
      have hR15 : RW9 z o15 (84 + 900 * l) := by rw [e15]; exact hR12.up (by omega) (by omega)
      have q : ∀ j, gA o15 3 j = if j = 84 + 900 * l + 98 + 2 * m + 1 then gA z 25 m else if j = 84 + 900 * l + 98 + 2 * m then gA z 24 m else gA o 3 j := by
        intro j
        rw [e15, upd_at, hR12.2.2.1 25 (by decide), e12, upd_at, r3 24 (by decide)]
      refine ih x16 o15 (m + 1) t16 (by omega) hR15 (fun i hi => ?_) (fun i hi => ?_) (by omega)
      · rw [q, if_neg (by omega), if_neg (by omega)]; exact h22 i hi
      · by_cases e : i = m
        · subst e
          refine ⟨?_, ?_⟩
          · rw [q, if_neg (by omega), if_pos rfl]
          · rw [q, if_pos rfl]
        · have qq := hop i (by omega)
          refine ⟨?_, ?_⟩
          · rw [q, if_neg (by omega), if_neg (by omega)]; exact qq.1
          · rw [q, if_neg (by omega), if_neg (by omega)]; exact qq.2
theorem h_law110 (o0 z : Ob) (l k c : Nat) (hl : l < 6) (hk : k ≤ 12) (hc : c ≤ 400) (hI : IvX9 z) (hK : Kp [8, 11, 34, 38, 43, 56, 57, 58, 59, 62] [4, 5, 7, 10, 12, 42, 48, 50, 51, 55, 61] [(0, 1), (1, 2), (29, 36), (36, 64), (64, 71)] o0 z) (k20 : gI z 20 = 0) (e2 : (gA z 3 (2 : Int32).toNatClampNeg).toInt = (l : Int)) (e21 : (gI z 21).toInt = (k : Int)) (e23 : (gI z 23).toInt = (c : Int)) (hC : LC z k c) (v1 : Int32) (ev : v1.toInt = 84 + 900 * (l : Int)) :
    ∀ (N : Nat) (v2 : Int32) (o : Ob) (m : Nat), v2.toInt = (m : Int) → m ≤ 8 * k → RW9 z o (84 + 900 * l) → (∀ i, i < m → gA o 3 (84 + 900 * l + 2 + i) = gA z 22 i) → 8 * k < N + m →
      wp (lp_X9_law_110 N (v1, v2, o)) (fun y => IvX9 y.2 ∧ Kp [8, 11, 34, 38, 43, 56, 57, 58, 59, 62] [4, 5, 7, 10, 12, 42, 48, 50, 51, 55, 61] [(0, 1), (1, 2), (29, 36), (36, 64), (64, 71)] o0 y.2 ∧ gI y.2 20 = 0) := by
  intro N
  induction N with
  | zero => intro v2 o m _ _ _ _ _; exfalso; omega
  | succ N ih =>
    intro v2 o m em hm hR h22 hN
    show wp (lb_X9_law_110 (lp_X9_law_110 N) v1 v2 o) _
    unfold lb_X9_law_110
    have t8 : ((8 : Int32) * (gI o 21)).toInt = 8 * (k : Int) := i32_mul (by decide) (by rw [hR.1 21]; exact e21) (by omega) (by omega)
    refine wp_if (fun d => ?_) (fun d => ?_)
    · have d := cv_le (a := 8 * (k : Int)) (b := v2.toInt) t8 rfl d
      refine h_law145 o0 z l k c hl hk hc hI hK k20 e2 e21 e23 hC v1 ev zfu 0 o 0 (by decide) (Nat.zero_le _) hR (fun i hi => h22 i (by omega)) (fun i hi => absurd hi (Nat.not_lt_zero _)) (by show c < 100000 + 0; omega)
    · have d := cv_nle (a := 8 * (k : Int)) (b := v2.toInt) t8 rfl d
      have nm := tnc_eq em
      have a1 : (v1 + (2 : Int32)).toInt = 84 + 900 * (l : Int) + 2 := i32_add ev (by decide) (by omega) (by omega)
      have a3 : ((v1 + (2 : Int32)) + v2).toInt = 84 + 900 * (l : Int) + 2 + (m : Int) := i32_add a1 em (by omega) (by omega)
      have n3 : ((v1 + (2 : Int32)) + v2).toNatClampNeg = 84 + 900 * l + 2 + m := tnc_eq (by omega)
      refine wp_gd (zin_of (m := 96) rfl (by omega) (by omega)) ?_
      refine wp_gd (zin_of (m := 5484) rfl (by omega) (by omega)) ?_
      rw [n3, nm]
      refine wp_lt (fun o19 e19 => ?_)
      refine wp_lt (fun x20 e20 => ?_)
      have t20 : x20.toInt = ((m + 1 : Nat) : Int) := by
        have t : x20.toInt = (m : Int) + 1 := by rw [e20]; exact i32_add em (by decide) (by omega) (by omega)
        omega
      refine ih x20 o19 (m + 1) t20 (by omega) (by rw [e19]; exact hR.up (by omega) (by omega)) (fun i hi => ?_) (by omega)
      rw [e19, upd_at, hR.2.2.1 22 (by decide)]
      by_cases e : i = m
      · subst e; rw [if_pos rfl]
      · rw [if_neg (by omega)]; exact h22 i (by omega)
theorem h_law64 (o0 o : Ob) (l : Nat) (hl : l < 6) (hI : IvX9 o) (hr : (gI o 15).toInt ≤ (gI o 13).toInt) (hK : Kp [8, 11, 34, 38, 43, 56, 57, 58, 59, 62] [4, 5, 7, 10, 12, 42, 48, 50, 51, 55, 61] [(0, 1), (1, 2), (29, 36), (36, 64), (64, 71)] o0 o) (e2 : (gA o 3 (2 : Int32).toNatClampNeg).toInt = (l : Int)) (hok : gI o 19 = 0 → ∃ k c, LB o k c ∧ LC o k c) :
    wp (bk_X9_law_64 o) (fun y => IvX9 y.2 ∧ Kp [8, 11, 34, 38, 43, 56, 57, 58, 59, 62] [4, 5, 7, 10, 12, 42, 48, 50, 51, 55, 61] [(0, 1), (1, 2), (29, 36), (36, 64), (64, 71)] o0 y.2 ∧ gI y.2 20 = 0) := by
  unfold bk_X9_law_64
  refine wp_bd (w_endText o hI hr) (fun z hz => ?_)
  obtain ⟨g1, g2, g3, g4, -⟩ := hz
  have hKz : Kp [8, 11, 34, 38, 43, 56, 57, 58, 59, 62] [4, 5, 7, 10, 12, 42, 48, 50, 51, 55, 61] [(0, 1), (1, 2), (29, 36), (36, 64), (64, 71)] o0 z := hK.trans (g2.mono (by decide) (by decide) (by decide))
  have k3 : gA z 3 = gA o 3 := g2.2.1 3 (by decide)
  refine wp_if (fun d => ?_) (fun d => ?_)
  · obtain ⟨k, c, hL, hC⟩ := hok (g4 d)
    have hc := hL.rg
    have e21 : (gI z 21).toInt = (k : Int) := by rw [g2.1 21 (by decide)]; exact hL.2.2.2.1
    have e23 : (gI z 23).toInt = (c : Int) := by rw [g2.1 23 (by decide)]; exact hL.2.2.2.2.2.1
    have hCz : LC z k c := hC.ext (Nat.le_refl _) (fun i _ => by rw [g2.2.1 22 (by decide)]) (fun j _ => ⟨by rw [g2.2.1 24 (by decide)], by rw [g2.2.1 25 (by decide)]⟩)
    have ez : (gA z 3 (2 : Int32).toNatClampNeg).toInt = (l : Int) := by rw [k3]; exact e2
    refine wp_lt (fun x5 e5 => ?_)
    have a1 : ((900 : Int32) * (gA z 3 (2 : Int32).toNatClampNeg)).toInt = 900 * (l : Int) := i32_mul (by decide) ez (by omega) (by omega)
    have t5 : x5.toInt = 84 + 900 * (l : Int) := by rw [e5]; exact i32_add (by decide) a1 (by omega) (by omega)
    have a6 : (x5 + (1 : Int32)).toInt = 84 + 900 * (l : Int) + 1 := i32_add t5 (by decide) (by omega) (by omega)
    have n6 : (x5 + (1 : Int32)).toNatClampNeg = 84 + 900 * l + 1 := tnc_eq (by omega)
    refine wp_gd (zin_of (m := 5484) rfl (by omega) (by omega)) ?_
    rw [n6]
    refine wp_lt (fun o7 e7 => ?_)
    have hR : RW9 z o7 (84 + 900 * l) := by
      rw [e7]
      refine ⟨fun _ => rfl, rfl, fun i hi => fset_ne hi, fun j hj => ?_, ?_⟩
      · rw [upd_at, if_neg (by omega)]
      · rw [upd_at, if_pos rfl]
    exact h_law110 o0 z l k c hl hL.2.2.2.2.1 hc g1 hKz g3 ez e21 e23 hCz x5 t5 zfu 0 o7 0 (by decide) (Nat.zero_le _) hR (fun i hi => absurd hi (Nat.not_lt_zero _)) (by show 8 * k < 100000 + 0; have := hL.2.2.2.2.1; omega)
  · refine wp_bd (s_X9_tell z (-6) g1 ⟨by decide, by decide⟩) (fun w hw => ?_)
    refine wp_some ⟨hw.2.1, hKz.trans (hw.2.2.mono (by decide) (by decide) (by decide)), ?_⟩
    show gI w.2 20 = 0
    rw [hw.2.2.1 20 (by decide)]; exact g3
theorem h_law37 (o0 : Ob) (l : Nat) (hl : l < 6) : ∀ (N : Nat) (o : Ob), Kp [8, 11, 34, 38, 43, 56, 57, 58, 59, 62] [4, 5, 7, 10, 12, 42, 48, 50, 51, 55, 61] [(0, 1), (1, 2), (29, 36), (36, 64), (64, 71)] o0 o → (gA o 3 (2 : Int32).toNatClampNeg).toInt = (l : Int) → ((gI o 19 = 0 ∧ ∃ k c, LB o k c ∧ LC o k c) ∨ (gI o 19 = 1 ∧ IvX9 o ∧ (gI o 15).toInt ≤ (gI o 13).toInt ∧ TK o)) → 0 < N → (gI o 19 = 0 → 400 < (N : Int) + (gI o 14).toInt) →
    wp (lp_X9_law_37 N o) (fun y => IvX9 y.2 ∧ Kp [8, 11, 34, 38, 43, 56, 57, 58, 59, 62] [4, 5, 7, 10, 12, 42, 48, 50, 51, 55, 61] [(0, 1), (1, 2), (29, 36), (36, 64), (64, 71)] o0 y.2 ∧ gI y.2 20 = 0) := by
  intro N
  induction N with
  | zero => intro o _ _ _ h; exact absurd h (Nat.lt_irrefl _)
  | succ N ih =>
    intro o hK e2 hS _ hN
    show wp (lb_X9_law_37 (lp_X9_law_37 N) o) _
    unfold lb_X9_law_37
    rcases hS with ⟨h0, k, c, hL, hC⟩ | ⟨h1, hI, hr, ht⟩
    · refine wp_if (fun _ => ?_) (fun d => absurd h0 d)
      refine wp_bd (w_sign o 59) (fun z22 hz22 => ?_)
      refine wp_if (fun _ => h_law64 o0 o l hl hL.1 hL.2.1 hK e2 (fun _ => ⟨k, c, hL, hC⟩)) (fun d => ?_)
      have htk := hL.2.2.1.2.1 (hz22 d)
      refine wp_bd (h_next o hL.1 hL.2.1) (fun z hz => ?_)
      obtain ⟨g1, g2, g3, g4, g5⟩ := hz
      have hcf := hL.2.2.2.2.2.2
      have hLz : LB z k c := ⟨g1, g3, g4, by rw [g2.1 21 (by decide)]; exact hL.2.2.2.1, hL.2.2.2.2.1, by rw [g2.1 23 (by decide)]; exact hL.2.2.2.2.2.1, by omega⟩
      have hCz : LC z k c := hC.ext (Nat.le_refl _) (fun i _ => by rw [g2.2.1 22 (by decide)]) (fun j _ => ⟨by rw [g2.2.1 24 (by decide)], by rw [g2.2.1 25 (by decide)]⟩)
      refine wp_bd (w_readLaw z k c ((g2.1 19 (by decide)).trans h0) hLz hCz) (fun y hy => ?_)
      obtain ⟨y1, y2⟩ := hy
      have b13 := igX9_13 hL.1
      have fr := hL.2.2.1.1
      have rr := hL.2.1
      have hN := hN h0
      refine ih y ((hK.trans (g2.mono (by decide) (by decide) (by decide))).trans (y1.mono (by decide) (by decide) (by decide))) ?_ ?_ (by omega) (fun h => ?_)
      · rw [y1.2.1 3 (by decide), g2.2.1 3 (by decide)]; exact e2
      · rcases y2 with ⟨q1, ⟨c', q2, q3⟩, -⟩ | q
        · exact Or.inl ⟨q1, k + 1, c', q2, q3⟩
        · exact Or.inr q
      · rcases y2 with ⟨q1, -, q4⟩ | ⟨q1, -⟩
        · omega
        · exact absurd (q1.symm.trans h) (by decide)
    · refine wp_if (fun d => absurd (h1.symm.trans d) (by decide)) (fun _ => ?_)
      exact h_law64 o0 o l hl hI hr hK e2 (fun h => absurd (h1.symm.trans h) (by decide))
set_option maxHeartbeats 4000000 in
set_option maxRecDepth 100000 in
theorem s_X9_law (o_me : Ob) (hI_me : IvX9 o_me) (q0 : 0 ≤ (gI o_me 20).toInt ∧ (gI o_me 20).toInt ≤ 0) : wp (f_X9_law   o_me) (fun (y : Int32 × Ob) => IvX9 y.2 ∧ Kp [8, 11, 34, 38, 43, 56, 57, 58, 59, 62] [4, 5, 7, 10, 12, 42, 48, 50, 51, 55, 61] [(0, 1), (1, 2), (29, 36), (36, 64), (64, 71)] o_me y.2 ∧ (gI y.2 20 = 0)) := by
  have ho : gI o_me 20 = 0 := Int32.toInt_inj.mp ((show (gI o_me 20).toInt = 0 by omega).trans (by decide))
  unfold f_X9_law
  refine wp_lt (fun o1 e1 => ?_)
  have hI1 : IvX9 o1 := by rw [e1]; exact hI_me
  have hK1 : Kp [8, 11, 34, 38, 43, 56, 57, 58, 59, 62] [4, 5, 7, 10, 12, 42, 48, 50, 51, 55, 61] [(0, 1), (1, 2), (29, 36), (36, 64), (64, 71)] o_me o1 := by rw [e1]; exact Kp.sI (by decide)
  have r2 := iaX9_3_2 hI1 (j := 2) (by decide) (by decide)
  refine wp_if (fun c => ?_) (fun c => ?_)
  · refine wp_lt (fun o25 e25 => ?_)
    have hI25 : IvX9 o25 := by rw [e25]; exact ipX9_13 hI1 ⟨by decide, by decide⟩
    refine wp_bd (s_X9_tell o25 (-5) hI25 ⟨by decide, by decide⟩) (fun w hw => ?_)
    refine wp_some ⟨hw.2.1, (hK1.trans (by rw [e25]; exact Kp.sI (by decide))).trans (hw.2.2.mono (by decide) (by decide) (by decide)), ?_⟩
    show gI w.2 20 = 0
    rw [hw.2.2.1 20 (by decide), e25, e1]; exact ho
  · have c := cv_ne (a := (gA o1 3 (2 : Int32).toNatClampNeg).toInt) (b := 6) rfl (by decide) c
    obtain ⟨l, el⟩ : ∃ l : Nat, (gA o1 3 (2 : Int32).toNatClampNeg).toInt = (l : Int) := ⟨(gA o1 3 (2 : Int32).toNatClampNeg).toInt.toNat, by omega⟩
    refine wp_bd (w_beginText o1 hI1 0 (by decide) (by decide)) (fun z2 hz2 => ?_)
    obtain ⟨g1, g2, g3, g4⟩ := hz2
    refine wp_bd (w_readLaw z2 0 0 g2 g4 (fun j hj => absurd hj (Nat.not_lt_zero _))) (fun z3 hz3 => ?_)
    obtain ⟨y1, y2⟩ := hz3
    have b14 := igX9_14 g4.1
    refine h_law37 o_me l (by omega) zfu z3 ((hK1.trans (g1.mono (by decide) (by decide) (by decide))).trans (y1.mono (by decide) (by decide) (by decide))) ?_ ?_ (by decide) (fun h => ?_)
    · rw [y1.2.1 3 (by decide), g1.2.1 3 (by decide)]; exact el
    · rcases y2 with ⟨q1, ⟨c', q2, q3⟩, -⟩ | q
      · exact Or.inl ⟨q1, 1, c', q2, q3⟩
      · exact Or.inr q
    · have zz : ((zfu : Nat) : Int) = 100000 := rfl
      rcases y2 with ⟨q1, -, q4⟩ | ⟨q1, -⟩
      · omega
      · exact absurd (q1.symm.trans h) (by decide)

