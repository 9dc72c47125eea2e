set_option maxHeartbeats 4000000 in
set_option maxRecDepth 100000 in
theorem s_X1_changedEntry {pl : List CR} (o_me : Ob) (o_me_isles : Ob) (o_me_isles_now : Ob) (p0 : Int32) (hI_me : IvX1 o_me) (hI_me_isles : IvX2 pl o_me_isles) (hI_me_isles_now : IvX4 o_me_isles_now) (q0 : 0 ≤ p0.toInt ∧ p0.toInt ≤ 6) : wp (f_X1_changedEntry   o_me o_me_isles o_me_isles_now p0) (fun (y : Int32 × Ob) => (0 ≤ y.1.toInt ∧ y.1.toInt ≤ 1) ∧ IvX4 y.2 ∧ Kp [3, 4] [0, 1] [] o_me_isles_now y.2) := by
  unfold f_X1_changedEntry
  refine wp_lt (fun o2 eo2 => ?_)
  have hIo2 : IvX4 o2 := by rw [eo2]; exact hI_me_isles_now
  have hkpo2 : Kp [3, 4] [0, 1] [] o_me_isles_now o2 := Kp.rf.trans (by rw [eo2]; exact Kp.sI (by decide))
  have t3 := i32_and (x := (gI o2 2) >>> (p0 &&& 31)) (y := (1 : Int32)) (m := 1) ⟨by decide, by decide⟩
  refine wp_some ?_
  exact (show (0 ≤ (((gI o2 2) >>> (p0 &&& 31)) &&& (1 : Int32)).toInt ∧ (((gI o2 2) >>> (p0 &&& 31)) &&& (1 : Int32)).toInt ≤ 1) ∧ IvX4 o2 ∧ Kp [3, 4] [0, 1] [] o_me_isles_now o2 from ⟨⟨t3.1, t3.2⟩, hIo2, hkpo2⟩)

set_option maxHeartbeats 4000000 in
set_option maxRecDepth 100000 in
theorem s_X1_takenGap {pl : List CR} (o_me : Ob) (o_me_isles : Ob) (o_me_isles_now : Ob) (p0 : Int32) (hI_me : IvX1 o_me) (hI_me_isles : IvX2 pl o_me_isles) (hI_me_isles_now : IvX4 o_me_isles_now) (q0 : 0 ≤ p0.toInt ∧ p0.toInt ≤ 6) : wp (f_X1_takenGap   o_me o_me_isles o_me_isles_now p0) (fun (y : Int32 × Ob) => IvX4 y.2 ∧ Kp [2, 4] [0] [] o_me_isles_now y.2) := by
  unfold f_X1_takenGap
  refine wp_lt (fun x1 ex1 => ?_)
  refine wp_bd (s_X4_addPrizes   o_me_isles_now p0 x1  hI_me_isles_now  ⟨q0.1, q0.2⟩) (fun z2 hz2 => ?_)
  obtain ⟨hz2_0, hz2_1⟩ := hz2
  have hkpz2_me_isles_now : Kp [2, 4] [0] [] o_me_isles_now z2 := Kp.rf.trans (hz2_1.mono (by decide) (by decide) (by decide))
  refine wp_lt (fun o4 eo4 => ?_)
  have hIo4 : IvX4 o4 := by rw [eo4]; exact hz2_0
  have hkpo4 : Kp [2, 4] [0] [] o_me_isles_now o4 := hkpz2_me_isles_now.trans (by rw [eo4]; exact Kp.sI (by decide))
  refine wp_some ?_
  exact (show IvX4 o4 ∧ Kp [2, 4] [0] [] o_me_isles_now o4 from ⟨hIo4, hkpo4⟩)

set_option maxHeartbeats 4000000 in
set_option maxRecDepth 100000 in
theorem s_X1_hasTradeOfLower {pl : List CR} (o_me : Ob) (o_me_isles : Ob) (o_me_isles_now : Ob) (p0 : Int32) (hI_me : IvX1 o_me) (hI_me_isles : IvX2 pl o_me_isles) (hI_me_isles_now : IvX4 o_me_isles_now) (q0 : 0 ≤ p0.toInt ∧ p0.toInt ≤ 6) : wp (f_X1_hasTradeOfLower   o_me o_me_isles o_me_isles_now p0) (fun (y : Int32) => (0 ≤ y.toInt ∧ y.toInt ≤ 1)) := by
  unfold f_X1_hasTradeOfLower
  have lp1 : ∀ (N1 : Nat) (v1_1 : Int32) (v2_1 : Int32), (0 ≤ v1_1.toInt ∧ v1_1.toInt ≤ 6) → (0 ≤ v2_1.toInt ∧ v2_1.toInt ≤ 6) → (6 - v2_1.toInt).toNat < N1 → wp (lp_X1_hasTradeOfLower_2 o_me o_me_isles o_me_isles_now  N1 (v1_1, v2_1)) (fun (y : Int32) => (0 ≤ y.toInt ∧ y.toInt ≤ 1)) := by
    intro N1
    induction N1 with
    | zero =>
      intro v1_1 v2_1 hh1 hh2 hN1
      exact absurd hN1 (Nat.not_lt_zero _)
    | succ N1 ihx =>
      have ih1 := ihx
      intro v1_1 v2_1 hh1 hh2 hN1
      show wp (lb_X1_hasTradeOfLower_2 o_me o_me_isles o_me_isles_now  (lp_X1_hasTradeOfLower_2 o_me o_me_isles o_me_isles_now  N1) v1_1 v2_1) (fun (y : Int32) => (0 ≤ y.toInt ∧ y.toInt ≤ 1))
      unfold lb_X1_hasTradeOfLower_2
      refine wp_if (fun c3 => ?_) (fun c3 => ?_)
      · have c3 := cv_ge (a := v2_1.toInt) (b := v1_1.toInt) rfl rfl c3
        refine wp_some ?_
        exact (show (0 ≤ (0 : Int32).toInt ∧ (0 : Int32).toInt ≤ 1) from ⟨by decide, by decide⟩)
      · have c3 := cv_nge (a := v2_1.toInt) (b := v1_1.toInt) rfl rfl c3
        refine wp_gd (zin_of (m := 7) rfl hh2.1 (zlt_m (c := 6) hh2.2 (by decide))) ?_
        refine wp_gd (zin_of (m := 7) rfl hh1.1 (zlt_m (c := 6) hh1.2 (by decide))) ?_
        refine wp_if (fun c6 => ?_) (fun c6 => ?_)
        · refine wp_some ?_
          exact (show (0 ≤ (1 : Int32).toInt ∧ (1 : Int32).toInt ≤ 1) from ⟨by decide, by decide⟩)
        · refine wp_lt (fun x7 ex7 => ?_)
          have tx7 : x7.toInt = v2_1.toInt + 1 := by rw [ex7]; exact i32_add rfl (by decide) (zk_l hh2.1 (by decide)) (zk_u (zu_e (k := 5) (zl_d c3) hh1.2 (by decide)) (by decide))
          exact ih1 v1_1 x7  ⟨hh1.1, hh1.2⟩ ⟨(zl_e (zq_r (c := (-1)) tx7 (by decide)) hh2.1 (by decide)), (zu_e (zd_e (c := 0) (Int.le_of_eq tx7) (zl_d c3) (by decide)) hh1.2 (by decide))⟩ (zms_u (c := 5) hN1 (zq_r (c := (-1)) tx7 (by decide)) (zu_e (zl_d c3) hh1.2 (by decide)) (by decide))
  exact lp1 zfu p0 (0 : Int32)  ⟨q0.1, q0.2⟩ ⟨by decide, by decide⟩ (zme_u (l := 0) (Int.le_of_eq tz0.symm) (by decide))

set_option maxHeartbeats 4000000 in
set_option maxRecDepth 100000 in
theorem s_X1_passedYear (o_me : Ob) (o_me_isles : Ob) (o_me_isles_now : Ob) (o_me_machine : Ob) (o_pool : List CR) (hI_me : IvX1 o_me) (hI_me_isles : IvX2 o_pool o_me_isles) (hI_me_isles_now : IvX4 o_me_isles_now) (hI_me_machine : IvX3 o_me_machine) (hI_pool : PLok o_pool)  : wp (f_X1_passedYear   o_me o_me_isles o_me_isles_now o_me_machine o_pool) (fun (y : Int32 × Ob × Ob) => (0 ≤ y.1.toInt ∧ y.1.toInt ≤ 7) ∧ IvX4 y.2.1 ∧ Kp [2, 3] [1] [] o_me_isles_now y.2.1 ∧ IvX3 y.2.2 ∧ Kp [] [] [] o_me_machine y.2.2) := by
  unfold f_X1_passedYear
  refine wp_bd (s_X2_lawInForce   o_me_isles  hI_me_isles  ) (fun z1 hz1 => ?_)
  have hz1_0 := hz1
  have lp1 : ∀ (N1 : Nat) (v1_1 : Option Nat) (v2_1 : Int32) (v3_1 : Int32) (o_me_isles_now_1 : Ob) (o_me_machine_1 : Ob), IvX4 o_me_isles_now_1 → Kp [2, 3] [1] [] o_me_isles_now o_me_isles_now_1 → IvX3 o_me_machine_1 → Kp [] [] [] o_me_machine o_me_machine_1 → zpo o_pool v1_1 = true → (0 ≤ v2_1.toInt ∧ v2_1.toInt ≤ 7) → (0 ≤ v3_1.toInt ∧ v3_1.toInt ≤ 7) → (v2_1.toInt ≤ v3_1.toInt + 0) → (7 - v3_1.toInt).toNat < N1 → wp (lp_X1_passedYear_12 o_me o_me_isles o_pool  N1 (v1_1, v2_1, v3_1, o_me_isles_now_1, o_me_machine_1)) (fun (y : Int32 × Ob × Ob) => (0 ≤ y.1.toInt ∧ y.1.toInt ≤ 7) ∧ IvX4 y.2.1 ∧ Kp [2, 3] [1] [] o_me_isles_now y.2.1 ∧ IvX3 y.2.2 ∧ Kp [] [] [] o_me_machine y.2.2) := by
    intro N1
    induction N1 with
    | zero =>
      intro v1_1 v2_1 v3_1 o_me_isles_now_1 o_me_machine_1 hI_me_isles_now_1 hkp_me_isles_now_1 hI_me_machine_1 hkp_me_machine_1 po_v1_1 hh2 hh3 hh4 hN1
      exact absurd hN1 (Nat.not_lt_zero _)
    | succ N1 ihx =>
      have ih1 := ihx
      intro v1_1 v2_1 v3_1 o_me_isles_now_1 o_me_machine_1 hI_me_isles_now_1 hkp_me_isles_now_1 hI_me_machine_1 hkp_me_machine_1 po_v1_1 hh2 hh3 hh4 hN1
      show wp (lb_X1_passedYear_12 o_me o_me_isles o_pool  (lp_X1_passedYear_12 o_me o_me_isles o_pool  N1) v1_1 v2_1 v3_1 o_me_isles_now_1 o_me_machine_1) (fun (y : Int32 × Ob × Ob) => (0 ≤ y.1.toInt ∧ y.1.toInt ≤ 7) ∧ IvX4 y.2.1 ∧ Kp [2, 3] [1] [] o_me_isles_now y.2.1 ∧ IvX3 y.2.2 ∧ Kp [] [] [] o_me_machine y.2.2)
      unfold lb_X1_passedYear_12
      have t5 := igX2_7 hI_me_isles
      refine wp_if (fun c6 => ?_) (fun c6 => ?_)
      · have c6 := cv_ge (a := v3_1.toInt) (b := (gI o_me_isles 7).toInt) rfl rfl c6
        refine wp_lt (fun o7 eo7 => ?_)
        have hIo7 : IvX4 o7 := by rw [eo7]; exact hI_me_isles_now_1
        have hkpo7 : Kp [2, 3] [1] [] o_me_isles_now o7 := hkp_me_isles_now_1.trans (by rw [eo7]; exact Kp.sI (by decide))
        refine wp_some ?_
        exact (show (0 ≤ v2_1.toInt ∧ v2_1.toInt ≤ 7) ∧ IvX4 o7 ∧ Kp [2, 3] [1] [] o_me_isles_now o7 ∧ IvX3 o_me_machine_1 ∧ Kp [] [] [] o_me_machine o_me_machine_1 from ⟨⟨hh2.1, hh2.2⟩, hIo7, hkpo7, hI_me_machine_1, hkp_me_machine_1⟩)
      · have c6 := cv_nge (a := v3_1.toInt) (b := (gI o_me_isles 7).toInt) rfl rfl c6
        refine wp_bd (s_X1_hasTradeOfLower   o_me o_me_isles o_me_isles_now_1 v3_1  hI_me hI_me_isles hI_me_isles_now_1  ⟨hh3.1, (zu_e (zl_d c6) t5.2 (by decide))⟩) (fun z8 hz8 => ?_)
        refine wp_if (fun c9 => ?_) (fun c9 => ?_)
        · unfold bk_X1_passedYear_53
          refine wp_lt (fun x10 ex10 => ?_)
          have tx10 : x10.toInt = v3_1.toInt + 1 := by rw [ex10]; exact i32_add rfl (by decide) (zk_l hh3.1 (by decide)) (zk_u (zu_e (k := 6) (zl_d c6) t5.2 (by decide)) (by decide))
          exact ih1 v1_1 v2_1 x10 o_me_isles_now_1 o_me_machine_1 hI_me_isles_now_1 hkp_me_isles_now_1 hI_me_machine_1 hkp_me_machine_1 po_v1_1 ⟨hh2.1, hh2.2⟩ ⟨(zl_e (zq_r (c := (-1)) tx10 (by decide)) hh3.1 (by decide)), (zu_e (zd_e (c := 0) (Int.le_of_eq tx10) (zl_d c6) (by decide)) t5.2 (by decide))⟩ (zd_w (zd_e (c := (-1)) hh4 (zq_r (c := (-1)) tx10 (by decide)) (by decide)) (by decide)) (zms_u (c := 6) hN1 (zq_r (c := (-1)) tx10 (by decide)) (zu_e (zl_d c6) t5.2 (by decide)) (by decide))
        · refine wp_bd (s_X1_turnsTo_Q   o_me o_me_isles o_me_isles_now_1 o_me_machine_1 o_pool v1_1 v3_1 (0 : Int32)  hI_me hI_me_isles hI_me_isles_now_1 hI_me_machine_1 hI_pool po_v1_1 ⟨hh3.1, (zu_e (zl_d c6) t5.2 (by decide))⟩ ⟨by decide, by decide⟩) (fun z11 hz11 => ?_)
          obtain ⟨hz11_0, hz11_1, hz11_2⟩ := hz11
          have hkpz11_me_machine : Kp [] [] [] o_me_machine z11.2 := hkp_me_machine_1.trans (hz11_2.mono (by decide) (by decide) (by decide))
          refine wp_gd (zin_of (m := 7) rfl hh3.1 (zlt_m (c := 6) (zu_e (zl_d c6) t5.2 (by decide)) (by decide))) ?_
          refine wp_lt (fun o12 eo12 => ?_)
          have hIo12 : IvX4 o12 := by rw [eo12]; exact ibX4_0 hI_me_isles_now_1 hh3.1  (Or.inr (Or.inr ⟨hz11_0.1, hz11_0.2⟩))
          have hkpo12 : Kp [2, 3] [1] [] o_me_isles_now o12 := hkp_me_isles_now_1.trans (by rw [eo12]; exact Kp.tA (by decide) (by decide))
          refine wp_lt (fun x13 ex13 => ?_)
          have tx13 : x13.toInt = v2_1.toInt + 1 := by rw [ex13]; exact i32_add rfl (by decide) (zk_l hh2.1 (by decide)) (zk_u (zu_e (k := 6) (zd_e (c := (-1)) hh4 (zl_d c6) (by decide)) t5.2 (by decide)) (by decide))
          unfold bk_X1_passedYear_53
          refine wp_lt (fun x14 ex14 => ?_)
          have tx14 : x14.toInt = v3_1.toInt + 1 := by rw [ex14]; exact i32_add rfl (by decide) (zk_l hh3.1 (by decide)) (zk_u (zu_e (k := 6) (zl_d c6) t5.2 (by decide)) (by decide))
          exact ih1 v1_1 x13 x14 o12 z11.2 hIo12 hkpo12 hz11_1 hkpz11_me_machine po_v1_1 ⟨(zl_e (zq_r (c := (-1)) tx13 (by decide)) hh2.1 (by decide)), (zu_e (zd_e (c := 0) (zd_e (c := 1) (Int.le_of_eq tx13) hh4 (by decide)) (zl_d c6) (by decide)) t5.2 (by decide))⟩ ⟨(zl_e (zq_r (c := (-1)) tx14 (by decide)) hh3.1 (by decide)), (zu_e (zd_e (c := 0) (Int.le_of_eq tx14) (zl_d c6) (by decide)) t5.2 (by decide))⟩ (zd_e (c := 0) (zd_e (c := 1) (Int.le_of_eq tx13) hh4 (by decide)) (zq_r (c := (-1)) tx14 (by decide)) (by decide)) (zms_u (c := 6) hN1 (zq_r (c := (-1)) tx14 (by decide)) (zu_e (zl_d c6) t5.2 (by decide)) (by decide))
  exact lp1 zfu z1 (0 : Int32) (0 : Int32) o_me_isles_now o_me_machine hI_me_isles_now Kp.rf hI_me_machine Kp.rf hz1_0 ⟨by decide, by decide⟩ ⟨by decide, by decide⟩ (zd_r (by decide)) (zme_u (l := 0) (Int.le_of_eq tz0.symm) (by decide))

set_option maxHeartbeats 4000000 in
set_option maxRecDepth 100000 in
theorem s_X4_isIn (o_me : Ob) (p0 : Int32) (hI_me : IvX4 o_me)  : wp (f_X4_isIn   o_me p0) (fun (y : Int32) => (0 ≤ y.toInt ∧ y.toInt ≤ 1)) := by
  unfold f_X4_isIn
  refine wp_if (fun c2 => ?_) (fun c2 => ?_)
  · refine wp_some ?_
    exact (show (0 ≤ (1 : Int32).toInt ∧ (1 : Int32).toInt ≤ 1) from ⟨by decide, by decide⟩)
  · refine wp_some ?_
    exact (show (0 ≤ (0 : Int32).toInt ∧ (0 : Int32).toInt ≤ 1) from ⟨by decide, by decide⟩)

set_option maxHeartbeats 4000000 in
set_option maxRecDepth 100000 in
theorem s_X1_lineUp_Q (o_me : Ob) (o_me_isles : Ob) (o_me_isles_now : Ob) (o_me_machine : Ob) (o_pool : List CR) (p0 : Option Nat) (p1 : Int32) (hI_me : IvX1 o_me) (hI_me_isles : IvX2 o_pool o_me_isles) (hI_me_isles_now : IvX4 o_me_isles_now) (hI_me_machine : IvX3 o_me_machine) (hI_pool : PLok o_pool) (po_p0 : zpo o_pool p0 = true) (q0 : 0 ≤ p1.toInt ∧ p1.toInt ≤ 3) : wp (f_X1_lineUp_Q   o_me o_me_isles o_me_isles_now o_me_machine o_pool p0 p1) (fun (y : Int32 × Ob × Ob) => (0 ≤ y.1.toInt ∧ y.1.toInt ≤ 7) ∧ IvX1 y.2.1 ∧ Kp [] [] [] o_me y.2.1 ∧ IvX3 y.2.2 ∧ Kp [] [] [] o_me_machine y.2.2) := by
  have li0 : (0 : Int32).toInt = 0 := by decide
  have li1 : (1 : Int32).toInt = 1 := by decide
  unfold f_X1_lineUp_Q
  refine wp_lt (fun o1 eo1 => ?_)
  have hIo1 : IvX1 o1 := by rw [eo1]; exact ipX1_4 hI_me ⟨by decide, by decide⟩
  have ko1_v : (gI o1 4).toInt = 0 := by rw [eo1]; exact (show ((0 : Int32)).toInt = _ from by decide)
  have hkpo1 : Kp [] [] [] o_me o1 := Kp.rf.trans (by rw [eo1]; exact Kp.sI (by decide))
  have lp1 : ∀ (N1 : Nat) (v1_1 : Option Nat) (v2_1 : Int32) (v3_1 : Int32) (o_me_1 : Ob) (o_me_machine_1 : Ob), IvX1 o_me_1 → Kp [] [] [] o_me o_me_1 → IvX3 o_me_machine_1 → Kp [] [] [] o_me_machine o_me_machine_1 → zpo o_pool v1_1 = true → (0 ≤ v2_1.toInt ∧ v2_1.toInt ≤ 3) → (0 ≤ v3_1.toInt ∧ v3_1.toInt ≤ 7) → ((gI o_me_1 4).toInt ≤ v3_1.toInt + 0) → (7 - v3_1.toInt).toNat < N1 → wp (lp_X1_lineUp_Q_7 o_me_isles o_me_isles_now o_pool  N1 (v1_1, v2_1, v3_1, o_me_1, o_me_machine_1)) (fun (y : Int32 × Ob × Ob) => (0 ≤ y.1.toInt ∧ y.1.toInt ≤ 7) ∧ IvX1 y.2.1 ∧ Kp [] [] [] o_me y.2.1 ∧ IvX3 y.2.2 ∧ Kp [] [] [] o_me_machine y.2.2) := by
    intro N1
    induction N1 with
    | zero =>
      intro v1_1 v2_1 v3_1 o_me_1 o_me_machine_1 hI_me_1 hkp_me_1 hI_me_machine_1 hkp_me_machine_1 po_v1_1 hh3 hh4 hh5 hN1
      exact absurd hN1 (Nat.not_lt_zero _)
    | succ N1 ihx =>
      have ih1 := ihx
      intro v1_1 v2_1 v3_1 o_me_1 o_me_machine_1 hI_me_1 hkp_me_1 hI_me_machine_1 hkp_me_machine_1 po_v1_1 hh3 hh4 hh5 hN1
      show wp (lb_X1_lineUp_Q_7 o_me_isles o_me_isles_now o_pool  (lp_X1_lineUp_Q_7 o_me_isles o_me_isles_now o_pool  N1) v1_1 v2_1 v3_1 o_me_1 o_me_machine_1) (fun (y : Int32 × Ob × Ob) => (0 ≤ y.1.toInt ∧ y.1.toInt ≤ 7) ∧ IvX1 y.2.1 ∧ Kp [] [] [] o_me y.2.1 ∧ IvX3 y.2.2 ∧ Kp [] [] [] o_me_machine y.2.2)
      unfold lb_X1_lineUp_Q_7
      have t7 := igX2_7 hI_me_isles
      refine wp_if (fun c8 => ?_) (fun c8 => ?_)
      · have c8 := cv_ge (a := v3_1.toInt) (b := (gI o_me_isles 7).toInt) rfl rfl c8
        have t9 := igX1_4 hI_me_1
        refine wp_some ?_
        exact (show (0 ≤ (gI o_me_1 4).toInt ∧ (gI o_me_1 4).toInt ≤ 7) ∧ IvX1 o_me_1 ∧ Kp [] [] [] o_me o_me_1 ∧ IvX3 o_me_machine_1 ∧ Kp [] [] [] o_me_machine o_me_machine_1 from ⟨⟨t9.1, t9.2⟩, hI_me_1, hkp_me_1, hI_me_machine_1, hkp_me_machine_1⟩)
      · have c8 := cv_nge (a := v3_1.toInt) (b := (gI o_me_isles 7).toInt) rfl rfl c8
        refine wp_bd (s_X4_isIn   o_me_isles_now v3_1  hI_me_isles_now  ) (fun z10 hz10 => ?_)
        have hz10_0 := hz10
        refine wp_if (fun c11 => ?_) (fun c11 => ?_)
        · have c11 := cv_eq (a := z10.toInt) (b := 0) rfl (by decide) c11
          unfold bk_X1_lineUp_Q_129
          refine wp_lt (fun x12 ex12 => ?_)
          have tx12 : x12.toInt = v3_1.toInt + 1 := by rw [ex12]; exact i32_add rfl (by decide) (zk_l hh4.1 (by decide)) (zk_u (zu_e (k := 6) (zl_d c8) t7.2 (by decide)) (by decide))
          have t13 := igX1_4 hI_me_1
          exact ih1 v1_1 v2_1 x12 o_me_1 o_me_machine_1 hI_me_1 hkp_me_1 hI_me_machine_1 hkp_me_machine_1 po_v1_1 ⟨hh3.1, hh3.2⟩ ⟨(zl_e (zq_r (c := (-1)) tx12 (by decide)) hh4.1 (by decide)), (zu_e (zd_e (c := 0) (Int.le_of_eq tx12) (zl_d c8) (by decide)) t7.2 (by decide))⟩ (zd_w (zd_e (c := (-1)) hh5 (zq_r (c := (-1)) tx12 (by decide)) (by decide)) (by decide)) (zms_u (c := 6) hN1 (zq_r (c := (-1)) tx12 (by decide)) (zu_e (zl_d c8) t7.2 (by decide)) (by decide))
        · have c11z := c11
          have c11 := cv_ne (a := z10.toInt) (b := 0) rfl (by decide) c11
          refine wp_bd (s_X1_isBarred_Q   o_me_1 o_me_isles o_me_isles_now o_me_machine_1 o_pool v1_1 v3_1 v2_1  hI_me_1 hI_me_isles hI_me_isles_now hI_me_machine_1 hI_pool po_v1_1 ⟨hh4.1, (zu_e (zl_d c8) t7.2 (by decide))⟩ ⟨hh3.1, hh3.2⟩) (fun z14 hz14 => ?_)
          obtain ⟨hz14_0, hz14_1, hz14_2⟩ := hz14
          have hkpz14_me_machine : Kp [] [] [] o_me_machine z14.2 := hkp_me_machine_1.trans (hz14_2.mono (by decide) (by decide) (by decide))
          refine wp_if (fun c15 => ?_) (fun c15 => ?_)
          · have c15 := cv_eq (a := z14.1.toInt) (b := 0) rfl (by decide) c15
            refine wp_bd (s_X1_runsBy_Q   o_me_1 o_me_isles o_me_isles_now z14.2 o_pool v1_1 v3_1 v2_1  hI_me_1 hI_me_isles hI_me_isles_now hz14_1 hI_pool po_v1_1 ⟨hh4.1, (zu_e (zl_d c8) t7.2 (by decide))⟩ ⟨hh3.1, hh3.2⟩) (fun z16 hz16 => ?_)
            obtain ⟨hz16_0, hz16_1⟩ := hz16
            have hkpz16_me_machine : Kp [] [] [] o_me_machine z16.2 := hkpz14_me_machine.trans (hz16_1.mono (by decide) (by decide) (by decide))
            refine wp_gd (zin_of (m := 7) rfl hh4.1 (zlt_m (c := 6) (zu_e (zl_d c8) t7.2 (by decide)) (by decide))) ?_
            refine wp_lt (fun o17 eo17 => ?_)
            have hIo17 : IvX1 o17 := by rw [eo17]; exact hI_me_1
            have ko17_k18 : (gI o17 4).toInt = (gI o_me_1 4).toInt := by rw [eo17]; rfl
            have ko17_v : (gA o17 3 v3_1.toNatClampNeg).toInt = z16.1.toInt := by rw [eo17]; exact congrArg Int32.toInt (upd_eq (g := gA o_me_1 3) (i := v3_1) (v := z16.1))
            have hkpo17 : Kp [] [] [] o_me o17 := hkp_me_1.trans (by rw [eo17]; exact Kp.tA (by decide) (by decide))
            have t19 := igX1_4 hIo17
            refine wp_lt (fun x20 ex20 => ?_)
            have tx20 : x20.toInt = (gI o17 4).toInt := by rw [ex20]
            have lp2 : ∀ (N2 : Nat) (v1_2 : Option Nat) (v2_2 : Int32) (v3_2 : Int32) (v4_2 : Int32) (o_me_2 : Ob) (o_me_machine_2 : Ob), IvX1 o_me_2 → Kp [] [] [] o_me o_me_2 → IvX3 o_me_machine_2 → Kp [] [] [] o_me_machine o_me_machine_2 → zpo o_pool v1_2 = true → (0 ≤ v2_2.toInt ∧ v2_2.toInt ≤ 3) → (0 ≤ v3_2.toInt ∧ v3_2.toInt ≤ 6) → (0 ≤ v4_2.toInt ∧ v4_2.toInt ≤ 6) → ((gI o_me_2 4).toInt ≤ v3_2.toInt + 0) → (v3_1.toInt ≤ v3_2.toInt + 0) → (v4_2.toInt - 0).toNat < N2 → wp (lp_X1_lineUp_Q_61 o_me_isles o_me_isles_now o_pool (lp_X1_lineUp_Q_7 o_me_isles o_me_isles_now o_pool  N1) N2 (v1_2, v2_2, v3_2, v4_2, o_me_2, o_me_machine_2)) (fun (y : Int32 × Ob × Ob) => (0 ≤ y.1.toInt ∧ y.1.toInt ≤ 7) ∧ IvX1 y.2.1 ∧ Kp [] [] [] o_me y.2.1 ∧ IvX3 y.2.2 ∧ Kp [] [] [] o_me_machine y.2.2) := by
              intro N2
              induction N2 with
              | zero =>
                intro v1_2 v2_2 v3_2 v4_2 o_me_2 o_me_machine_2 hI_me_2 hkp_me_2 hI_me_machine_2 hkp_me_machine_2 po_v1_2 hh22 hh23 hh24 hh25 hh26 hN2
                exact absurd hN2 (Nat.not_lt_zero _)
              | succ N2 ihx =>
                have ih2 := ihx
                intro v1_2 v2_2 v3_2 v4_2 o_me_2 o_me_machine_2 hI_me_2 hkp_me_2 hI_me_machine_2 hkp_me_machine_2 po_v1_2 hh22 hh23 hh24 hh25 hh26 hN2
                show wp (lb_X1_lineUp_Q_61 o_me_isles o_me_isles_now o_pool (lp_X1_lineUp_Q_7 o_me_isles o_me_isles_now o_pool  N1) (lp_X1_lineUp_Q_61 o_me_isles o_me_isles_now o_pool (lp_X1_lineUp_Q_7 o_me_isles o_me_isles_now o_pool  N1) N2) v1_2 v2_2 v3_2 v4_2 o_me_2 o_me_machine_2) (fun (y : Int32 × Ob × Ob) => (0 ≤ y.1.toInt ∧ y.1.toInt ≤ 7) ∧ IvX1 y.2.1 ∧ Kp [] [] [] o_me y.2.1 ∧ IvX3 y.2.2 ∧ Kp [] [] [] o_me_machine y.2.2)
                unfold lb_X1_lineUp_Q_61
                refine wp_if (fun c28 => ?_) (fun c28 => ?_)
                · have c28 := cv_le (a := v4_2.toInt) (b := 0) rfl (by decide) c28
                  unfold bk_X1_lineUp_Q_111
                  refine wp_gd (zin_of (m := 7) rfl hh24.1 (zlt_m (c := 6) hh24.2 (by decide))) ?_
                  refine wp_lt (fun o29 eo29 => ?_)
                  have hIo29 : IvX1 o29 := by rw [eo29]; exact ibX1_2 hI_me_2 hh24.1  (Or.inr (Or.inr ⟨hh23.1, hh23.2⟩))
                  have ko29_k30 : (gI o29 4).toInt = (gI o_me_2 4).toInt := by rw [eo29]; rfl
                  have ko29_v : (gA o29 2 v4_2.toNatClampNeg).toInt = v3_2.toInt := by rw [eo29]; exact congrArg Int32.toInt (upd_eq (g := gA o_me_2 2) (i := v4_2) (v := v3_2))
                  have hkpo29 : Kp [] [] [] o_me o29 := hkp_me_2.trans (by rw [eo29]; exact Kp.tA (by decide) (by decide))
                  have t31 := igX1_4 hIo29
                  have t32 : ((gI o29 4) + (1 : Int32)).toInt = (gI o29 4).toInt + 1 := i32_add rfl (by decide) (zk_l t31.1 (by decide)) (zk_u (zu_e (k := 6) (zd_e (c := 0) (zq_0 ko29_k30) hh25 (by decide)) hh23.2 (by decide)) (by decide))
                  refine wp_lt (fun o33 eo33 => ?_)
                  have hIo33 : IvX1 o33 := by rw [eo33]; exact ipX1_4 hIo29 ⟨(zl_e (zq_r (c := (-1)) t32 (by decide)) t31.1 (by decide)), (zu_e (zd_e (c := 1) (zd_e (c := 1) (Int.le_of_eq t32) (zq_0 ko29_k30) (by decide)) hh25 (by decide)) hh23.2 (by decide))⟩
                  have ko33_k34 : (gA o33 2 v4_2.toNatClampNeg).toInt = (gA o29 2 v4_2.toNatClampNeg).toInt := by rw [eo33]; rfl
                  have ko33_v : (gI o33 4).toInt = ((gI o29 4) + (1 : Int32)).toInt := by rw [eo33]; rfl
                  have hkpo33 : Kp [] [] [] o_me o33 := hkpo29.trans (by rw [eo33]; exact Kp.sI (by decide))
                  unfold bk_X1_lineUp_Q_129
                  refine wp_lt (fun x35 ex35 => ?_)
                  have tx35 : x35.toInt = v3_2.toInt + 1 := by rw [ex35]; exact i32_add rfl (by decide) (zk_l hh23.1 (by decide)) (zk_u hh23.2 (by decide))
                  exact ih1 v1_2 v2_2 x35 o33 o_me_machine_2 hIo33 hkpo33 hI_me_machine_2 hkp_me_machine_2 po_v1_2 ⟨hh22.1, hh22.2⟩ ⟨(zl_e (zq_r (c := (-1)) tx35 (by decide)) hh23.1 (by decide)), (zu_e (Int.le_of_eq tx35) hh23.2 (by decide))⟩ (by omega) (zms_u (c := 6) hN1 (zd_e (c := (-1)) hh26 (zq_r (c := (-1)) tx35 (by decide)) (by decide)) (zu_e (zl_d c8) t7.2 (by decide)) (by decide))
                · have c28 := cv_nle (a := v4_2.toInt) (b := 0) rfl (by decide) c28
                  have t36 : (v4_2 - (1 : Int32)).toInt = v4_2.toInt - 1 := i32_sub rfl (by decide) (zs_l (zlt_l (c := 1) c28 (by decide)) (by decide)) (zs_u hh24.2 (by decide))
                  refine wp_gd (zin_of (m := 7) rfl (zl_e (zq_t (c := 1) t36 (by decide)) (zlt_l (c := 1) c28 (by decide)) (by decide)) (zlt_m (c := 6) (zu_e (zq_s (c := (-1)) t36 (by decide)) hh24.2 (by decide)) (by decide))) ?_
                  have t37 := iaX1_2_0 hI_me_2 (j := v4_2 - (1 : Int32)) (zl_e (zq_t (c := 1) t36 (by decide)) (zlt_l (c := 1) c28 (by decide)) (by decide)) (zu_e (zq_s (c := (-1)) t36 (by decide)) hh24.2 (by decide))
                  refine wp_gd (zin_of (m := 7) rfl t37.1 (zlt_m (c := 6) t37.2 (by decide))) ?_
                  refine wp_gd (zin_of (m := 7) rfl hh23.1 (zlt_m (c := 6) hh23.2 (by decide))) ?_
                  have rg39 := i32_rg (gA o_me_2 3 (gA o_me_2 2 (v4_2 - (1 : Int32)).toNatClampNeg).toNatClampNeg)
                  have rg40 := i32_rg (gA o_me_2 3 v3_2.toNatClampNeg)
                  refine wp_if (fun c38 => ?_) (fun c38 => ?_)
                  · have c38 := cv_ge (a := (gA o_me_2 3 (gA o_me_2 2 (v4_2 - (1 : Int32)).toNatClampNeg).toNatClampNeg).toInt) (b := (gA o_me_2 3 v3_2.toNatClampNeg).toInt) rfl rfl c38
                    unfold bk_X1_lineUp_Q_111
                    refine wp_gd (zin_of (m := 7) rfl hh24.1 (zlt_m (c := 6) hh24.2 (by decide))) ?_
                    refine wp_lt (fun o41 eo41 => ?_)
                    have hIo41 : IvX1 o41 := by rw [eo41]; exact ibX1_2 hI_me_2 hh24.1  (Or.inr (Or.inr ⟨hh23.1, hh23.2⟩))
                    have ko41_k42 : (gA o41 3 (gA o_me_2 2 (v4_2 - (1 : Int32)).toNatClampNeg).toNatClampNeg).toInt = (gA o_me_2 3 (gA o_me_2 2 (v4_2 - (1 : Int32)).toNatClampNeg).toNatClampNeg).toInt := by rw [eo41]; rfl
                    have ko41_k43 : (gA o41 3 v3_2.toNatClampNeg).toInt = (gA o_me_2 3 v3_2.toNatClampNeg).toInt := by rw [eo41]; rfl
                    have ko41_k44 : (gI o41 4).toInt = (gI o_me_2 4).toInt := by rw [eo41]; rfl
                    have ko41_v : (gA o41 2 v4_2.toNatClampNeg).toInt = v3_2.toInt := by rw [eo41]; exact congrArg Int32.toInt (upd_eq (g := gA o_me_2 2) (i := v4_2) (v := v3_2))
                    have hkpo41 : Kp [] [] [] o_me o41 := hkp_me_2.trans (by rw [eo41]; exact Kp.tA (by decide) (by decide))
                    have t45 := igX1_4 hIo41
                    have t46 : ((gI o41 4) + (1 : Int32)).toInt = (gI o41 4).toInt + 1 := i32_add rfl (by decide) (zk_l t45.1 (by decide)) (zk_u (zu_e (k := 6) (zd_e (c := 0) (zq_0 ko41_k44) hh25 (by decide)) hh23.2 (by decide)) (by decide))
                    refine wp_lt (fun o47 eo47 => ?_)
                    have hIo47 : IvX1 o47 := by rw [eo47]; exact ipX1_4 hIo41 ⟨(zl_e (zq_r (c := (-1)) t46 (by decide)) t45.1 (by decide)), (zu_e (zd_e (c := 1) (zd_e (c := 1) (Int.le_of_eq t46) (zq_0 ko41_k44) (by decide)) hh25 (by decide)) hh23.2 (by decide))⟩
                    have ko47_k48 : (gA o47 2 v4_2.toNatClampNeg).toInt = (gA o41 2 v4_2.toNatClampNeg).toInt := by rw [eo47]; rfl
                    have ko47_k49 : (gA o47 3 (gA o_me_2 2 (v4_2 - (1 : Int32)).toNatClampNeg).toNatClampNeg).toInt = (gA o41 3 (gA o_me_2 2 (v4_2 - (1 : Int32)).toNatClampNeg).toNatClampNeg).toInt := by rw [eo47]; rfl
                    have ko47_k50 : (gA o47 3 v3_2.toNatClampNeg).toInt = (gA o41 3 v3_2.toNatClampNeg).toInt := by rw [eo47]; rfl
                    have ko47_v : (gI o47 4).toInt = ((gI o41 4) + (1 : Int32)).toInt := by rw [eo47]; rfl
                    have hkpo47 : Kp [] [] [] o_me o47 := hkpo41.trans (by rw [eo47]; exact Kp.sI (by decide))
                    unfold bk_X1_lineUp_Q_129
                    refine wp_lt (fun x51 ex51 => ?_)
                    have tx51 : x51.toInt = v3_2.toInt + 1 := by rw [ex51]; exact i32_add rfl (by decide) (zk_l hh23.1 (by decide)) (zk_u hh23.2 (by decide))
                    exact ih1 v1_2 v2_2 x51 o47 o_me_machine_2 hIo47 hkpo47 hI_me_machine_2 hkp_me_machine_2 po_v1_2 ⟨hh22.1, hh22.2⟩ ⟨(zl_e (zq_r (c := (-1)) tx51 (by decide)) hh23.1 (by decide)), (zu_e (Int.le_of_eq tx51) hh23.2 (by decide))⟩ (by omega) (zms_u (c := 6) hN1 (zd_e (c := (-1)) hh26 (zq_r (c := (-1)) tx51 (by decide)) (by decide)) (zu_e (zl_d c8) t7.2 (by decide)) (by decide))
                  · have c38 := cv_nge (a := (gA o_me_2 3 (gA o_me_2 2 (v4_2 - (1 : Int32)).toNatClampNeg).toNatClampNeg).toInt) (b := (gA o_me_2 3 v3_2.toNatClampNeg).toInt) rfl rfl c38
                    refine wp_gd (zin_of (m := 7) rfl (zl_e (zq_t (c := 1) t36 (by decide)) (zlt_l (c := 1) c28 (by decide)) (by decide)) (zlt_m (c := 6) (zu_e (zq_s (c := (-1)) t36 (by decide)) hh24.2 (by decide)) (by decide))) ?_
                    refine wp_gd (zin_of (m := 7) rfl hh24.1 (zlt_m (c := 6) hh24.2 (by decide))) ?_
                    refine wp_lt (fun o52 eo52 => ?_)
                    have hIo52 : IvX1 o52 := by rw [eo52]; exact ibX1_2 hI_me_2 hh24.1  (Or.inr (Or.inr ⟨t37.1, t37.2⟩))
                    have ko52_k53 : (gA o52 3 (gA o_me_2 2 (v4_2 - (1 : Int32)).toNatClampNeg).toNatClampNeg).toInt = (gA o_me_2 3 (gA o_me_2 2 (v4_2 - (1 : Int32)).toNatClampNeg).toNatClampNeg).toInt := by rw [eo52]; rfl
                    have ko52_k54 : (gA o52 3 v3_2.toNatClampNeg).toInt = (gA o_me_2 3 v3_2.toNatClampNeg).toInt := by rw [eo52]; rfl
                    have ko52_k55 : (gI o52 4).toInt = (gI o_me_2 4).toInt := by rw [eo52]; rfl
                    have ko52_v : (gA o52 2 v4_2.toNatClampNeg).toInt = (gA o_me_2 2 (v4_2 - (1 : Int32)).toNatClampNeg).toInt := by rw [eo52]; exact congrArg Int32.toInt (upd_eq (g := gA o_me_2 2) (i := v4_2) (v := (gA o_me_2 2 (v4_2 - (1 : Int32)).toNatClampNeg)))
                    have hkpo52 : Kp [] [] [] o_me o52 := hkp_me_2.trans (by rw [eo52]; exact Kp.tA (by decide) (by decide))
                    refine wp_lt (fun x56 ex56 => ?_)
                    have tx56 : x56.toInt = v4_2.toInt + (-1) := by rw [ex56]; exact i32_add rfl (by decide) (zk_l (zlt_l (c := 1) c28 (by decide)) (by decide)) (zk_u hh24.2 (by decide))
                    have t57 := igX1_4 hIo52
                    exact ih2 v1_2 v2_2 v3_2 x56 o52 o_me_machine_2 hIo52 hkpo52 hI_me_machine_2 hkp_me_machine_2 po_v1_2 ⟨hh22.1, hh22.2⟩ ⟨hh23.1, hh23.2⟩ ⟨(zl_e (zq_r (c := 1) tx56 (by decide)) (zlt_l (c := 1) c28 (by decide)) (by decide)), (zu_e (Int.le_of_eq tx56) hh24.2 (by decide))⟩ (zd_e (c := 0) (zq_0 ko52_k55) hh25 (by decide)) hh26 (zms_d (c := 1) hN2 (Int.le_of_eq tx56) (zlt_l (c := 1) c28 (by decide)) (by decide))
            exact lp2 zfu v1_1 v2_1 v3_1 x20 o17 z16.2 hIo17 hkpo17 hz16_0 hkpz16_me_machine po_v1_1 ⟨hh3.1, hh3.2⟩ ⟨hh4.1, (zu_e (zl_d c8) t7.2 (by decide))⟩ ⟨(zl_e (zq_0 tx20.symm) t19.1 (by decide)), (zu_e (zd_e (c := (-1)) (zd_e (c := 0) (zd_e (c := 0) (zq_0 tx20) (zq_0 ko17_k18) (by decide)) hh5 (by decide)) (zl_d c8) (by decide)) t7.2 (by decide))⟩ (zd_e (c := 0) (zq_0 ko17_k18) hh5 (by decide)) (zd_r (by decide)) (zme_d (u := 6) (zu_e (k := 6) (zd_e (c := (-1)) (zd_e (c := 0) (zd_e (c := 0) (zq_0 tx20) (zq_0 ko17_k18) (by decide)) hh5 (by decide)) (zl_d c8) (by decide)) t7.2 (by decide)) (by decide))
          · have c15z := c15
            have c15 := cv_ne (a := z14.1.toInt) (b := 0) rfl (by decide) c15
            unfold bk_X1_lineUp_Q_129
            refine wp_lt (fun x58 ex58 => ?_)
            have tx58 : x58.toInt = v3_1.toInt + 1 := by rw [ex58]; exact i32_add rfl (by decide) (zk_l hh4.1 (by decide)) (zk_u (zu_e (k := 6) (zl_d c8) t7.2 (by decide)) (by decide))
            have t59 := igX1_4 hI_me_1
            exact ih1 v1_1 v2_1 x58 o_me_1 z14.2 hI_me_1 hkp_me_1 hz14_1 hkpz14_me_machine po_v1_1 ⟨hh3.1, hh3.2⟩ ⟨(zl_e (zq_r (c := (-1)) tx58 (by decide)) hh4.1 (by decide)), (zu_e (zd_e (c := 0) (Int.le_of_eq tx58) (zl_d c8) (by decide)) t7.2 (by decide))⟩ (zd_w (zd_e (c := (-1)) hh5 (zq_r (c := (-1)) tx58 (by decide)) (by decide)) (by decide)) (zms_u (c := 6) hN1 (zq_r (c := (-1)) tx58 (by decide)) (zu_e (zl_d c8) t7.2 (by decide)) (by decide))
  exact lp1 zfu p0 p1 (0 : Int32) o1 o_me_machine hIo1 hkpo1 hI_me_machine Kp.rf po_p0 ⟨q0.1, q0.2⟩ ⟨by decide, by decide⟩ (zd_b (Int.le_of_eq ko1_v) (Int.le_of_eq tz0.symm) (by decide)) (zme_u (l := 0) (Int.le_of_eq tz0.symm) (by decide))

set_option maxHeartbeats 4000000 in
set_option maxRecDepth 100000 in
theorem s_X1_moved_N (o_me : Ob) (o_me_isles : Ob) (o_me_isles_now : Ob) (o_me_machine : Ob) (o_pool : List CR) (p0 : Int32) (p1 : Int32) (hI_me : IvX1 o_me) (hI_me_isles : IvX2 o_pool o_me_isles) (hI_me_isles_now : IvX4 o_me_isles_now) (hI_me_machine : IvX3 o_me_machine) (hI_pool : PLok o_pool)  : wp (f_X1_moved_N   o_me o_me_isles o_me_isles_now o_me_machine o_pool p0 p1) (fun (y : Int32 × Ob × Ob × Ob) => IvX1 y.2.1 ∧ Kp [] [] [] o_me y.2.1 ∧ IvX4 y.2.2.1 ∧ Kp [] [] [] o_me_isles_now y.2.2.1 ∧ IvX3 y.2.2.2 ∧ Kp [] [] [] o_me_machine y.2.2.2) := by
  unfold f_X1_moved_N
  refine wp_if (fun c1 => ?_) (fun c1 => ?_)
  · have c1 := cv_eq (a := p0.toInt) (b := 0) rfl (by decide) c1
    refine wp_bd (s_X8_isRace   p1    ) (fun z2 hz2 => ?_)
    obtain ⟨hz2_0, hz2_1⟩ := hz2
    refine wp_if (fun c3 => ?_) (fun c3 => ?_)
    · have c3 := cv_eq (a := z2.toInt) (b := 0) rfl (by decide) c3
      obtain ⟨w4, ew4⟩ : ∃ z : Int32, z = (-1 : Int32) := ⟨_, rfl⟩
      have tw4 : w4.toInt = (-1) := by rw [ew4]; decide
      rw [show bk_X1_moved_N_39 o_me_isles o_pool  p0 p1 (-1 : Int32) o_me o_me_isles_now o_me_machine = bk_X1_moved_N_39 o_me_isles o_pool  p0 p1 w4 o_me o_me_isles_now o_me_machine from by rw [ew4]]
      unfold bk_X1_moved_N_39
      unfold bk_X1_moved_N_118
      refine wp_if (fun c5 => ?_) (fun c5 => ?_)
      · have c5 := cv_eq (a := w4.toInt) (b := 0) rfl (by decide) c5
        exact absurd c5 (zne_l (k := (-1)) (l := 0) (Int.le_of_eq tw4) (by decide) (by decide))
      · refine wp_some ?_
        exact (show IvX1 o_me ∧ Kp [] [] [] o_me o_me ∧ IvX4 o_me_isles_now ∧ Kp [] [] [] o_me_isles_now o_me_isles_now ∧ IvX3 o_me_machine ∧ Kp [] [] [] o_me_machine o_me_machine from ⟨hI_me, Kp.rf, hI_me_isles_now, Kp.rf, hI_me_machine, Kp.rf⟩)
    · have c3i := hz2_1 c3
      refine wp_bd (s_X2_lawInForce   o_me_isles  hI_me_isles  ) (fun z6 hz6 => ?_)
      have hz6_0 := hz6
      refine wp_bd (s_X1_lineUp_Q   o_me o_me_isles o_me_isles_now o_me_machine o_pool z6 p1  hI_me hI_me_isles hI_me_isles_now hI_me_machine hI_pool hz6_0 ⟨c3i.1, c3i.2⟩) (fun z7 hz7 => ?_)
      obtain ⟨hz7_0, hz7_1, hz7_2, hz7_3, hz7_4⟩ := hz7
      have hkpz7_me : Kp [] [] [] o_me z7.2.1 := Kp.rf.trans (hz7_2.mono (by decide) (by decide) (by decide))
      have hkpz7_me_machine : Kp [] [] [] o_me_machine z7.2.2 := Kp.rf.trans (hz7_4.mono (by decide) (by decide) (by decide))
      refine wp_if (fun c8 => ?_) (fun c8 => ?_)
      · obtain ⟨w9, ew9⟩ : ∃ z : Int32, z = (-3 : Int32) := ⟨_, rfl⟩
        have tw9 : w9.toInt = (-3) := by rw [ew9]; decide
        rw [show bk_X1_moved_N_39 o_me_isles o_pool  p0 p1 (-3 : Int32) z7.2.1 o_me_isles_now z7.2.2 = bk_X1_moved_N_39 o_me_isles o_pool  p0 p1 w9 z7.2.1 o_me_isles_now z7.2.2 from by rw [ew9]]
        unfold bk_X1_moved_N_39
        unfold bk_X1_moved_N_118
        refine wp_if (fun c10 => ?_) (fun c10 => ?_)
        · have c10 := cv_eq (a := w9.toInt) (b := 0) rfl (by decide) c10
          exact absurd c10 (zne_l (k := (-3)) (l := 0) (Int.le_of_eq tw9) (by decide) (by decide))
        · refine wp_some ?_
          exact (show IvX1 z7.2.1 ∧ Kp [] [] [] o_me z7.2.1 ∧ IvX4 o_me_isles_now ∧ Kp [] [] [] o_me_isles_now o_me_isles_now ∧ IvX3 z7.2.2 ∧ Kp [] [] [] o_me_machine z7.2.2 from ⟨hz7_1, hkpz7_me, hI_me_isles_now, Kp.rf, hz7_3, hkpz7_me_machine⟩)
      · obtain ⟨w11, ew11⟩ : ∃ z : Int32, z = (0 : Int32) := ⟨_, rfl⟩
        have tw11 : w11.toInt = 0 := by rw [ew11]; decide
        rw [show bk_X1_moved_N_39 o_me_isles o_pool  p0 p1 (0 : Int32) z7.2.1 o_me_isles_now z7.2.2 = bk_X1_moved_N_39 o_me_isles o_pool  p0 p1 w11 z7.2.1 o_me_isles_now z7.2.2 from by rw [ew11]]
        unfold bk_X1_moved_N_39
        unfold bk_X1_moved_N_118
        refine wp_if (fun c12 => ?_) (fun c12 => ?_)
        · have c12 := cv_eq (a := w11.toInt) (b := 0) rfl (by decide) c12
          unfold bk_X1_moved_N_142
          refine wp_if (fun c13 => ?_) (fun c13 => ?_)
          · refine wp_bd (s_X1_heldRace   z7.2.1 o_me_isles o_me_isles_now z7.2.2 o_pool p1  hz7_1 hI_me_isles hI_me_isles_now hz7_3 hI_pool  ⟨c3i.1, c3i.2⟩) (fun z14 hz14 => ?_)
            obtain ⟨hz14_0, hz14_1, hz14_2, hz14_3, hz14_4⟩ := hz14
            have hkpz14_me_isles_now : Kp [] [] [] o_me_isles_now z14.2.1 := Kp.rf.trans (hz14_2.mono (by decide) (by decide) (by decide))
            have hkpz14_me_machine : Kp [] [] [] o_me_machine z14.2.2 := hkpz7_me_machine.trans (hz14_4.mono (by decide) (by decide) (by decide))
            refine wp_some ?_
            exact (show IvX1 z7.2.1 ∧ Kp [] [] [] o_me z7.2.1 ∧ IvX4 z14.2.1 ∧ Kp [] [] [] o_me_isles_now z14.2.1 ∧ IvX3 z14.2.2 ∧ Kp [] [] [] o_me_machine z14.2.2 from ⟨hz7_1, hkpz7_me, hz14_1, hkpz14_me_isles_now, hz14_3, hkpz14_me_machine⟩)
          refine wp_if (fun c15 => ?_) (fun c15 => ?_)
          · have c15 := cv_eq (a := p0.toInt) (b := 1) rfl (by decide) c15
            exact absurd c15 (zne_l (k := 0) (l := 1) (Int.le_of_eq c1) (by decide) (by decide))
          refine wp_if (fun c16 => ?_) (fun c16 => ?_)
          · have c16 := cv_eq (a := p0.toInt) (b := 2) rfl (by decide) c16
            exact absurd c16 (zne_l (k := 0) (l := 2) (Int.le_of_eq c1) (by decide) (by decide))
          refine wp_bd (s_X1_passedYear   z7.2.1 o_me_isles o_me_isles_now z7.2.2 o_pool  hz7_1 hI_me_isles hI_me_isles_now hz7_3 hI_pool  ) (fun z17 hz17 => ?_)
          obtain ⟨hz17_0, hz17_1, hz17_2, hz17_3, hz17_4⟩ := hz17
          have hkpz17_me_isles_now : Kp [] [] [] o_me_isles_now z17.2.1 := Kp.rf.trans (hz17_2.mono (by decide) (by decide) (by decide))
          have hkpz17_me_machine : Kp [] [] [] o_me_machine z17.2.2 := hkpz7_me_machine.trans (hz17_4.mono (by decide) (by decide) (by decide))
          refine wp_some ?_
          exact (show IvX1 z7.2.1 ∧ Kp [] [] [] o_me z7.2.1 ∧ IvX4 z17.2.1 ∧ Kp [] [] [] o_me_isles_now z17.2.1 ∧ IvX3 z17.2.2 ∧ Kp [] [] [] o_me_machine z17.2.2 from ⟨hz7_1, hkpz7_me, hz17_1, hkpz17_me_isles_now, hz17_3, hkpz17_me_machine⟩)
        · have c12 := cv_ne (a := w11.toInt) (b := 0) rfl (by decide) c12
          exact absurd (Int.le_antisymm (Int.le_of_eq tw11) (Int.le_of_eq tw11.symm)) c12
  · have c1 := cv_ne (a := p0.toInt) (b := 0) rfl (by decide) c1
    refine wp_if (fun c18 => ?_) (fun c18 => ?_)
    · have c18 := cv_eq (a := p0.toInt) (b := 3) rfl (by decide) c18
      refine wp_if (fun c19 => ?_) (fun c19 => ?_)
      · obtain ⟨w20, ew20⟩ : ∃ z : Int32, z = (0 : Int32) := ⟨_, rfl⟩
        have tw20 : w20.toInt = 0 := by rw [ew20]; decide
        rw [show bk_X1_moved_N_71 o_me_isles o_pool  p0 p1 (0 : Int32) o_me o_me_isles_now o_me_machine = bk_X1_moved_N_71 o_me_isles o_pool  p0 p1 w20 o_me o_me_isles_now o_me_machine from by rw [ew20]]
        unfold bk_X1_moved_N_71
        unfold bk_X1_moved_N_118
        refine wp_if (fun c21 => ?_) (fun c21 => ?_)
        · have c21 := cv_eq (a := w20.toInt) (b := 0) rfl (by decide) c21
          unfold bk_X1_moved_N_142
          refine wp_if (fun c22 => ?_) (fun c22 => ?_)
          · have c22 := cv_eq (a := p0.toInt) (b := 0) rfl (by decide) c22
            exact absurd c22 c1
          refine wp_if (fun c23 => ?_) (fun c23 => ?_)
          · have c23 := cv_eq (a := p0.toInt) (b := 1) rfl (by decide) c23
            exact absurd c23 (zne_r (k := 1) (l := 3) (by decide) (Int.le_of_eq c18.symm) (by decide))
          refine wp_if (fun c24 => ?_) (fun c24 => ?_)
          · have c24 := cv_eq (a := p0.toInt) (b := 2) rfl (by decide) c24
            exact absurd c24 (zne_r (k := 2) (l := 3) (by decide) (Int.le_of_eq c18.symm) (by decide))
          refine wp_bd (s_X1_passedYear   o_me o_me_isles o_me_isles_now o_me_machine o_pool  hI_me hI_me_isles hI_me_isles_now hI_me_machine hI_pool  ) (fun z25 hz25 => ?_)
          obtain ⟨hz25_0, hz25_1, hz25_2, hz25_3, hz25_4⟩ := hz25
          have hkpz25_me_isles_now : Kp [] [] [] o_me_isles_now z25.2.1 := Kp.rf.trans (hz25_2.mono (by decide) (by decide) (by decide))
          have hkpz25_me_machine : Kp [] [] [] o_me_machine z25.2.2 := Kp.rf.trans (hz25_4.mono (by decide) (by decide) (by decide))
          refine wp_some ?_
          exact (show IvX1 o_me ∧ Kp [] [] [] o_me o_me ∧ IvX4 z25.2.1 ∧ Kp [] [] [] o_me_isles_now z25.2.1 ∧ IvX3 z25.2.2 ∧ Kp [] [] [] o_me_machine z25.2.2 from ⟨hI_me, Kp.rf, hz25_1, hkpz25_me_isles_now, hz25_3, hkpz25_me_machine⟩)
        · have c21 := cv_ne (a := w20.toInt) (b := 0) rfl (by decide) c21
          exact absurd (Int.le_antisymm (Int.le_of_eq tw20) (Int.le_of_eq tw20.symm)) c21
      · obtain ⟨w26, ew26⟩ : ∃ z : Int32, z = (-3 : Int32) := ⟨_, rfl⟩
        have tw26 : w26.toInt = (-3) := by rw [ew26]; decide
        rw [show bk_X1_moved_N_71 o_me_isles o_pool  p0 p1 (-3 : Int32) o_me o_me_isles_now o_me_machine = bk_X1_moved_N_71 o_me_isles o_pool  p0 p1 w26 o_me o_me_isles_now o_me_machine from by rw [ew26]]
        unfold bk_X1_moved_N_71
        unfold bk_X1_moved_N_118
        refine wp_if (fun c27 => ?_) (fun c27 => ?_)
        · have c27 := cv_eq (a := w26.toInt) (b := 0) rfl (by decide) c27
          exact absurd c27 (zne_l (k := (-3)) (l := 0) (Int.le_of_eq tw26) (by decide) (by decide))
        · refine wp_some ?_
          exact (show IvX1 o_me ∧ Kp [] [] [] o_me o_me ∧ IvX4 o_me_isles_now ∧ Kp [] [] [] o_me_isles_now o_me_isles_now ∧ IvX3 o_me_machine ∧ Kp [] [] [] o_me_machine o_me_machine from ⟨hI_me, Kp.rf, hI_me_isles_now, Kp.rf, hI_me_machine, Kp.rf⟩)
    · refine wp_bd (s_X2_isPerson   o_me_isles p1  hI_me_isles  ) (fun z28 hz28 => ?_)
      obtain ⟨hz28_0, hz28_1⟩ := hz28
      refine wp_if (fun c29 => ?_) (fun c29 => ?_)
      · have c29 := cv_eq (a := z28.toInt) (b := 0) rfl (by decide) c29
        obtain ⟨w30, ew30⟩ : ∃ z : Int32, z = (-2 : Int32) := ⟨_, rfl⟩
        have tw30 : w30.toInt = (-2) := by rw [ew30]; decide
        rw [show bk_X1_moved_N_116 o_me_isles o_pool  p0 p1 (-2 : Int32) o_me o_me_isles_now o_me_machine = bk_X1_moved_N_116 o_me_isles o_pool  p0 p1 w30 o_me o_me_isles_now o_me_machine from by rw [ew30]]
        unfold bk_X1_moved_N_116
        unfold bk_X1_moved_N_118
        refine wp_if (fun c31 => ?_) (fun c31 => ?_)
        · have c31 := cv_eq (a := w30.toInt) (b := 0) rfl (by decide) c31
          exact absurd c31 (zne_l (k := (-2)) (l := 0) (Int.le_of_eq tw30) (by decide) (by decide))
        · refine wp_some ?_
          exact (show IvX1 o_me ∧ Kp [] [] [] o_me o_me ∧ IvX4 o_me_isles_now ∧ Kp [] [] [] o_me_isles_now o_me_isles_now ∧ IvX3 o_me_machine ∧ Kp [] [] [] o_me_machine o_me_machine from ⟨hI_me, Kp.rf, hI_me_isles_now, Kp.rf, hI_me_machine, Kp.rf⟩)
      · have c29i := hz28_1 c29
        refine wp_if (fun c32 => ?_) (fun c32 => ?_)
        · have c32 := cv_eq (a := p0.toInt) (b := 2) rfl (by decide) c32
          refine wp_if (fun c33 => ?_) (fun c33 => ?_)
          · obtain ⟨w34, ew34⟩ : ∃ z : Int32, z = (-3 : Int32) := ⟨_, rfl⟩
            have tw34 : w34.toInt = (-3) := by rw [ew34]; decide
            rw [show bk_X1_moved_N_116 o_me_isles o_pool  p0 p1 (-3 : Int32) o_me o_me_isles_now o_me_machine = bk_X1_moved_N_116 o_me_isles o_pool  p0 p1 w34 o_me o_me_isles_now o_me_machine from by rw [ew34]]
            unfold bk_X1_moved_N_116
            unfold bk_X1_moved_N_118
            refine wp_if (fun c35 => ?_) (fun c35 => ?_)
            · have c35 := cv_eq (a := w34.toInt) (b := 0) rfl (by decide) c35
              exact absurd c35 (zne_l (k := (-3)) (l := 0) (Int.le_of_eq tw34) (by decide) (by decide))
            · refine wp_some ?_
              exact (show IvX1 o_me ∧ Kp [] [] [] o_me o_me ∧ IvX4 o_me_isles_now ∧ Kp [] [] [] o_me_isles_now o_me_isles_now ∧ IvX3 o_me_machine ∧ Kp [] [] [] o_me_machine o_me_machine from ⟨hI_me, Kp.rf, hI_me_isles_now, Kp.rf, hI_me_machine, Kp.rf⟩)
          · unfold bk_X1_moved_N_115
            obtain ⟨w36, ew36⟩ : ∃ z : Int32, z = (0 : Int32) := ⟨_, rfl⟩
            have tw36 : w36.toInt = 0 := by rw [ew36]; decide
            rw [show bk_X1_moved_N_116 o_me_isles o_pool  p0 p1 (0 : Int32) o_me o_me_isles_now o_me_machine = bk_X1_moved_N_116 o_me_isles o_pool  p0 p1 w36 o_me o_me_isles_now o_me_machine from by rw [ew36]]
            unfold bk_X1_moved_N_116
            unfold bk_X1_moved_N_118
            refine wp_if (fun c37 => ?_) (fun c37 => ?_)
            · have c37 := cv_eq (a := w36.toInt) (b := 0) rfl (by decide) c37
              unfold bk_X1_moved_N_142
              refine wp_if (fun c38 => ?_) (fun c38 => ?_)
              · have c38 := cv_eq (a := p0.toInt) (b := 0) rfl (by decide) c38
                exact absurd c38 c1
              refine wp_if (fun c39 => ?_) (fun c39 => ?_)
              · have c39 := cv_eq (a := p0.toInt) (b := 1) rfl (by decide) c39
                exact absurd c39 (zne_r (k := 1) (l := 2) (by decide) (Int.le_of_eq c32.symm) (by decide))
              refine wp_if (fun c40 => ?_) (fun c40 => ?_)
              · refine wp_bd (s_X1_takenGap   o_me o_me_isles o_me_isles_now p1  hI_me hI_me_isles hI_me_isles_now  ⟨c29i.1.1, c29i.1.2⟩) (fun z41 hz41 => ?_)
                obtain ⟨hz41_0, hz41_1⟩ := hz41
                have hkpz41_me_isles_now : Kp [] [] [] o_me_isles_now z41.2 := Kp.rf.trans (hz41_1.mono (by decide) (by decide) (by decide))
                refine wp_some ?_
                exact (show IvX1 o_me ∧ Kp [] [] [] o_me o_me ∧ IvX4 z41.2 ∧ Kp [] [] [] o_me_isles_now z41.2 ∧ IvX3 o_me_machine ∧ Kp [] [] [] o_me_machine o_me_machine from ⟨hI_me, Kp.rf, hz41_0, hkpz41_me_isles_now, hI_me_machine, Kp.rf⟩)
              refine wp_bd (s_X1_passedYear   o_me o_me_isles o_me_isles_now o_me_machine o_pool  hI_me hI_me_isles hI_me_isles_now hI_me_machine hI_pool  ) (fun z42 hz42 => ?_)
              obtain ⟨hz42_0, hz42_1, hz42_2, hz42_3, hz42_4⟩ := hz42
              have hkpz42_me_isles_now : Kp [] [] [] o_me_isles_now z42.2.1 := Kp.rf.trans (hz42_2.mono (by decide) (by decide) (by decide))
              have hkpz42_me_machine : Kp [] [] [] o_me_machine z42.2.2 := Kp.rf.trans (hz42_4.mono (by decide) (by decide) (by decide))
              refine wp_some ?_
              exact (show IvX1 o_me ∧ Kp [] [] [] o_me o_me ∧ IvX4 z42.2.1 ∧ Kp [] [] [] o_me_isles_now z42.2.1 ∧ IvX3 z42.2.2 ∧ Kp [] [] [] o_me_machine z42.2.2 from ⟨hI_me, Kp.rf, hz42_1, hkpz42_me_isles_now, hz42_3, hkpz42_me_machine⟩)
            · have c37 := cv_ne (a := w36.toInt) (b := 0) rfl (by decide) c37
              exact absurd (Int.le_antisymm (Int.le_of_eq tw36) (Int.le_of_eq tw36.symm)) c37
        · have c32 := cv_ne (a := p0.toInt) (b := 2) rfl (by decide) c32
          unfold bk_X1_moved_N_115
          obtain ⟨w44, ew44⟩ : ∃ z : Int32, z = (0 : Int32) := ⟨_, rfl⟩
          have tw44 : w44.toInt = 0 := by rw [ew44]; decide
          rw [show bk_X1_moved_N_116 o_me_isles o_pool  p0 p1 (0 : Int32) o_me o_me_isles_now o_me_machine = bk_X1_moved_N_116 o_me_isles o_pool  p0 p1 w44 o_me o_me_isles_now o_me_machine from by rw [ew44]]
          unfold bk_X1_moved_N_116
          unfold bk_X1_moved_N_118
          refine wp_if (fun c45 => ?_) (fun c45 => ?_)
          · have c45 := cv_eq (a := w44.toInt) (b := 0) rfl (by decide) c45
            unfold bk_X1_moved_N_142
            refine wp_if (fun c46 => ?_) (fun c46 => ?_)
            · have c46 := cv_eq (a := p0.toInt) (b := 0) rfl (by decide) c46
              exact absurd c46 c1
            refine wp_if (fun c47 => ?_) (fun c47 => ?_)
            · refine wp_bd (s_X1_changedEntry   o_me o_me_isles o_me_isles_now p1  hI_me hI_me_isles hI_me_isles_now  ⟨c29i.1.1, c29i.1.2⟩) (fun z48 hz48 => ?_)
              obtain ⟨hz48_0, hz48_1, hz48_2⟩ := hz48
              have hkpz48_me_isles_now : Kp [] [] [] o_me_isles_now z48.2 := Kp.rf.trans (hz48_2.mono (by decide) (by decide) (by decide))
              refine wp_some ?_
              exact (show IvX1 o_me ∧ Kp [] [] [] o_me o_me ∧ IvX4 z48.2 ∧ Kp [] [] [] o_me_isles_now z48.2 ∧ IvX3 o_me_machine ∧ Kp [] [] [] o_me_machine o_me_machine from ⟨hI_me, Kp.rf, hz48_1, hkpz48_me_isles_now, hI_me_machine, Kp.rf⟩)
            refine wp_if (fun c49 => ?_) (fun c49 => ?_)
            · have c49 := cv_eq (a := p0.toInt) (b := 2) rfl (by decide) c49
              exact absurd c49 c32
            refine wp_bd (s_X1_passedYear   o_me o_me_isles o_me_isles_now o_me_machine o_pool  hI_me hI_me_isles hI_me_isles_now hI_me_machine hI_pool  ) (fun z50 hz50 => ?_)
            obtain ⟨hz50_0, hz50_1, hz50_2, hz50_3, hz50_4⟩ := hz50
            have hkpz50_me_isles_now : Kp [] [] [] o_me_isles_now z50.2.1 := Kp.rf.trans (hz50_2.mono (by decide) (by decide) (by decide))
            have hkpz50_me_machine : Kp [] [] [] o_me_machine z50.2.2 := Kp.rf.trans (hz50_4.mono (by decide) (by decide) (by decide))
            refine wp_some ?_
            exact (show IvX1 o_me ∧ Kp [] [] [] o_me o_me ∧ IvX4 z50.2.1 ∧ Kp [] [] [] o_me_isles_now z50.2.1 ∧ IvX3 z50.2.2 ∧ Kp [] [] [] o_me_machine z50.2.2 from ⟨hI_me, Kp.rf, hz50_1, hkpz50_me_isles_now, hz50_3, hkpz50_me_machine⟩)
          · have c45 := cv_ne (a := w44.toInt) (b := 0) rfl (by decide) c45
            exact absurd (Int.le_antisymm (Int.le_of_eq tw44) (Int.le_of_eq tw44.symm)) c45

set_option maxHeartbeats 4000000 in
set_option maxRecDepth 100000 in
theorem s_X8_centuries {rI : Nat → Option Nat} (o_me : Ob) (o_me_machine : Ob) (o_me_isles : Ob) (o_me_isles_now : Ob) (o_me_paper : Ob) (o_me_paper_now : Ob) (o_me_paperCourt : Ob) (o_pool : List CR) (p0 : Int32) (p1 : Int32) (hI_me : IvX8 rI o_me) (hI_me_machine : IvX3 o_me_machine) (hI_me_isles : IvX2 o_pool o_me_isles) (hI_me_isles_now : IvX4 o_me_isles_now) (hI_me_paper : IvX2 o_pool o_me_paper) (hI_me_paper_now : IvX4 o_me_paper_now) (hI_me_paperCourt : IvX1 o_me_paperCourt) (hI_pool : PLok o_pool)  : wp (f_X8_centuries   o_me o_me_machine o_me_isles o_me_isles_now o_me_paper o_me_paper_now o_me_paperCourt o_pool p0 p1) (fun (y : Int32 × Ob × Ob × Ob × Ob × Ob) => IvX8 rI y.2.1 ∧ Kp [13, 14, 15, 16] [] [] o_me y.2.1 ∧ IvX3 y.2.2.1 ∧ Kp [] [] [] o_me_machine y.2.2.1 ∧ IvX2 o_pool y.2.2.2.1 ∧ Kp [] [] [] o_me_paper y.2.2.2.1 ∧ IvX4 y.2.2.2.2.1 ∧ Kp [] [] [] o_me_paper_now y.2.2.2.2.1 ∧ IvX1 y.2.2.2.2.2 ∧ Kp [] [] [] o_me_paperCourt y.2.2.2.2.2) := by
  have li0 : (-1 : Int32).toInt = (-1) := by decide
  have li1 : (-3 : Int32).toInt = (-3) := by decide
  have li2 : (0 : Int32).toInt = 0 := by decide
  have li3 : (1 : Int32).toInt = 1 := by decide
  have li4 : (1000000 : Int32).toInt = 1000000 := by decide
  have li5 : (2 : Int32).toInt = 2 := by decide
  have li6 : (3 : Int32).toInt = 3 := by decide
  have li7 : (4 : Int32).toInt = 4 := by decide
  have li8 : (60 : Int32).toInt = 60 := by decide
  have li9 : (999 : Int32).toInt = 999 := by decide
  unfold f_X8_centuries
  refine wp_if (fun c1 => ?_) (fun c1 => ?_)
  · have c1 := cv_lt (a := p0.toInt) (b := 0) rfl (by decide) c1
    unfold bk_X8_centuries_22
    refine wp_bd (s_X8_refuse   o_me (-1 : Int32)  hI_me  ) (fun z2 hz2 => ?_)
    obtain ⟨hz2_0, hz2_1⟩ := hz2
    have hkpz2_me : Kp [13, 14, 15, 16] [] [] o_me z2.2 := Kp.rf.trans (hz2_1.mono (by decide) (by decide) (by decide))
    refine wp_some ?_
    exact (show IvX8 rI z2.2 ∧ Kp [13, 14, 15, 16] [] [] o_me z2.2 ∧ IvX3 o_me_machine ∧ Kp [] [] [] o_me_machine o_me_machine ∧ IvX2 o_pool o_me_paper ∧ Kp [] [] [] o_me_paper o_me_paper ∧ IvX4 o_me_paper_now ∧ Kp [] [] [] o_me_paper_now o_me_paper_now ∧ IvX1 o_me_paperCourt ∧ Kp [] [] [] o_me_paperCourt o_me_paperCourt from ⟨hz2_0, hkpz2_me, hI_me_machine, Kp.rf, hI_me_paper, Kp.rf, hI_me_paper_now, Kp.rf, hI_me_paperCourt, Kp.rf⟩)
  · have c1 := cv_nlt (a := p0.toInt) (b := 0) rfl (by decide) c1
    refine wp_if (fun c3 => ?_) (fun c3 => ?_)
    · have c3 := cv_gt (a := p0.toInt) (b := 1000000) rfl (by decide) c3
      unfold bk_X8_centuries_22
      refine wp_bd (s_X8_refuse   o_me (-1 : Int32)  hI_me  ) (fun z4 hz4 => ?_)
      obtain ⟨hz4_0, hz4_1⟩ := hz4
      have hkpz4_me : Kp [13, 14, 15, 16] [] [] o_me z4.2 := Kp.rf.trans (hz4_1.mono (by decide) (by decide) (by decide))
      refine wp_some ?_
      exact (show IvX8 rI z4.2 ∧ Kp [13, 14, 15, 16] [] [] o_me z4.2 ∧ IvX3 o_me_machine ∧ Kp [] [] [] o_me_machine o_me_machine ∧ IvX2 o_pool o_me_paper ∧ Kp [] [] [] o_me_paper o_me_paper ∧ IvX4 o_me_paper_now ∧ Kp [] [] [] o_me_paper_now o_me_paper_now ∧ IvX1 o_me_paperCourt ∧ Kp [] [] [] o_me_paperCourt o_me_paperCourt from ⟨hz4_0, hkpz4_me, hI_me_machine, Kp.rf, hI_me_paper, Kp.rf, hI_me_paper_now, Kp.rf, hI_me_paperCourt, Kp.rf⟩)
    · have c3 := cv_ngt (a := p0.toInt) (b := 1000000) rfl (by decide) c3
      refine wp_if (fun c5 => ?_) (fun c5 => ?_)
      · have c5 := cv_lt (a := p1.toInt) (b := 1) rfl (by decide) c5
        unfold bk_X8_centuries_22
        refine wp_bd (s_X8_refuse   o_me (-1 : Int32)  hI_me  ) (fun z6 hz6 => ?_)
        obtain ⟨hz6_0, hz6_1⟩ := hz6
        have hkpz6_me : Kp [13, 14, 15, 16] [] [] o_me z6.2 := Kp.rf.trans (hz6_1.mono (by decide) (by decide) (by decide))
        refine wp_some ?_
        exact (show IvX8 rI z6.2 ∧ Kp [13, 14, 15, 16] [] [] o_me z6.2 ∧ IvX3 o_me_machine ∧ Kp [] [] [] o_me_machine o_me_machine ∧ IvX2 o_pool o_me_paper ∧ Kp [] [] [] o_me_paper o_me_paper ∧ IvX4 o_me_paper_now ∧ Kp [] [] [] o_me_paper_now o_me_paper_now ∧ IvX1 o_me_paperCourt ∧ Kp [] [] [] o_me_paperCourt o_me_paperCourt from ⟨hz6_0, hkpz6_me, hI_me_machine, Kp.rf, hI_me_paper, Kp.rf, hI_me_paper_now, Kp.rf, hI_me_paperCourt, Kp.rf⟩)
      · have c5 := cv_nlt (a := p1.toInt) (b := 1) rfl (by decide) c5
        refine wp_if (fun c7 => ?_) (fun c7 => ?_)
        · have c7 := cv_le (a := p1.toInt) (b := 60) rfl (by decide) c7
          have t8 := igX2_7 hI_me_isles
          refine wp_if (fun c9 => ?_) (fun c9 => ?_)
          · have c9 := cv_eq (a := (gI o_me_isles 7).toInt) (b := 0) rfl (by decide) c9
            refine wp_bd (s_X8_refuse   o_me (-3 : Int32)  hI_me  ) (fun z10 hz10 => ?_)
            obtain ⟨hz10_0, hz10_1⟩ := hz10
            have hkpz10_me : Kp [13, 14, 15, 16] [] [] o_me z10.2 := Kp.rf.trans (hz10_1.mono (by decide) (by decide) (by decide))
            refine wp_some ?_
            exact (show IvX8 rI z10.2 ∧ Kp [13, 14, 15, 16] [] [] o_me z10.2 ∧ IvX3 o_me_machine ∧ Kp [] [] [] o_me_machine o_me_machine ∧ IvX2 o_pool o_me_paper ∧ Kp [] [] [] o_me_paper o_me_paper ∧ IvX4 o_me_paper_now ∧ Kp [] [] [] o_me_paper_now o_me_paper_now ∧ IvX1 o_me_paperCourt ∧ Kp [] [] [] o_me_paperCourt o_me_paperCourt from ⟨hz10_0, hkpz10_me, hI_me_machine, Kp.rf, hI_me_paper, Kp.rf, hI_me_paper_now, Kp.rf, hI_me_paperCourt, Kp.rf⟩)
          · have c9z := c9
            have c9 := cv_ne (a := (gI o_me_isles 7).toInt) (b := 0) rfl (by decide) c9
            refine wp_bd (s_X2_set_O   o_me_paper o_me_paper_now o_pool o_me_isles o_me_isles_now  hI_me_paper hI_me_paper_now hI_pool hI_me_isles hI_me_isles_now  ) (fun z11 hz11 => ?_)
            obtain ⟨hz11_0, hz11_1, hz11_2, hz11_3⟩ := hz11
            have hkpz11_me_paper : Kp [] [] [] o_me_paper z11.1 := Kp.rf.trans (hz11_1.mono (by decide) (by decide) (by decide))
            have hkpz11_me_paper_now : Kp [] [] [] o_me_paper_now z11.2 := Kp.rf.trans (hz11_3.mono (by decide) (by decide) (by decide))
            have lp1 : ∀ (N1 : Nat) (v2_1 : Int32) (v3_1 : Int32) (v4_1 : Int32) (v5_1 : Int32) (o_me_1 : Ob) (o_me_machine_1 : Ob) (o_me_paper_1 : Ob) (o_me_paper_now_1 : Ob) (o_me_paperCourt_1 : Ob), IvX8 rI o_me_1 → Kp [13, 14, 15, 16] [] [] o_me o_me_1 → IvX3 o_me_machine_1 → Kp [] [] [] o_me_machine o_me_machine_1 → IvX2 o_pool o_me_paper_1 → Kp [] [] [] o_me_paper o_me_paper_1 → IvX4 o_me_paper_now_1 → Kp [] [] [] o_me_paper_now o_me_paper_now_1 → IvX1 o_me_paperCourt_1 → Kp [] [] [] o_me_paperCourt o_me_paperCourt_1 → (1 ≤ v2_1.toInt ∧ v2_1.toInt ≤ 60) → (0 ≤ v5_1.toInt ∧ v5_1.toInt ≤ 60) → (60 - v5_1.toInt).toNat < N1 → wp (lp_X8_centuries_64 o_me_isles o_me_isles_now o_pool  N1 (v2_1, v3_1, v4_1, v5_1, o_me_1, o_me_machine_1, o_me_paper_1, o_me_paper_now_1, o_me_paperCourt_1)) (fun (y : Int32 × Ob × Ob × Ob × Ob × Ob) => IvX8 rI y.2.1 ∧ Kp [13, 14, 15, 16] [] [] o_me y.2.1 ∧ IvX3 y.2.2.1 ∧ Kp [] [] [] o_me_machine y.2.2.1 ∧ IvX2 o_pool y.2.2.2.1 ∧ Kp [] [] [] o_me_paper y.2.2.2.1 ∧ IvX4 y.2.2.2.2.1 ∧ Kp [] [] [] o_me_paper_now y.2.2.2.2.1 ∧ IvX1 y.2.2.2.2.2 ∧ Kp [] [] [] o_me_paperCourt y.2.2.2.2.2) := by
              intro N1
              induction N1 with
              | zero =>
                intro v2_1 v3_1 v4_1 v5_1 o_me_1 o_me_machine_1 o_me_paper_1 o_me_paper_now_1 o_me_paperCourt_1 hI_me_1 hkp_me_1 hI_me_machine_1 hkp_me_machine_1 hI_me_paper_1 hkp_me_paper_1 hI_me_paper_now_1 hkp_me_paper_now_1 hI_me_paperCourt_1 hkp_me_paperCourt_1 hh12 hh13 hN1
                exact absurd hN1 (Nat.not_lt_zero _)
              | succ N1 ihx =>
                have ih1 := ihx
                intro v2_1 v3_1 v4_1 v5_1 o_me_1 o_me_machine_1 o_me_paper_1 o_me_paper_now_1 o_me_paperCourt_1 hI_me_1 hkp_me_1 hI_me_machine_1 hkp_me_machine_1 hI_me_paper_1 hkp_me_paper_1 hI_me_paper_now_1 hkp_me_paper_now_1 hI_me_paperCourt_1 hkp_me_paperCourt_1 hh12 hh13 hN1
                show wp (lb_X8_centuries_64 o_me_isles o_me_isles_now o_pool  (lp_X8_centuries_64 o_me_isles o_me_isles_now o_pool  N1) v2_1 v3_1 v4_1 v5_1 o_me_1 o_me_machine_1 o_me_paper_1 o_me_paper_now_1 o_me_paperCourt_1) (fun (y : Int32 × Ob × Ob × Ob × Ob × Ob) => IvX8 rI y.2.1 ∧ Kp [13, 14, 15, 16] [] [] o_me y.2.1 ∧ IvX3 y.2.2.1 ∧ Kp [] [] [] o_me_machine y.2.2.1 ∧ IvX2 o_pool y.2.2.2.1 ∧ Kp [] [] [] o_me_paper y.2.2.2.1 ∧ IvX4 y.2.2.2.2.1 ∧ Kp [] [] [] o_me_paper_now y.2.2.2.2.1 ∧ IvX1 y.2.2.2.2.2 ∧ Kp [] [] [] o_me_paperCourt y.2.2.2.2.2)
                unfold lb_X8_centuries_64
                refine wp_if (fun c14 => ?_) (fun c14 => ?_)
                · have c14 := cv_ge (a := v5_1.toInt) (b := v2_1.toInt) rfl rfl c14
                  unfold bk_X8_centuries_194
                  refine wp_bd (s_X8_grant   o_me_1 v4_1  hI_me_1  ) (fun z15 hz15 => ?_)
                  obtain ⟨hz15_0, hz15_1⟩ := hz15
                  have hkpz15_me : Kp [13, 14, 15, 16] [] [] o_me z15.2 := hkp_me_1.trans (hz15_1.mono (by decide) (by decide) (by decide))
                  refine wp_some ?_
                  exact (show IvX8 rI z15.2 ∧ Kp [13, 14, 15, 16] [] [] o_me z15.2 ∧ IvX3 o_me_machine_1 ∧ Kp [] [] [] o_me_machine o_me_machine_1 ∧ IvX2 o_pool o_me_paper_1 ∧ Kp [] [] [] o_me_paper o_me_paper_1 ∧ IvX4 o_me_paper_now_1 ∧ Kp [] [] [] o_me_paper_now o_me_paper_now_1 ∧ IvX1 o_me_paperCourt_1 ∧ Kp [] [] [] o_me_paperCourt o_me_paperCourt_1 from ⟨hz15_0, hkpz15_me, hI_me_machine_1, hkp_me_machine_1, hI_me_paper_1, hkp_me_paper_1, hI_me_paper_now_1, hkp_me_paper_now_1, hI_me_paperCourt_1, hkp_me_paperCourt_1⟩)
                · have c14 := cv_nge (a := v5_1.toInt) (b := v2_1.toInt) rfl rfl c14
                  refine wp_if (fun c16 => ?_) (fun c16 => ?_)
                  · have c16 := cv_ge (a := (gI o_me_paper_now_1 4).toInt) (b := 999) rfl (by decide) c16
                    unfold bk_X8_centuries_194
                    refine wp_bd (s_X8_grant   o_me_1 v4_1  hI_me_1  ) (fun z17 hz17 => ?_)
                    obtain ⟨hz17_0, hz17_1⟩ := hz17
                    have hkpz17_me : Kp [13, 14, 15, 16] [] [] o_me z17.2 := hkp_me_1.trans (hz17_1.mono (by decide) (by decide) (by decide))
                    refine wp_some ?_
                    exact (show IvX8 rI z17.2 ∧ Kp [13, 14, 15, 16] [] [] o_me z17.2 ∧ IvX3 o_me_machine_1 ∧ Kp [] [] [] o_me_machine o_me_machine_1 ∧ IvX2 o_pool o_me_paper_1 ∧ Kp [] [] [] o_me_paper o_me_paper_1 ∧ IvX4 o_me_paper_now_1 ∧ Kp [] [] [] o_me_paper_now o_me_paper_now_1 ∧ IvX1 o_me_paperCourt_1 ∧ Kp [] [] [] o_me_paperCourt o_me_paperCourt_1 from ⟨hz17_0, hkpz17_me, hI_me_machine_1, hkp_me_machine_1, hI_me_paper_1, hkp_me_paper_1, hI_me_paper_now_1, hkp_me_paper_now_1, hI_me_paperCourt_1, hkp_me_paperCourt_1⟩)
                  · have c16 := cv_nge (a := (gI o_me_paper_now_1 4).toInt) (b := 999) rfl (by decide) c16
                    refine wp_bd (s_X8_nextDraw   v3_1    ) (fun z18 hz18 => ?_)
                    refine wp_bd (s_X8_nextDraw   z18    ) (fun z19 hz19 => ?_)
                    refine wp_bd (s_X8_nextDraw   z19    ) (fun z20 hz20 => ?_)
                    refine wp_if (fun c21 => ?_) (fun c21 => ?_)
                    · have c21 := cv_ge (a := (z20 - z20 / (4 : Int32) * (4 : Int32)).toInt) (b := 2) rfl (by decide) c21
                      refine wp_if (fun c22 => ?_) (fun c22 => ?_)
                      · have c22 := cv_eq (a := (z20 - z20 / (4 : Int32) * (4 : Int32)).toInt) (b := 2) rfl (by decide) c22
                        obtain ⟨w23, ew23⟩ : ∃ z : Int32, z = (0 : Int32) := ⟨_, rfl⟩
                        have tw23 : w23.toInt = 0 := by rw [ew23]; decide
                        rw [show bk_X8_centuries_128 o_me_isles o_me_isles_now o_pool (lp_X8_centuries_64 o_me_isles o_me_isles_now o_pool  N1) v2_1 z20 v4_1 v5_1 z18 z19 (0 : Int32) o_me_1 o_me_machine_1 o_me_paper_1 o_me_paper_now_1 o_me_paperCourt_1 = bk_X8_centuries_128 o_me_isles o_me_isles_now o_pool (lp_X8_centuries_64 o_me_isles o_me_isles_now o_pool  N1) v2_1 z20 v4_1 v5_1 z18 z19 w23 o_me_1 o_me_machine_1 o_me_paper_1 o_me_paper_now_1 o_me_paperCourt_1 from by rw [ew23]]
                        unfold bk_X8_centuries_128
                        refine wp_if (fun c24 => ?_) (fun c24 => ?_)
                        · have c24 := cv_eq (a := w23.toInt) (b := 0) rfl (by decide) c24
                          obtain ⟨w25, ew25⟩ : ∃ z : Int32, z = z19 - z19 / (4 : Int32) * (4 : Int32) := ⟨_, rfl⟩
                          have tw25 : w25.toInt = (z19 - z19 / (4 : Int32) * (4 : Int32)).toInt := by rw [ew25]
                          rw [show bk_X8_centuries_158 o_me_isles o_me_isles_now o_pool (lp_X8_centuries_64 o_me_isles o_me_isles_now o_pool  N1) v2_1 z20 v4_1 v5_1 w23 (z19 - z19 / (4 : Int32) * (4 : Int32)) w23 o_me_1 o_me_machine_1 o_me_paper_1 o_me_paper_now_1 o_me_paperCourt_1 = bk_X8_centuries_158 o_me_isles o_me_isles_now o_pool (lp_X8_centuries_64 o_me_isles o_me_isles_now o_pool  N1) v2_1 z20 v4_1 v5_1 w23 w25 w23 o_me_1 o_me_machine_1 o_me_paper_1 o_me_paper_now_1 o_me_paperCourt_1 from by rw [ew25]]
                          unfold bk_X8_centuries_158
                          refine wp_bd (s_X1_moved_N   o_me_paperCourt_1 o_me_paper_1 o_me_paper_now_1 o_me_machine_1 o_pool w23 w25  hI_me_paperCourt_1 hI_me_paper_1 hI_me_paper_now_1 hI_me_machine_1 hI_pool  ) (fun z26 hz26 => ?_)
                          obtain ⟨hz26_0, hz26_1, hz26_2, hz26_3, hz26_4, hz26_5⟩ := hz26
                          have hkpz26_me_paperCourt : Kp [] [] [] o_me_paperCourt z26.2.1 := hkp_me_paperCourt_1.trans (hz26_1.mono (by decide) (by decide) (by decide))
                          have hkpz26_me_paper_now : Kp [] [] [] o_me_paper_now z26.2.2.1 := hkp_me_paper_now_1.trans (hz26_3.mono (by decide) (by decide) (by decide))
                          have hkpz26_me_machine : Kp [] [] [] o_me_machine z26.2.2.2 := hkp_me_machine_1.trans (hz26_5.mono (by decide) (by decide) (by decide))
                          refine wp_if (fun c27 => ?_) (fun c27 => ?_)
                          · have c27 := cv_eq (a := w23.toInt) (b := 0) rfl (by decide) c27
                            refine wp_if (fun c28 => ?_) (fun c28 => ?_)
                            · have c28 := cv_lt (a := z26.1.toInt) (b := 0) rfl (by decide) c28
                              unfold bk_X8_centuries_177
                              refine wp_bd (s_X1_moved_N   z26.2.1 o_me_paper_1 z26.2.2.1 z26.2.2.2 o_pool (3 : Int32) (0 : Int32)  hz26_0 hI_me_paper_1 hz26_2 hz26_4 hI_pool  ) (fun z29 hz29 => ?_)
                              obtain ⟨hz29_0, hz29_1, hz29_2, hz29_3, hz29_4, hz29_5⟩ := hz29
                              have hkpz29_me_paperCourt : Kp [] [] [] o_me_paperCourt z29.2.1 := hkpz26_me_paperCourt.trans (hz29_1.mono (by decide) (by decide) (by decide))
                              have hkpz29_me_paper_now : Kp [] [] [] o_me_paper_now z29.2.2.1 := hkpz26_me_paper_now.trans (hz29_3.mono (by decide) (by decide) (by decide))
                              have hkpz29_me_machine : Kp [] [] [] o_me_machine z29.2.2.2 := hkpz26_me_machine.trans (hz29_5.mono (by decide) (by decide) (by decide))
                              refine wp_lt (fun x30 ex30 => ?_)
                              have tx30 : x30.toInt = v5_1.toInt + 1 := by rw [ex30]; exact i32_add rfl (by decide) (zk_l hh13.1 (by decide)) (zk_u (zu_e (k := 59) (zl_d c14) hh12.2 (by decide)) (by decide))
                              exact ih1 v2_1 z20 v4_1 x30 o_me_1 z29.2.2.2 o_me_paper_1 z29.2.2.1 z29.2.1 hI_me_1 hkp_me_1 hz29_4 hkpz29_me_machine hI_me_paper_1 hkp_me_paper_1 hz29_2 hkpz29_me_paper_now hz29_0 hkpz29_me_paperCourt ⟨hh12.1, hh12.2⟩ ⟨(zl_e (zq_r (c := (-1)) tx30 (by decide)) hh13.1 (by decide)), (zu_e (zd_e (c := 0) (Int.le_of_eq tx30) (zl_d c14) (by decide)) hh12.2 (by decide))⟩ (zms_u (c := 59) hN1 (zq_r (c := (-1)) tx30 (by decide)) (zu_e (zl_d c14) hh12.2 (by decide)) (by decide))
                            · have c28 := cv_nlt (a := z26.1.toInt) (b := 0) rfl (by decide) c28
                              refine wp_lt (fun x31 ex31 => ?_)
                              unfold bk_X8_centuries_177
                              refine wp_bd (s_X1_moved_N   z26.2.1 o_me_paper_1 z26.2.2.1 z26.2.2.2 o_pool (3 : Int32) (0 : Int32)  hz26_0 hI_me_paper_1 hz26_2 hz26_4 hI_pool  ) (fun z32 hz32 => ?_)
                              obtain ⟨hz32_0, hz32_1, hz32_2, hz32_3, hz32_4, hz32_5⟩ := hz32
                              have hkpz32_me_paperCourt : Kp [] [] [] o_me_paperCourt z32.2.1 := hkpz26_me_paperCourt.trans (hz32_1.mono (by decide) (by decide) (by decide))
                              have hkpz32_me_paper_now : Kp [] [] [] o_me_paper_now z32.2.2.1 := hkpz26_me_paper_now.trans (hz32_3.mono (by decide) (by decide) (by decide))
                              have hkpz32_me_machine : Kp [] [] [] o_me_machine z32.2.2.2 := hkpz26_me_machine.trans (hz32_5.mono (by decide) (by decide) (by decide))
                              refine wp_lt (fun x33 ex33 => ?_)
                              have tx33 : x33.toInt = v5_1.toInt + 1 := by rw [ex33]; exact i32_add rfl (by decide) (zk_l hh13.1 (by decide)) (zk_u (zu_e (k := 59) (zl_d c14) hh12.2 (by decide)) (by decide))
                              exact ih1 v2_1 z20 x31 x33 o_me_1 z32.2.2.2 o_me_paper_1 z32.2.2.1 z32.2.1 hI_me_1 hkp_me_1 hz32_4 hkpz32_me_machine hI_me_paper_1 hkp_me_paper_1 hz32_2 hkpz32_me_paper_now hz32_0 hkpz32_me_paperCourt ⟨hh12.1, hh12.2⟩ ⟨(zl_e (zq_r (c := (-1)) tx33 (by decide)) hh13.1 (by decide)), (zu_e (zd_e (c := 0) (Int.le_of_eq tx33) (zl_d c14) (by decide)) hh12.2 (by decide))⟩ (zms_u (c := 59) hN1 (zq_r (c := (-1)) tx33 (by decide)) (zu_e (zl_d c14) hh12.2 (by decide)) (by decide))
                          · have c27z := c27
                            have c27 := cv_ne (a := w23.toInt) (b := 0) rfl (by decide) c27
                            exact absurd (Int.le_antisymm (Int.le_of_eq tw23) (Int.le_of_eq tw23.symm)) c27
                        · have c24z := c24
                          have c24 := cv_ne (a := w23.toInt) (b := 0) rfl (by decide) c24
                          exact absurd (Int.le_antisymm (Int.le_of_eq tw23) (Int.le_of_eq tw23.symm)) c24
                      · have c22 := cv_ne (a := (z20 - z20 / (4 : Int32) * (4 : Int32)).toInt) (b := 2) rfl (by decide) c22
                        obtain ⟨w34, ew34⟩ : ∃ z : Int32, z = (2 : Int32) := ⟨_, rfl⟩
                        have tw34 : w34.toInt = 2 := by rw [ew34]; decide
                        rw [show bk_X8_centuries_128 o_me_isles o_me_isles_now o_pool (lp_X8_centuries_64 o_me_isles o_me_isles_now o_pool  N1) v2_1 z20 v4_1 v5_1 z18 z19 (2 : Int32) o_me_1 o_me_machine_1 o_me_paper_1 o_me_paper_now_1 o_me_paperCourt_1 = bk_X8_centuries_128 o_me_isles o_me_isles_now o_pool (lp_X8_centuries_64 o_me_isles o_me_isles_now o_pool  N1) v2_1 z20 v4_1 v5_1 z18 z19 w34 o_me_1 o_me_machine_1 o_me_paper_1 o_me_paper_now_1 o_me_paperCourt_1 from by rw [ew34]]
                        unfold bk_X8_centuries_128
                        refine wp_if (fun c35 => ?_) (fun c35 => ?_)
                        · have c35 := cv_eq (a := w34.toInt) (b := 0) rfl (by decide) c35
                          exact absurd c35 (zne_r (k := 0) (l := 2) (by decide) (Int.le_of_eq tw34.symm) (by decide))
                        · have c35z := c35
                          have c35 := cv_ne (a := w34.toInt) (b := 0) rfl (by decide) c35
                          refine wp_gd (decide_eq_true (fun e9 => by have e8 := congrArg Int32.toInt e9; have e7 : (0 : Int32).toInt = 0 := (by decide); omega)) ?_
                          obtain ⟨w36, ew36⟩ : ∃ z : Int32, z = z18 - z18 / (gI o_me_isles 7) * (gI o_me_isles 7) := ⟨_, rfl⟩
                          have tw36 : w36.toInt = (z18 - z18 / (gI o_me_isles 7) * (gI o_me_isles 7)).toInt := by rw [ew36]
                          rw [show bk_X8_centuries_158 o_me_isles o_me_isles_now o_pool (lp_X8_centuries_64 o_me_isles o_me_isles_now o_pool  N1) v2_1 z20 v4_1 v5_1 w34 (z18 - z18 / (gI o_me_isles 7) * (gI o_me_isles 7)) w34 o_me_1 o_me_machine_1 o_me_paper_1 o_me_paper_now_1 o_me_paperCourt_1 = bk_X8_centuries_158 o_me_isles o_me_isles_now o_pool (lp_X8_centuries_64 o_me_isles o_me_isles_now o_pool  N1) v2_1 z20 v4_1 v5_1 w34 w36 w34 o_me_1 o_me_machine_1 o_me_paper_1 o_me_paper_now_1 o_me_paperCourt_1 from by rw [ew36]]
                          unfold bk_X8_centuries_158
                          refine wp_bd (s_X1_moved_N   o_me_paperCourt_1 o_me_paper_1 o_me_paper_now_1 o_me_machine_1 o_pool w34 w36  hI_me_paperCourt_1 hI_me_paper_1 hI_me_paper_now_1 hI_me_machine_1 hI_pool  ) (fun z37 hz37 => ?_)
                          obtain ⟨hz37_0, hz37_1, hz37_2, hz37_3, hz37_4, hz37_5⟩ := hz37
                          have hkpz37_me_paperCourt : Kp [] [] [] o_me_paperCourt z37.2.1 := hkp_me_paperCourt_1.trans (hz37_1.mono (by decide) (by decide) (by decide))
                          have hkpz37_me_paper_now : Kp [] [] [] o_me_paper_now z37.2.2.1 := hkp_me_paper_now_1.trans (hz37_3.mono (by decide) (by decide) (by decide))
                          have hkpz37_me_machine : Kp [] [] [] o_me_machine z37.2.2.2 := hkp_me_machine_1.trans (hz37_5.mono (by decide) (by decide) (by decide))
                          refine wp_if (fun c38 => ?_) (fun c38 => ?_)
                          · have c38 := cv_eq (a := w34.toInt) (b := 0) rfl (by decide) c38
                            exact absurd c38 c35
                          · have c38z := c38
                            have c38 := cv_ne (a := w34.toInt) (b := 0) rfl (by decide) c38
                            unfold bk_X8_centuries_177
                            refine wp_bd (s_X1_moved_N   z37.2.1 o_me_paper_1 z37.2.2.1 z37.2.2.2 o_pool (3 : Int32) (0 : Int32)  hz37_0 hI_me_paper_1 hz37_2 hz37_4 hI_pool  ) (fun z39 hz39 => ?_)
                            obtain ⟨hz39_0, hz39_1, hz39_2, hz39_3, hz39_4, hz39_5⟩ := hz39
                            have hkpz39_me_paperCourt : Kp [] [] [] o_me_paperCourt z39.2.1 := hkpz37_me_paperCourt.trans (hz39_1.mono (by decide) (by decide) (by decide))
                            have hkpz39_me_paper_now : Kp [] [] [] o_me_paper_now z39.2.2.1 := hkpz37_me_paper_now.trans (hz39_3.mono (by decide) (by decide) (by decide))
                            have hkpz39_me_machine : Kp [] [] [] o_me_machine z39.2.2.2 := hkpz37_me_machine.trans (hz39_5.mono (by decide) (by decide) (by decide))
                            refine wp_lt (fun x40 ex40 => ?_)
                            have tx40 : x40.toInt = v5_1.toInt + 1 := by rw [ex40]; exact i32_add rfl (by decide) (zk_l hh13.1 (by decide)) (zk_u (zu_e (k := 59) (zl_d c14) hh12.2 (by decide)) (by decide))
                            exact ih1 v2_1 z20 v4_1 x40 o_me_1 z39.2.2.2 o_me_paper_1 z39.2.2.1 z39.2.1 hI_me_1 hkp_me_1 hz39_4 hkpz39_me_machine hI_me_paper_1 hkp_me_paper_1 hz39_2 hkpz39_me_paper_now hz39_0 hkpz39_me_paperCourt ⟨hh12.1, hh12.2⟩ ⟨(zl_e (zq_r (c := (-1)) tx40 (by decide)) hh13.1 (by decide)), (zu_e (zd_e (c := 0) (Int.le_of_eq tx40) (zl_d c14) (by decide)) hh12.2 (by decide))⟩ (zms_u (c := 59) hN1 (zq_r (c := (-1)) tx40 (by decide)) (zu_e (zl_d c14) hh12.2 (by decide)) (by decide))
                    · have c21 := cv_nge (a := (z20 - z20 / (4 : Int32) * (4 : Int32)).toInt) (b := 2) rfl (by decide) c21
                      obtain ⟨w41, ew41⟩ : ∃ z : Int32, z = (1 : Int32) := ⟨_, rfl⟩
                      have tw41 : w41.toInt = 1 := by rw [ew41]; decide
                      rw [show bk_X8_centuries_128 o_me_isles o_me_isles_now o_pool (lp_X8_centuries_64 o_me_isles o_me_isles_now o_pool  N1) v2_1 z20 v4_1 v5_1 z18 z19 (1 : Int32) o_me_1 o_me_machine_1 o_me_paper_1 o_me_paper_now_1 o_me_paperCourt_1 = bk_X8_centuries_128 o_me_isles o_me_isles_now o_pool (lp_X8_centuries_64 o_me_isles o_me_isles_now o_pool  N1) v2_1 z20 v4_1 v5_1 z18 z19 w41 o_me_1 o_me_machine_1 o_me_paper_1 o_me_paper_now_1 o_me_paperCourt_1 from by rw [ew41]]
                      unfold bk_X8_centuries_128
                      refine wp_if (fun c42 => ?_) (fun c42 => ?_)
                      · have c42 := cv_eq (a := w41.toInt) (b := 0) rfl (by decide) c42
                        exact absurd c42 (zne_r (k := 0) (l := 1) (by decide) (Int.le_of_eq tw41.symm) (by decide))
                      · have c42z := c42
                        have c42 := cv_ne (a := w41.toInt) (b := 0) rfl (by decide) c42
                        refine wp_gd (decide_eq_true (fun e9 => by have e8 := congrArg Int32.toInt e9; have e7 : (0 : Int32).toInt = 0 := (by decide); omega)) ?_
                        obtain ⟨w43, ew43⟩ : ∃ z : Int32, z = z18 - z18 / (gI o_me_isles 7) * (gI o_me_isles 7) := ⟨_, rfl⟩
                        have tw43 : w43.toInt = (z18 - z18 / (gI o_me_isles 7) * (gI o_me_isles 7)).toInt := by rw [ew43]
                        rw [show bk_X8_centuries_158 o_me_isles o_me_isles_now o_pool (lp_X8_centuries_64 o_me_isles o_me_isles_now o_pool  N1) v2_1 z20 v4_1 v5_1 w41 (z18 - z18 / (gI o_me_isles 7) * (gI o_me_isles 7)) w41 o_me_1 o_me_machine_1 o_me_paper_1 o_me_paper_now_1 o_me_paperCourt_1 = bk_X8_centuries_158 o_me_isles o_me_isles_now o_pool (lp_X8_centuries_64 o_me_isles o_me_isles_now o_pool  N1) v2_1 z20 v4_1 v5_1 w41 w43 w41 o_me_1 o_me_machine_1 o_me_paper_1 o_me_paper_now_1 o_me_paperCourt_1 from by rw [ew43]]
                        unfold bk_X8_centuries_158
                        refine wp_bd (s_X1_moved_N   o_me_paperCourt_1 o_me_paper_1 o_me_paper_now_1 o_me_machine_1 o_pool w41 w43  hI_me_paperCourt_1 hI_me_paper_1 hI_me_paper_now_1 hI_me_machine_1 hI_pool  ) (fun z44 hz44 => ?_)
                        obtain ⟨hz44_0, hz44_1, hz44_2, hz44_3, hz44_4, hz44_5⟩ := hz44
                        have hkpz44_me_paperCourt : Kp [] [] [] o_me_paperCourt z44.2.1 := hkp_me_paperCourt_1.trans (hz44_1.mono (by decide) (by decide) (by decide))
                        have hkpz44_me_paper_now : Kp [] [] [] o_me_paper_now z44.2.2.1 := hkp_me_paper_now_1.trans (hz44_3.mono (by decide) (by decide) (by decide))
                        have hkpz44_me_machine : Kp [] [] [] o_me_machine z44.2.2.2 := hkp_me_machine_1.trans (hz44_5.mono (by decide) (by decide) (by decide))
                        refine wp_if (fun c45 => ?_) (fun c45 => ?_)
                        · have c45 := cv_eq (a := w41.toInt) (b := 0) rfl (by decide) c45
                          exact absurd c45 c42
                        · have c45z := c45
                          have c45 := cv_ne (a := w41.toInt) (b := 0) rfl (by decide) c45
                          unfold bk_X8_centuries_177
                          refine wp_bd (s_X1_moved_N   z44.2.1 o_me_paper_1 z44.2.2.1 z44.2.2.2 o_pool (3 : Int32) (0 : Int32)  hz44_0 hI_me_paper_1 hz44_2 hz44_4 hI_pool  ) (fun z46 hz46 => ?_)
                          obtain ⟨hz46_0, hz46_1, hz46_2, hz46_3, hz46_4, hz46_5⟩ := hz46
                          have hkpz46_me_paperCourt : Kp [] [] [] o_me_paperCourt z46.2.1 := hkpz44_me_paperCourt.trans (hz46_1.mono (by decide) (by decide) (by decide))
                          have hkpz46_me_paper_now : Kp [] [] [] o_me_paper_now z46.2.2.1 := hkpz44_me_paper_now.trans (hz46_3.mono (by decide) (by decide) (by decide))
                          have hkpz46_me_machine : Kp [] [] [] o_me_machine z46.2.2.2 := hkpz44_me_machine.trans (hz46_5.mono (by decide) (by decide) (by decide))
                          refine wp_lt (fun x47 ex47 => ?_)
                          have tx47 : x47.toInt = v5_1.toInt + 1 := by rw [ex47]; exact i32_add rfl (by decide) (zk_l hh13.1 (by decide)) (zk_u (zu_e (k := 59) (zl_d c14) hh12.2 (by decide)) (by decide))
                          exact ih1 v2_1 z20 v4_1 x47 o_me_1 z46.2.2.2 o_me_paper_1 z46.2.2.1 z46.2.1 hI_me_1 hkp_me_1 hz46_4 hkpz46_me_machine hI_me_paper_1 hkp_me_paper_1 hz46_2 hkpz46_me_paper_now hz46_0 hkpz46_me_paperCourt ⟨hh12.1, hh12.2⟩ ⟨(zl_e (zq_r (c := (-1)) tx47 (by decide)) hh13.1 (by decide)), (zu_e (zd_e (c := 0) (Int.le_of_eq tx47) (zl_d c14) (by decide)) hh12.2 (by decide))⟩ (zms_u (c := 59) hN1 (zq_r (c := (-1)) tx47 (by decide)) (zu_e (zl_d c14) hh12.2 (by decide)) (by decide))
            exact lp1 zfu p1 p0 (0 : Int32) (0 : Int32) o_me o_me_machine z11.1 z11.2 o_me_paperCourt hI_me Kp.rf hI_me_machine Kp.rf hz11_0 hkpz11_me_paper hz11_2 hkpz11_me_paper_now hI_me_paperCourt Kp.rf ⟨c5, c7⟩ ⟨by decide, by decide⟩ (zme_u (l := 0) (Int.le_of_eq tz0.symm) (by decide))
        · have c7 := cv_nle (a := p1.toInt) (b := 60) rfl (by decide) c7
          unfold bk_X8_centuries_22
          refine wp_bd (s_X8_refuse   o_me (-1 : Int32)  hI_me  ) (fun z48 hz48 => ?_)
          obtain ⟨hz48_0, hz48_1⟩ := hz48
          have hkpz48_me : Kp [13, 14, 15, 16] [] [] o_me z48.2 := Kp.rf.trans (hz48_1.mono (by decide) (by decide) (by decide))
          refine wp_some ?_
          exact (show IvX8 rI z48.2 ∧ Kp [13, 14, 15, 16] [] [] o_me z48.2 ∧ IvX3 o_me_machine ∧ Kp [] [] [] o_me_machine o_me_machine ∧ IvX2 o_pool o_me_paper ∧ Kp [] [] [] o_me_paper o_me_paper ∧ IvX4 o_me_paper_now ∧ Kp [] [] [] o_me_paper_now o_me_paper_now ∧ IvX1 o_me_paperCourt ∧ Kp [] [] [] o_me_paperCourt o_me_paperCourt from ⟨hz48_0, hkpz48_me, hI_me_machine, Kp.rf, hI_me_paper, Kp.rf, hI_me_paper_now, Kp.rf, hI_me_paperCourt, Kp.rf⟩)

set_option maxHeartbeats 4000000 in
set_option maxRecDepth 100000 in
theorem s_X7_isCircle {pl : List CR} (o_me : Ob) (o_me_court_isles : Ob) (p0 : Int32) (p1 : Int32) (p2 : Int32) (hI_me : IvX7 o_me) (hI_me_court_isles : IvX2 pl o_me_court_isles) (q0 : 0 ≤ p0.toInt ∧ p0.toInt ≤ 6) (q1 : 0 ≤ p1.toInt ∧ p1.toInt ≤ 6) (q2 : 0 ≤ p2.toInt ∧ p2.toInt ≤ 6) : wp (f_X7_isCircle   o_me o_me_court_isles p0 p1 p2) (fun (y : Int32) => (0 ≤ y.toInt ∧ y.toInt ≤ 1)) := by
  unfold f_X7_isCircle
  refine wp_gd (zin_of (m := 7) rfl q0.1 (zlt_m (c := 6) q0.2 (by decide))) ?_
  refine wp_gd (zin_of (m := 7) rfl q1.1 (zlt_m (c := 6) q1.2 (by decide))) ?_
  refine wp_gd (zin_of (m := 7) rfl q2.1 (zlt_m (c := 6) q2.2 (by decide))) ?_
  refine wp_if (fun c2 => ?_) (fun c2 => ?_)
  · refine wp_some ?_
    exact (show (0 ≤ (1 : Int32).toInt ∧ (1 : Int32).toInt ≤ 1) from ⟨by decide, by decide⟩)
  · refine wp_some ?_
    exact (show (0 ≤ (0 : Int32).toInt ∧ (0 : Int32).toInt ≤ 1) from ⟨by decide, by decide⟩)

set_option maxHeartbeats 4000000 in
set_option maxRecDepth 100000 in
theorem s_X7_circleCount {pl : List CR} (o_me : Ob) (o_me_court_isles : Ob) (hI_me : IvX7 o_me) (hI_me_court_isles : IvX2 pl o_me_court_isles)  : wp (f_X7_circleCount   o_me o_me_court_isles) (fun (y : Int32) => True) := by
  unfold f_X7_circleCount
  have lp1 : ∀ (N1 : Nat) (v1_1 : Int32) (v2_1 : Int32), (0 ≤ v2_1.toInt ∧ v2_1.toInt ≤ 7) → (7 - v2_1.toInt).toNat < N1 → wp (lp_X7_circleCount_4 o_me o_me_court_isles  N1 (v1_1, v2_1)) (fun (y : Int32) => True) := by
    intro N1
    induction N1 with
    | zero =>
      intro v1_1 v2_1 hh1 hN1
      exact absurd hN1 (Nat.not_lt_zero _)
    | succ N1 ihx =>
      have ih1 := ihx
      intro v1_1 v2_1 hh1 hN1
      show wp (lb_X7_circleCount_4 o_me o_me_court_isles  (lp_X7_circleCount_4 o_me o_me_court_isles  N1) v1_1 v2_1) (fun (y : Int32) => True)
      unfold lb_X7_circleCount_4
      have t2 := igX2_7 hI_me_court_isles
      refine wp_if (fun c3 => ?_) (fun c3 => ?_)
      · have c3 := cv_ge (a := v2_1.toInt) (b := (gI o_me_court_isles 7).toInt) rfl rfl c3
        refine wp_some ?_
        exact trivial
      · have c3 := cv_nge (a := v2_1.toInt) (b := (gI o_me_court_isles 7).toInt) rfl rfl c3
        have t4 : (v2_1 + (1 : Int32)).toInt = v2_1.toInt + 1 := i32_add rfl (by decide) (zk_l hh1.1 (by decide)) (zk_u (zu_e (k := 6) (zl_d c3) t2.2 (by decide)) (by decide))
        refine wp_lt (fun x5 ex5 => ?_)
        have tx5 : x5.toInt = (v2_1 + (1 : Int32)).toInt := by rw [ex5]
        have lp2 : ∀ (N2 : Nat) (v1_2 : Int32) (v2_2 : Int32) (v3_2 : Int32), (0 ≤ v2_2.toInt ∧ v2_2.toInt ≤ 6) → (1 ≤ v3_2.toInt ∧ v3_2.toInt ≤ 7) → (v2_1.toInt ≤ v2_2.toInt + 0) → (7 - v3_2.toInt).toNat < N2 → wp (lp_X7_circleCount_19 o_me o_me_court_isles (lp_X7_circleCount_4 o_me o_me_court_isles  N1) N2 (v1_2, v2_2, v3_2)) (fun (y : Int32) => True) := by
          intro N2
          induction N2 with
          | zero =>
            intro v1_2 v2_2 v3_2 hh6 hh7 hh8 hN2
            exact absurd hN2 (Nat.not_lt_zero _)
          | succ N2 ihx =>
            have ih2 := ihx
            intro v1_2 v2_2 v3_2 hh6 hh7 hh8 hN2
            show wp (lb_X7_circleCount_19 o_me o_me_court_isles (lp_X7_circleCount_4 o_me o_me_court_isles  N1) (lp_X7_circleCount_19 o_me o_me_court_isles (lp_X7_circleCount_4 o_me o_me_court_isles  N1) N2) v1_2 v2_2 v3_2) (fun (y : Int32) => True)
            unfold lb_X7_circleCount_19
            refine wp_if (fun c9 => ?_) (fun c9 => ?_)
            · have c9 := cv_ge (a := v3_2.toInt) (b := (gI o_me_court_isles 7).toInt) rfl rfl c9
              refine wp_lt (fun x10 ex10 => ?_)
              have tx10 : x10.toInt = v2_2.toInt + 1 := by rw [ex10]; exact i32_add rfl (by decide) (zk_l hh6.1 (by decide)) (zk_u hh6.2 (by decide))
              exact ih1 v1_2 x10  ⟨(zl_e (zq_r (c := (-1)) tx10 (by decide)) hh6.1 (by decide)), (zu_e (Int.le_of_eq tx10) hh6.2 (by decide))⟩ (zms_u (c := 6) hN1 (zd_e (c := (-1)) hh8 (zq_r (c := (-1)) tx10 (by decide)) (by decide)) (zu_e (zl_d c3) t2.2 (by decide)) (by decide))
            · have c9 := cv_nge (a := v3_2.toInt) (b := (gI o_me_court_isles 7).toInt) rfl rfl c9
              have t11 : (v3_2 + (1 : Int32)).toInt = v3_2.toInt + 1 := i32_add rfl (by decide) (zk_l hh7.1 (by decide)) (zk_u (zu_e (k := 6) (zl_d c9) t2.2 (by decide)) (by decide))
              refine wp_lt (fun x12 ex12 => ?_)
              have tx12 : x12.toInt = (v3_2 + (1 : Int32)).toInt := by rw [ex12]
              have lp3 : ∀ (N3 : Nat) (v1_3 : Int32) (v2_3 : Int32) (v3_3 : Int32) (v4_3 : Int32), (0 ≤ v2_3.toInt ∧ v2_3.toInt ≤ 6) → (1 ≤ v3_3.toInt ∧ v3_3.toInt ≤ 6) → (2 ≤ v4_3.toInt ∧ v4_3.toInt ≤ 7) → (x5.toInt ≤ v2_3.toInt + 1) → (x12.toInt ≤ v3_3.toInt + 1) → (7 - v4_3.toInt).toNat < N3 → wp (lp_X7_circleCount_35 o_me o_me_court_isles (lp_X7_circleCount_4 o_me o_me_court_isles  N1) (lp_X7_circleCount_19 o_me o_me_court_isles (lp_X7_circleCount_4 o_me o_me_court_isles  N1) N2) N3 (v1_3, v2_3, v3_3, v4_3)) (fun (y : Int32) => True) := by
                intro N3
                induction N3 with
                | zero =>
                  intro v1_3 v2_3 v3_3 v4_3 hh13 hh14 hh15 hh16 hh17 hN3
                  exact absurd hN3 (Nat.not_lt_zero _)
                | succ N3 ihx =>
                  have ih3 := ihx
                  intro v1_3 v2_3 v3_3 v4_3 hh13 hh14 hh15 hh16 hh17 hN3
                  show wp (lb_X7_circleCount_35 o_me o_me_court_isles (lp_X7_circleCount_4 o_me o_me_court_isles  N1) (lp_X7_circleCount_19 o_me o_me_court_isles (lp_X7_circleCount_4 o_me o_me_court_isles  N1) N2) (lp_X7_circleCount_35 o_me o_me_court_isles (lp_X7_circleCount_4 o_me o_me_court_isles  N1) (lp_X7_circleCount_19 o_me o_me_court_isles (lp_X7_circleCount_4 o_me o_me_court_isles  N1) N2) N3) v1_3 v2_3 v3_3 v4_3) (fun (y : Int32) => True)
                  unfold lb_X7_circleCount_35
                  refine wp_if (fun c18 => ?_) (fun c18 => ?_)
                  · have c18 := cv_ge (a := v4_3.toInt) (b := (gI o_me_court_isles 7).toInt) rfl rfl c18
                    refine wp_lt (fun x19 ex19 => ?_)
                    have tx19 : x19.toInt = v3_3.toInt + 1 := by rw [ex19]; exact i32_add rfl (by decide) (zk_l hh14.1 (by decide)) (zk_u hh14.2 (by decide))
                    exact ih2 v1_3 v2_3 x19  ⟨hh13.1, hh13.2⟩ ⟨(zl_e (zq_r (c := (-1)) tx19 (by decide)) hh14.1 (by decide)), (zu_e (Int.le_of_eq tx19) hh14.2 (by decide))⟩ (zd_e (c := 0) (zd_e (c := (-1)) (zq_r (c := (-1)) t4 (by decide)) (zq_0 tx5.symm) (by decide)) hh16 (by decide)) (zms_u (c := 6) hN2 (zd_e (c := (-1)) (zd_e (c := 0) (zd_e (c := (-1)) (zq_r (c := (-1)) t11 (by decide)) (zq_0 tx12.symm) (by decide)) hh17 (by decide)) (zq_r (c := (-1)) tx19 (by decide)) (by decide)) (zu_e (zl_d c9) t2.2 (by decide)) (by decide))
                  · have c18 := cv_nge (a := v4_3.toInt) (b := (gI o_me_court_isles 7).toInt) rfl rfl c18
                    refine wp_bd (s_X7_isCircle   o_me o_me_court_isles v2_3 v3_3 v4_3  hI_me hI_me_court_isles  ⟨hh13.1, hh13.2⟩ ⟨(Int.le_trans (by decide) hh14.1), hh14.2⟩ ⟨(Int.le_trans (by decide) hh15.1), (zu_e (zl_d c18) t2.2 (by decide))⟩) (fun z20 hz20 => ?_)
                    refine wp_if (fun c21 => ?_) (fun c21 => ?_)
                    · refine wp_bd (s_X7_isCircle   o_me o_me_court_isles v2_3 v4_3 v3_3  hI_me hI_me_court_isles  ⟨hh13.1, hh13.2⟩ ⟨(Int.le_trans (by decide) hh15.1), (zu_e (zl_d c18) t2.2 (by decide))⟩ ⟨(Int.le_trans (by decide) hh14.1), hh14.2⟩) (fun z22 hz22 => ?_)
                      refine wp_if (fun c23 => ?_) (fun c23 => ?_)
                      · unfold bk_X7_circleCount_72
                        refine wp_lt (fun x24 ex24 => ?_)
                        have tx24 : x24.toInt = v4_3.toInt + 1 := by rw [ex24]; exact i32_add rfl (by decide) (zk_l hh15.1 (by decide)) (zk_u (zu_e (k := 6) (zl_d c18) t2.2 (by decide)) (by decide))
                        exact ih3 v1_3 v2_3 v3_3 x24  ⟨hh13.1, hh13.2⟩ ⟨hh14.1, hh14.2⟩ ⟨(zl_e (zq_r (c := (-1)) tx24 (by decide)) hh15.1 (by decide)), (zu_e (zd_e (c := 0) (Int.le_of_eq tx24) (zl_d c18) (by decide)) t2.2 (by decide))⟩ hh16 hh17 (zms_u (c := 6) hN3 (zq_r (c := (-1)) tx24 (by decide)) (zu_e (zl_d c18) t2.2 (by decide)) (by decide))
                      · unfold bk_X7_circleCount_69
                        refine wp_lt (fun x25 ex25 => ?_)
                        unfold bk_X7_circleCount_72
                        refine wp_lt (fun x26 ex26 => ?_)
                        have tx26 : x26.toInt = v4_3.toInt + 1 := by rw [ex26]; exact i32_add rfl (by decide) (zk_l hh15.1 (by decide)) (zk_u (zu_e (k := 6) (zl_d c18) t2.2 (by decide)) (by decide))
                        exact ih3 x25 v2_3 v3_3 x26  ⟨hh13.1, hh13.2⟩ ⟨hh14.1, hh14.2⟩ ⟨(zl_e (zq_r (c := (-1)) tx26 (by decide)) hh15.1 (by decide)), (zu_e (zd_e (c := 0) (Int.le_of_eq tx26) (zl_d c18) (by decide)) t2.2 (by decide))⟩ hh16 hh17 (zms_u (c := 6) hN3 (zq_r (c := (-1)) tx26 (by decide)) (zu_e (zl_d c18) t2.2 (by decide)) (by decide))
                    · unfold bk_X7_circleCount_69
                      refine wp_lt (fun x27 ex27 => ?_)
                      unfold bk_X7_circleCount_72
                      refine wp_lt (fun x28 ex28 => ?_)
                      have tx28 : x28.toInt = v4_3.toInt + 1 := by rw [ex28]; exact i32_add rfl (by decide) (zk_l hh15.1 (by decide)) (zk_u (zu_e (k := 6) (zl_d c18) t2.2 (by decide)) (by decide))
                      exact ih3 x27 v2_3 v3_3 x28  ⟨hh13.1, hh13.2⟩ ⟨hh14.1, hh14.2⟩ ⟨(zl_e (zq_r (c := (-1)) tx28 (by decide)) hh15.1 (by decide)), (zu_e (zd_e (c := 0) (Int.le_of_eq tx28) (zl_d c18) (by decide)) t2.2 (by decide))⟩ hh16 hh17 (zms_u (c := 6) hN3 (zq_r (c := (-1)) tx28 (by decide)) (zu_e (zl_d c18) t2.2 (by decide)) (by decide))
              exact lp3 zfu v1_2 v2_2 v3_2 x12  ⟨hh6.1, hh6.2⟩ ⟨hh7.1, (zu_e (zl_d c9) t2.2 (by decide))⟩ ⟨(zl_e (zd_e (c := (-1)) (zq_r (c := (-1)) t11 (by decide)) (zq_0 tx12.symm) (by decide)) hh7.1 (by decide)), (zu_e (zd_e (c := 0) (zd_e (c := 1) (zq_0 tx12) (Int.le_of_eq t11) (by decide)) (zl_d c9) (by decide)) t2.2 (by decide))⟩ (zd_e (c := 1) (zd_e (c := 1) (zq_0 tx5) (Int.le_of_eq t4) (by decide)) hh8 (by decide)) (zd_e (c := 1) (zq_0 tx12) (Int.le_of_eq t11) (by decide)) (zme_u (l := 2) (zl_e (k := 2) (zd_e (c := (-1)) (zq_r (c := (-1)) t11 (by decide)) (zq_0 tx12.symm) (by decide)) hh7.1 (by decide)) (by decide))
        exact lp2 zfu v1_1 v2_1 x5  ⟨hh1.1, (zu_e (zl_d c3) t2.2 (by decide))⟩ ⟨(zl_e (zd_e (c := (-1)) (zq_r (c := (-1)) t4 (by decide)) (zq_0 tx5.symm) (by decide)) hh1.1 (by decide)), (zu_e (zd_e (c := 0) (zd_e (c := 1) (zq_0 tx5) (Int.le_of_eq t4) (by decide)) (zl_d c3) (by decide)) t2.2 (by decide))⟩ (zd_r (by decide)) (zme_u (l := 1) (zl_e (k := 1) (zd_e (c := (-1)) (zq_r (c := (-1)) t4 (by decide)) (zq_0 tx5.symm) (by decide)) hh1.1 (by decide)) (by decide))
  exact lp1 zfu (0 : Int32) (0 : Int32)  ⟨by decide, by decide⟩ (zme_u (l := 0) (Int.le_of_eq tz0.symm) (by decide))

set_option maxHeartbeats 4000000 in
set_option maxRecDepth 100000 in
theorem s_X8_circles {pl : List CR} {rI : Nat → Option Nat} (o_me : Ob) (o_me_isles : Ob) (o_me_study : Ob) (hI_me : IvX8 rI o_me) (hI_me_isles : IvX2 pl o_me_isles) (hI_me_study : IvX7 o_me_study)  : wp (f_X8_circles   o_me o_me_isles o_me_study) (fun (y : Int32) => True) := by
  unfold f_X8_circles
  refine wp_bd (s_X7_circleCount   o_me_study o_me_isles  hI_me_study hI_me_isles  ) (fun z1 hz1 => ?_)
  refine wp_some ?_
  exact trivial

set_option maxHeartbeats 4000000 in
set_option maxRecDepth 100000 in
theorem s_X8_compare {rI : Nat → Option Nat} (o_me : Ob) (o_me_machine : Ob) (o_me_isles : Ob) (o_me_isles_now : Ob) (o_me_court : Ob) (o_pool : List CR) (p0 : Int32) (p1 : Int32) (hI_me : IvX8 rI o_me) (hI_me_machine : IvX3 o_me_machine) (hI_me_isles : IvX2 o_pool o_me_isles) (hI_me_isles_now : IvX4 o_me_isles_now) (hI_me_court : IvX1 o_me_court) (hI_pool : PLok o_pool)  : wp (f_X8_compare   o_me o_me_machine o_me_isles o_me_isles_now o_me_court o_pool p0 p1) (fun (y : Int32 × Ob × Ob) => ((-1) ≤ y.1.toInt ∧ y.1.toInt ≤ 6) ∧ IvX3 y.2.1 ∧ Kp [] [] [] o_me_machine y.2.1 ∧ IvX1 y.2.2 ∧ Kp [] [] [] o_me_court y.2.2) := by
  unfold f_X8_compare
  refine wp_if (fun c1 => ?_) (fun c1 => ?_)
  · unfold bk_X8_compare_16
    refine wp_bd (s_X8_isRace   p1    ) (fun z2 hz2 => ?_)
    obtain ⟨hz2_0, hz2_1⟩ := hz2
    refine wp_if (fun c3 => ?_) (fun c3 => ?_)
    · have c3 := cv_eq (a := z2.toInt) (b := 0) rfl (by decide) c3
      refine wp_some ?_
      exact (show ((-1) ≤ (-1 : Int32).toInt ∧ (-1 : Int32).toInt ≤ 6) ∧ IvX3 o_me_machine ∧ Kp [] [] [] o_me_machine o_me_machine ∧ IvX1 o_me_court ∧ Kp [] [] [] o_me_court o_me_court from ⟨⟨by decide, by decide⟩, hI_me_machine, Kp.rf, hI_me_court, Kp.rf⟩)
    · have c3i := hz2_1 c3
      refine wp_bd (s_X2_lawAt   o_me_isles p0  hI_me_isles  ) (fun z4 hz4 => ?_)
      have hz4_0 := hz4
      refine wp_bd (s_X1_lineUp_Q   o_me_court o_me_isles o_me_isles_now o_me_machine o_pool z4 p1  hI_me_court hI_me_isles hI_me_isles_now hI_me_machine hI_pool hz4_0 ⟨c3i.1, c3i.2⟩) (fun z5 hz5 => ?_)
      obtain ⟨hz5_0, hz5_1, hz5_2, hz5_3, hz5_4⟩ := hz5
      have hkpz5_me_court : Kp [] [] [] o_me_court z5.2.1 := Kp.rf.trans (hz5_2.mono (by decide) (by decide) (by decide))
      have hkpz5_me_machine : Kp [] [] [] o_me_machine z5.2.2 := Kp.rf.trans (hz5_4.mono (by decide) (by decide) (by decide))
      refine wp_bd (s_X1_at   z5.2.1 (1 : Int32)  hz5_1  ) (fun z6 hz6 => ?_)
      have hz6_0 := hz6
      refine wp_some ?_
      exact (show ((-1) ≤ z6.toInt ∧ z6.toInt ≤ 6) ∧ IvX3 z5.2.2 ∧ Kp [] [] [] o_me_machine z5.2.2 ∧ IvX1 z5.2.1 ∧ Kp [] [] [] o_me_court z5.2.1 from ⟨⟨hz6_0.1, hz6_0.2⟩, hz5_3, hkpz5_me_machine, hz5_1, hkpz5_me_court⟩)
  · refine wp_bd (s_X2_isLaw   o_me_isles p0  hI_me_isles  ) (fun z7 hz7 => ?_)
    refine wp_if (fun c8 => ?_) (fun c8 => ?_)
    · refine wp_some ?_
      exact (show ((-1) ≤ (-1 : Int32).toInt ∧ (-1 : Int32).toInt ≤ 6) ∧ IvX3 o_me_machine ∧ Kp [] [] [] o_me_machine o_me_machine ∧ IvX1 o_me_court ∧ Kp [] [] [] o_me_court o_me_court from ⟨⟨by decide, by decide⟩, hI_me_machine, Kp.rf, hI_me_court, Kp.rf⟩)
    · unfold bk_X8_compare_16
      refine wp_bd (s_X8_isRace   p1    ) (fun z9 hz9 => ?_)
      obtain ⟨hz9_0, hz9_1⟩ := hz9
      refine wp_if (fun c10 => ?_) (fun c10 => ?_)
      · have c10 := cv_eq (a := z9.toInt) (b := 0) rfl (by decide) c10
        refine wp_some ?_
        exact (show ((-1) ≤ (-1 : Int32).toInt ∧ (-1 : Int32).toInt ≤ 6) ∧ IvX3 o_me_machine ∧ Kp [] [] [] o_me_machine o_me_machine ∧ IvX1 o_me_court ∧ Kp [] [] [] o_me_court o_me_court from ⟨⟨by decide, by decide⟩, hI_me_machine, Kp.rf, hI_me_court, Kp.rf⟩)
      · have c10i := hz9_1 c10
        refine wp_bd (s_X2_lawAt   o_me_isles p0  hI_me_isles  ) (fun z11 hz11 => ?_)
        have hz11_0 := hz11
        refine wp_bd (s_X1_lineUp_Q   o_me_court o_me_isles o_me_isles_now o_me_machine o_pool z11 p1  hI_me_court hI_me_isles hI_me_isles_now hI_me_machine hI_pool hz11_0 ⟨c10i.1, c10i.2⟩) (fun z12 hz12 => ?_)
        obtain ⟨hz12_0, hz12_1, hz12_2, hz12_3, hz12_4⟩ := hz12
        have hkpz12_me_court : Kp [] [] [] o_me_court z12.2.1 := Kp.rf.trans (hz12_2.mono (by decide) (by decide) (by decide))
        have hkpz12_me_machine : Kp [] [] [] o_me_machine z12.2.2 := Kp.rf.trans (hz12_4.mono (by decide) (by decide) (by decide))
        refine wp_bd (s_X1_at   z12.2.1 (1 : Int32)  hz12_1  ) (fun z13 hz13 => ?_)
        have hz13_0 := hz13
        refine wp_some ?_
        exact (show ((-1) ≤ z13.toInt ∧ z13.toInt ≤ 6) ∧ IvX3 z12.2.2 ∧ Kp [] [] [] o_me_machine z12.2.2 ∧ IvX1 z12.2.1 ∧ Kp [] [] [] o_me_court z12.2.1 from ⟨⟨hz13_0.1, hz13_0.2⟩, hz12_3, hkpz12_me_machine, hz12_1, hkpz12_me_court⟩)

set_option maxHeartbeats 4000000 in
set_option maxRecDepth 100000 in
theorem s_X2_allPrizes {pl : List CR} (o_me : Ob) (o_me_now : Ob) (hI_me : IvX2 pl o_me) (hI_me_now : IvX4 o_me_now)  : wp (f_X2_allPrizes   o_me o_me_now) (fun (y : Int32) => True) := by
  unfold f_X2_allPrizes
  have lp1 : ∀ (N1 : Nat) (v1_1 : Int32) (v2_1 : Int32), (0 ≤ v2_1.toInt ∧ v2_1.toInt ≤ 7) → (7 - v2_1.toInt).toNat < N1 → wp (lp_X2_allPrizes_4 o_me o_me_now  N1 (v1_1, v2_1)) (fun (y : Int32) => True) := by
    intro N1
    induction N1 with
    | zero =>
      intro v1_1 v2_1 hh1 hN1
      exact absurd hN1 (Nat.not_lt_zero _)
    | succ N1 ihx =>
      have ih1 := ihx
      intro v1_1 v2_1 hh1 hN1
      show wp (lb_X2_allPrizes_4 o_me o_me_now  (lp_X2_allPrizes_4 o_me o_me_now  N1) v1_1 v2_1) (fun (y : Int32) => True)
      unfold lb_X2_allPrizes_4
      have t2 := igX2_7 hI_me
      refine wp_if (fun c3 => ?_) (fun c3 => ?_)
      · have c3 := cv_ge (a := v2_1.toInt) (b := (gI o_me 7).toInt) rfl rfl c3
        refine wp_some ?_
        exact trivial
      · have c3 := cv_nge (a := v2_1.toInt) (b := (gI o_me 7).toInt) rfl rfl c3
        refine wp_gd (zin_of (m := 7) rfl hh1.1 (zlt_m (c := 6) (zu_e (zl_d c3) t2.2 (by decide)) (by decide))) ?_
        refine wp_lt (fun x4 ex4 => ?_)
        refine wp_lt (fun x5 ex5 => ?_)
        have tx5 : x5.toInt = v2_1.toInt + 1 := by rw [ex5]; exact i32_add rfl (by decide) (zk_l hh1.1 (by decide)) (zk_u (zu_e (k := 6) (zl_d c3) t2.2 (by decide)) (by decide))
        exact ih1 x4 x5  ⟨(zl_e (zq_r (c := (-1)) tx5 (by decide)) hh1.1 (by decide)), (zu_e (zd_e (c := 0) (Int.le_of_eq tx5) (zl_d c3) (by decide)) t2.2 (by decide))⟩ (zms_u (c := 6) hN1 (zq_r (c := (-1)) tx5 (by decide)) (zu_e (zl_d c3) t2.2 (by decide)) (by decide))
  exact lp1 zfu (0 : Int32) (0 : Int32)  ⟨by decide, by decide⟩ (zme_u (l := 0) (Int.le_of_eq tz0.symm) (by decide))

set_option maxHeartbeats 4000000 in
set_option maxRecDepth 100000 in
theorem s_X2_term {pl : List CR} (o_me : Ob) (o_me_now : Ob) (p0 : Int32) (hI_me : IvX2 pl o_me) (hI_me_now : IvX4 o_me_now)  : wp (f_X2_term   o_me o_me_now p0) (fun (y : Int32) => True) := by
  unfold f_X2_term
  refine wp_if (fun c1 => ?_) (fun c1 => ?_)
  · refine wp_some ?_
    exact trivial
  · refine wp_if (fun c2 => ?_) (fun c2 => ?_)
    · refine wp_some ?_
      exact trivial
    · refine wp_some ?_
      exact trivial

set_option maxHeartbeats 4000000 in
set_option maxRecDepth 100000 in
theorem s_X8_count {pl : List CR} {rI : Nat → Option Nat} (o_me : Ob) (o_me_reader : Ob) (o_me_isles : Ob) (o_me_isles_now : Ob) (o_me_past : Ob) (p0 : Int32) (hI_me : IvX8 rI o_me) (hI_me_reader : IvX6 o_me_reader) (hI_me_isles : IvX2 pl o_me_isles) (hI_me_isles_now : IvX4 o_me_isles_now) (hI_me_past : IvX5 o_me_past)  : wp (f_X8_count   o_me o_me_reader o_me_isles o_me_isles_now o_me_past p0) (fun (y : Int32) => True) := by
  unfold f_X8_count
  refine wp_if (fun c1 => ?_) (fun c1 => ?_)
  · refine wp_some ?_
    exact trivial
  refine wp_if (fun c3 => ?_) (fun c3 => ?_)
  · refine wp_bd (s_J6_bitCount_0f7a4   (gI o_me_isles_now 2)    ) (fun z4 hz4 => ?_)
    refine wp_some ?_
    exact trivial
  refine wp_if (fun c5 => ?_) (fun c5 => ?_)
  · refine wp_some ?_
    exact trivial
  refine wp_if (fun c6 => ?_) (fun c6 => ?_)
  · refine wp_bd (s_X2_allPrizes   o_me_isles o_me_isles_now  hI_me_isles hI_me_isles_now  ) (fun z7 hz7 => ?_)
    refine wp_some ?_
    exact trivial
  refine wp_if (fun c8 => ?_) (fun c8 => ?_)
  · refine wp_some ?_
    exact trivial
  refine wp_if (fun c10 => ?_) (fun c10 => ?_)
  · refine wp_some ?_
    exact trivial
  refine wp_if (fun c12 => ?_) (fun c12 => ?_)
  · refine wp_some ?_
    exact trivial
  refine wp_if (fun c14 => ?_) (fun c14 => ?_)
  · refine wp_some ?_
    exact trivial
  refine wp_if (fun c16 => ?_) (fun c16 => ?_)
  · refine wp_some ?_
    exact trivial
  refine wp_if (fun c17 => ?_) (fun c17 => ?_)
  · refine wp_some ?_
    exact trivial
  refine wp_if (fun c18 => ?_) (fun c18 => ?_)
  · refine wp_some ?_
    exact trivial
  refine wp_if (fun c19 => ?_) (fun c19 => ?_)
  · refine wp_some ?_
    exact trivial
  refine wp_if (fun c20 => ?_) (fun c20 => ?_)
  · refine wp_some ?_
    exact trivial
  refine wp_if (fun c21 => ?_) (fun c21 => ?_)
  · refine wp_some ?_
    exact trivial
  refine wp_if (fun c23 => ?_) (fun c23 => ?_)
  · refine wp_bd (s_X2_term   o_me_isles o_me_isles_now (0 : Int32)  hI_me_isles hI_me_isles_now  ) (fun z24 hz24 => ?_)
    refine wp_some ?_
    exact trivial
  refine wp_if (fun c25 => ?_) (fun c25 => ?_)
  · refine wp_bd (s_X2_term   o_me_isles o_me_isles_now (1 : Int32)  hI_me_isles hI_me_isles_now  ) (fun z26 hz26 => ?_)
    refine wp_some ?_
    exact trivial
  refine wp_if (fun c27 => ?_) (fun c27 => ?_)
  · refine wp_bd (s_X2_term   o_me_isles o_me_isles_now (2 : Int32)  hI_me_isles hI_me_isles_now  ) (fun z28 hz28 => ?_)
    refine wp_some ?_
    exact trivial
  refine wp_some ?_
  exact trivial

set_option maxHeartbeats 4000000 in
set_option maxRecDepth 100000 in
theorem s_X7_scoreWith (o_me : Ob) (p0 : Int32) (p1 : Int32) (p2 : Int32) (hI_me : IvX7 o_me) (q0 : 0 ≤ p0.toInt ∧ p0.toInt ≤ 6) (q1 : 0 ≤ p1.toInt ∧ p1.toInt ≤ 3) (q2 : 0 ≤ p2.toInt ∧ p2.toInt ≤ 127) : wp (f_X7_scoreWith   o_me p0 p1 p2) (fun (y : Int32) => True) := by
  unfold f_X7_scoreWith
  have t1 : (p1 * (7 : Int32)).toInt = p1.toInt * 7 := i32_mul rfl (by decide) (zr_l q1.1 (by decide) (by decide)) (zr_u q1.2 (by decide) (by decide))
  have t2 : ((p1 * (7 : Int32)) + p0).toInt = (p1 * (7 : Int32)).toInt + p0.toInt := i32_add rfl rfl (zk_ll (zrq_l (c := 0) t1 q1.1 (by decide) (by decide)) q0.1 (by decide)) (zk_uu (zrq_u (c := 21) t1 q1.2 (by decide) (by decide)) q0.2 (by decide))
  refine wp_gd (zin_of (m := 28) rfl (zaq_l (c := 0) t2 (zrq_l (c := 0) t1 q1.1 (by decide) (by decide)) q0.1 (by decide)) (zlt_m (c := 27) (zaq_u (c := 27) t2 (zrq_u (c := 21) t1 q1.2 (by decide) (by decide)) q0.2 (by decide)) (by decide))) ?_
  refine wp_lt (fun x3 ex3 => ?_)
  refine wp_if (fun c4 => ?_) (fun c4 => ?_)
  · refine wp_some ?_
    exact trivial
  · refine wp_if (fun c6 => ?_) (fun c6 => ?_)
    · refine wp_some ?_
      exact trivial
    · have t7 : (p1 + (1 : Int32)).toInt = p1.toInt + 1 := i32_add rfl (by decide) (zk_l q1.1 (by decide)) (zk_u q1.2 (by decide))
      have t8 : ((p1 + (1 : Int32)) * (128 : Int32)).toInt = (p1 + (1 : Int32)).toInt * 128 := i32_mul rfl (by decide) (zr_l (zl_e (k := 1) (zq_r (c := (-1)) t7 (by decide)) q1.1 (by decide)) (by decide) (by decide)) (zr_u (zu_e (k := 4) (Int.le_of_eq t7) q1.2 (by decide)) (by decide) (by decide))
      have t9 : 1 ≤ ((1 : Int32) <<< (p0 &&& 31)).toInt ∧ ((1 : Int32) <<< (p0 &&& 31)).toInt ≤ 64 := i32_shl6 (p := p0) q0.1 q0.2
      have t10 := i32_or7 (x := p2) (y := (1 : Int32) <<< (p0 &&& 31)) ⟨q2.1, q2.2⟩ ⟨(Int.le_trans (by decide) t9.1), (Int.le_trans t9.2 (by decide))⟩
      have t11 : (((p1 + (1 : Int32)) * (128 : Int32)) + (p2 ||| ((1 : Int32) <<< (p0 &&& 31)))).toInt = ((p1 + (1 : Int32)) * (128 : Int32)).toInt + (p2 ||| ((1 : Int32) <<< (p0 &&& 31))).toInt := i32_add rfl rfl (zk_ll (zrq_l (c := 128) t8 (zl_e (k := 1) (zq_r (c := (-1)) t7 (by decide)) q1.1 (by decide)) (by decide) (by decide)) t10.1 (by decide)) (zk_uu (zrq_u (c := 512) t8 (zu_e (k := 4) (Int.le_of_eq t7) q1.2 (by decide)) (by decide) (by decide)) t10.2 (by decide))
      refine wp_gd (zin_of (m := 640) rfl (Int.le_trans (by decide) (zaq_l (c := 128) t11 (zrq_l (c := 128) t8 (zl_e (k := 1) (zq_r (c := (-1)) t7 (by decide)) q1.1 (by decide)) (by decide) (by decide)) t10.1 (by decide))) (zlt_m (c := 639) (zaq_u (c := 639) t11 (zrq_u (c := 512) t8 (zu_e (k := 4) (Int.le_of_eq t7) q1.2 (by decide)) (by decide) (by decide)) t10.2 (by decide)) (by decide))) ?_
      refine wp_some ?_
      exact trivial

set_option maxHeartbeats 4000000 in
set_option maxRecDepth 100000 in
theorem s_X7_firstCrowned {pl : List CR} (o_me : Ob) (o_me_court_isles : Ob) (p0 : Int32) (p1 : Int32) (hI_me : IvX7 o_me) (hI_me_court_isles : IvX2 pl o_me_court_isles) (q0 : 0 ≤ p0.toInt ∧ p0.toInt ≤ 3) (q1 : 0 ≤ p1.toInt ∧ p1.toInt ≤ 127) : wp (f_X7_firstCrowned   o_me o_me_court_isles p0 p1) (fun (y : Int32) => (0 ≤ y.toInt ∧ y.toInt ≤ 7)) := by
  unfold f_X7_firstCrowned
  have lp1 : ∀ (N1 : Nat) (v1_1 : Int32) (v2_1 : Int32) (v3_1 : Int32), (0 ≤ v1_1.toInt ∧ v1_1.toInt ≤ 3) → (0 ≤ v2_1.toInt ∧ v2_1.toInt ≤ 127) → (0 ≤ v3_1.toInt ∧ v3_1.toInt ≤ 7) → (7 - v3_1.toInt).toNat < N1 → wp (lp_X7_firstCrowned_2 o_me o_me_court_isles  N1 (v1_1, v2_1, v3_1)) (fun (y : Int32) => (0 ≤ y.toInt ∧ y.toInt ≤ 7)) := by
    intro N1
    induction N1 with
    | zero =>
      intro v1_1 v2_1 v3_1 hh1 hh2 hh3 hN1
      exact absurd hN1 (Nat.not_lt_zero _)
    | succ N1 ihx =>
      have ih1 := ihx
      intro v1_1 v2_1 v3_1 hh1 hh2 hh3 hN1
      show wp (lb_X7_firstCrowned_2 o_me o_me_court_isles  (lp_X7_firstCrowned_2 o_me o_me_court_isles  N1) v1_1 v2_1 v3_1) (fun (y : Int32) => (0 ≤ y.toInt ∧ y.toInt ≤ 7))
      unfold lb_X7_firstCrowned_2
      have t4 := igX2_7 hI_me_court_isles
      refine wp_if (fun c5 => ?_) (fun c5 => ?_)
      · have c5 := cv_ge (a := v3_1.toInt) (b := (gI o_me_court_isles 7).toInt) rfl rfl c5
        refine wp_some ?_
        exact (show (0 ≤ (7 : Int32).toInt ∧ (7 : Int32).toInt ≤ 7) from ⟨by decide, by decide⟩)
      · have c5 := cv_nge (a := v3_1.toInt) (b := (gI o_me_court_isles 7).toInt) rfl rfl c5
        refine wp_bd (s_X7_scoreWith   o_me v3_1 v1_1 v2_1  hI_me  ⟨hh3.1, (zu_e (zl_d c5) t4.2 (by decide))⟩ ⟨hh1.1, hh1.2⟩ ⟨hh2.1, hh2.2⟩) (fun z6 hz6 => ?_)
        have t7 : (v1_1 * (128 : Int32)).toInt = v1_1.toInt * 128 := i32_mul rfl (by decide) (zr_l hh1.1 (by decide) (by decide)) (zr_u hh1.2 (by decide) (by decide))
        have t8 : ((v1_1 * (128 : Int32)) + v2_1).toInt = (v1_1 * (128 : Int32)).toInt + v2_1.toInt := i32_add rfl rfl (zk_ll (zrq_l (c := 0) t7 hh1.1 (by decide) (by decide)) hh2.1 (by decide)) (zk_uu (zrq_u (c := 384) t7 hh1.2 (by decide) (by decide)) hh2.2 (by decide))
        refine wp_gd (zin_of (m := 640) rfl (zaq_l (c := 0) t8 (zrq_l (c := 0) t7 hh1.1 (by decide) (by decide)) hh2.1 (by decide)) (zlt_m (c := 639) (Int.le_trans (zaq_u (c := 511) t8 (zrq_u (c := 384) t7 hh1.2 (by decide) (by decide)) hh2.2 (by decide)) (by decide)) (by decide))) ?_
        refine wp_if (fun c9 => ?_) (fun c9 => ?_)
        · refine wp_some ?_
          exact (show (0 ≤ v3_1.toInt ∧ v3_1.toInt ≤ 7) from ⟨hh3.1, hh3.2⟩)
        · refine wp_lt (fun x12 ex12 => ?_)
          have tx12 : x12.toInt = v3_1.toInt + 1 := by rw [ex12]; exact i32_add rfl (by decide) (zk_l hh3.1 (by decide)) (zk_u (zu_e (k := 6) (zl_d c5) t4.2 (by decide)) (by decide))
          exact ih1 v1_1 v2_1 x12  ⟨hh1.1, hh1.2⟩ ⟨hh2.1, hh2.2⟩ ⟨(zl_e (zq_r (c := (-1)) tx12 (by decide)) hh3.1 (by decide)), (zu_e (zd_e (c := 0) (Int.le_of_eq tx12) (zl_d c5) (by decide)) t4.2 (by decide))⟩ (zms_u (c := 6) hN1 (zq_r (c := (-1)) tx12 (by decide)) (zu_e (zl_d c5) t4.2 (by decide)) (by decide))
  exact lp1 zfu p0 p1 (0 : Int32)  ⟨q0.1, q0.2⟩ ⟨q1.1, q1.2⟩ ⟨by decide, by decide⟩ (zme_u (l := 0) (Int.le_of_eq tz0.symm) (by decide))

set_option maxHeartbeats 4000000 in
set_option maxRecDepth 100000 in
theorem s_X7_bestFrom {pl : List CR} (o_me : Ob) (o_me_court_isles : Ob) (p0 : Int32) (p1 : Int32) (hI_me : IvX7 o_me) (hI_me_court_isles : IvX2 pl o_me_court_isles) (q0 : 0 ≤ p0.toInt ∧ p0.toInt ≤ 3) (q1 : 0 ≤ p1.toInt ∧ p1.toInt ≤ 127) : wp (f_X7_bestFrom   o_me o_me_court_isles p0 p1) (fun (y : Int32) => True) := by
  unfold f_X7_bestFrom
  have t1 : (p0 + (1 : Int32)).toInt = p0.toInt + 1 := i32_add rfl (by decide) (zk_l q0.1 (by decide)) (zk_u q0.2 (by decide))
  have t2 : ((p0 + (1 : Int32)) * (128 : Int32)).toInt = (p0 + (1 : Int32)).toInt * 128 := i32_mul rfl (by decide) (zr_l (zl_e (k := 1) (zq_r (c := (-1)) t1 (by decide)) q0.1 (by decide)) (by decide) (by decide)) (zr_u (zu_e (k := 4) (Int.le_of_eq t1) q0.2 (by decide)) (by decide) (by decide))
  have t3 : (((p0 + (1 : Int32)) * (128 : Int32)) + p1).toInt = ((p0 + (1 : Int32)) * (128 : Int32)).toInt + p1.toInt := i32_add rfl rfl (zk_ll (zrq_l (c := 128) t2 (zl_e (k := 1) (zq_r (c := (-1)) t1 (by decide)) q0.1 (by decide)) (by decide) (by decide)) q1.1 (by decide)) (zk_uu (zrq_u (c := 512) t2 (zu_e (k := 4) (Int.le_of_eq t1) q0.2 (by decide)) (by decide) (by decide)) q1.2 (by decide))
  refine wp_gd (zin_of (m := 640) rfl (Int.le_trans (by decide) (zaq_l (c := 128) t3 (zrq_l (c := 128) t2 (zl_e (k := 1) (zq_r (c := (-1)) t1 (by decide)) q0.1 (by decide)) (by decide) (by decide)) q1.1 (by decide))) (zlt_m (c := 639) (zaq_u (c := 639) t3 (zrq_u (c := 512) t2 (zu_e (k := 4) (Int.le_of_eq t1) q0.2 (by decide)) (by decide) (by decide)) q1.2 (by decide)) (by decide))) ?_
  refine wp_lt (fun x4 ex4 => ?_)
  have lp1 : ∀ (N1 : Nat) (v1_1 : Int32) (v2_1 : Int32) (v3_1 : Int32) (v4_1 : Int32), (0 ≤ v1_1.toInt ∧ v1_1.toInt ≤ 3) → (0 ≤ v2_1.toInt ∧ v2_1.toInt ≤ 127) → (0 ≤ v4_1.toInt ∧ v4_1.toInt ≤ 7) → (7 - v4_1.toInt).toNat < N1 → wp (lp_X7_bestFrom_18 o_me o_me_court_isles  N1 (v1_1, v2_1, v3_1, v4_1)) (fun (y : Int32) => True) := by
    intro N1
    induction N1 with
    | zero =>
      intro v1_1 v2_1 v3_1 v4_1 hh5 hh6 hh7 hN1
      exact absurd hN1 (Nat.not_lt_zero _)
    | succ N1 ihx =>
      have ih1 := ihx
      intro v1_1 v2_1 v3_1 v4_1 hh5 hh6 hh7 hN1
      show wp (lb_X7_bestFrom_18 o_me o_me_court_isles  (lp_X7_bestFrom_18 o_me o_me_court_isles  N1) v1_1 v2_1 v3_1 v4_1) (fun (y : Int32) => True)
      unfold lb_X7_bestFrom_18
      have t8 := igX2_7 hI_me_court_isles
      refine wp_if (fun c9 => ?_) (fun c9 => ?_)
      · have c9 := cv_ge (a := v4_1.toInt) (b := (gI o_me_court_isles 7).toInt) rfl rfl c9
        refine wp_some ?_
        exact trivial
      · have c9 := cv_nge (a := v4_1.toInt) (b := (gI o_me_court_isles 7).toInt) rfl rfl c9
        refine wp_bd (s_X7_scoreWith   o_me v4_1 v1_1 v2_1  hI_me  ⟨hh7.1, (zu_e (zl_d c9) t8.2 (by decide))⟩ ⟨hh5.1, hh5.2⟩ ⟨hh6.1, hh6.2⟩) (fun z10 hz10 => ?_)
        skip
        refine wp_lt (fun x15 ex15 => ?_)
        refine wp_lt (fun x16 ex16 => ?_)
        have tx16 : x16.toInt = v4_1.toInt + 1 := by rw [ex16]; exact i32_add rfl (by decide) (zk_l hh7.1 (by decide)) (zk_u (zu_e (k := 6) (zl_d c9) t8.2 (by decide)) (by decide))
        exact ih1 v1_1 v2_1 x15 x16  ⟨hh5.1, hh5.2⟩ ⟨hh6.1, hh6.2⟩ ⟨(zl_e (zq_r (c := (-1)) tx16 (by decide)) hh7.1 (by decide)), (zu_e (zd_e (c := 0) (Int.le_of_eq tx16) (zl_d c9) (by decide)) t8.2 (by decide))⟩ (zms_u (c := 6) hN1 (zq_r (c := (-1)) tx16 (by decide)) (zu_e (zl_d c9) t8.2 (by decide)) (by decide))
  exact lp1 zfu p0 p1 x4 (0 : Int32)  ⟨q0.1, q0.2⟩ ⟨q1.1, q1.2⟩ ⟨by decide, by decide⟩ (zme_u (l := 0) (Int.le_of_eq tz0.symm) (by decide))

set_option maxHeartbeats 4000000 in
set_option maxRecDepth 100000 in
theorem s_X7_crownAll (o_me : Ob) (o_me_court : Ob) (o_me_court_isles : Ob) (o_me_court_isles_now : Ob) (o_me_court_machine : Ob) (o_pool : List CR) (hI_me : IvX7 o_me) (hI_me_court : IvX1 o_me_court) (hI_me_court_isles : IvX2 o_pool o_me_court_isles) (hI_me_court_isles_now : IvX4 o_me_court_isles_now) (hI_me_court_machine : IvX3 o_me_court_machine) (hI_pool : PLok o_pool)  : wp (f_X7_crownAll   o_me o_me_court o_me_court_isles o_me_court_isles_now o_me_court_machine o_pool) (fun (y : Int32 × Ob × Ob) => IvX7 y.2.1 ∧ Kp [] [3] [] o_me y.2.1 ∧ IvX3 y.2.2 ∧ Kp [] [] [] o_me_court_machine y.2.2) := by
  have li0 : (0 : Int32).toInt = 0 := by decide
  have li1 : (1 : Int32).toInt = 1 := by decide
  have li2 : (128 : Int32).toInt = 128 := by decide
  have li3 : (4 : Int32).toInt = 4 := by decide
  have li4 : (7 : Int32).toInt = 7 := by decide
  unfold f_X7_crownAll
  have lp1 : ∀ (N1 : Nat) (v1_1 : Int32) (o_me_1 : Ob) (o_me_court_machine_1 : Ob), IvX7 o_me_1 → Kp [] [3] [] o_me o_me_1 → IvX3 o_me_court_machine_1 → Kp [] [] [] o_me_court_machine o_me_court_machine_1 → (0 ≤ v1_1.toInt ∧ v1_1.toInt ≤ 4) → (4 - v1_1.toInt).toNat < N1 → wp (lp_X7_crownAll_2 o_me_court o_me_court_isles o_me_court_isles_now o_pool  N1 (v1_1, o_me_1, o_me_court_machine_1)) (fun (y : Int32 × Ob × Ob) => IvX7 y.2.1 ∧ Kp [] [3] [] o_me y.2.1 ∧ IvX3 y.2.2 ∧ Kp [] [] [] o_me_court_machine y.2.2) := by
    intro N1
    induction N1 with
    | zero =>
      intro v1_1 o_me_1 o_me_court_machine_1 hI_me_1 hkp_me_1 hI_me_court_machine_1 hkp_me_court_machine_1 hh1 hN1
      exact absurd hN1 (Nat.not_lt_zero _)
    | succ N1 ihx =>
      have ih1 := ihx
      intro v1_1 o_me_1 o_me_court_machine_1 hI_me_1 hkp_me_1 hI_me_court_machine_1 hkp_me_court_machine_1 hh1 hN1
      show wp (lb_X7_crownAll_2 o_me_court o_me_court_isles o_me_court_isles_now o_pool  (lp_X7_crownAll_2 o_me_court o_me_court_isles o_me_court_isles_now o_pool  N1) v1_1 o_me_1 o_me_court_machine_1) (fun (y : Int32 × Ob × Ob) => IvX7 y.2.1 ∧ Kp [] [3] [] o_me y.2.1 ∧ IvX3 y.2.2 ∧ Kp [] [] [] o_me_court_machine y.2.2)
      unfold lb_X7_crownAll_2
      refine wp_if (fun c2 => ?_) (fun c2 => ?_)
      · have c2 := cv_ge (a := v1_1.toInt) (b := 4) rfl (by decide) c2
        have t3 := igX2_7 hI_me_court_isles
        have t4 : 1 ≤ ((1 : Int32) <<< ((gI o_me_court_isles 7) &&& 31)).toInt ∧ ((1 : Int32) <<< ((gI o_me_court_isles 7) &&& 31)).toInt ≤ 128 := i32_shl7 (p := gI o_me_court_isles 7) t3.1 t3.2
        refine wp_lt (fun x5 ex5 => ?_)
        have tx5 : x5.toInt = ((1 : Int32) <<< ((gI o_me_court_isles 7) &&& 31)).toInt := by rw [ex5]
        have lp2 : ∀ (N2 : Nat) (v1_2 : Int32) (v2_2 : Int32) (o_me_2 : Ob) (o_me_court_machine_2 : Ob), IvX7 o_me_2 → Kp [] [3] [] o_me o_me_2 → IvX3 o_me_court_machine_2 → Kp [] [] [] o_me_court_machine o_me_court_machine_2 → (1 ≤ v1_2.toInt ∧ v1_2.toInt ≤ 128) → ((-1) ≤ v2_2.toInt ∧ v2_2.toInt ≤ 4) → (v2_2.toInt - (-1)).toNat < N2 → wp (lp_X7_crownAll_30 o_me_court o_me_court_isles o_me_court_isles_now o_pool  N2 (v1_2, v2_2, o_me_2, o_me_court_machine_2)) (fun (y : Int32 × Ob × Ob) => IvX7 y.2.1 ∧ Kp [] [3] [] o_me y.2.1 ∧ IvX3 y.2.2 ∧ Kp [] [] [] o_me_court_machine y.2.2) := by
          intro N2
          induction N2 with
          | zero =>
            intro v1_2 v2_2 o_me_2 o_me_court_machine_2 hI_me_2 hkp_me_2 hI_me_court_machine_2 hkp_me_court_machine_2 hh6 hh7 hN2
            exact absurd hN2 (Nat.not_lt_zero _)
          | succ N2 ihx =>
            have ih2 := ihx
            intro v1_2 v2_2 o_me_2 o_me_court_machine_2 hI_me_2 hkp_me_2 hI_me_court_machine_2 hkp_me_court_machine_2 hh6 hh7 hN2
            show wp (lb_X7_crownAll_30 o_me_court o_me_court_isles o_me_court_isles_now o_pool  (lp_X7_crownAll_30 o_me_court o_me_court_isles o_me_court_isles_now o_pool  N2) v1_2 v2_2 o_me_2 o_me_court_machine_2) (fun (y : Int32 × Ob × Ob) => IvX7 y.2.1 ∧ Kp [] [3] [] o_me y.2.1 ∧ IvX3 y.2.2 ∧ Kp [] [] [] o_me_court_machine y.2.2)
            unfold lb_X7_crownAll_30
            refine wp_if (fun c8 => ?_) (fun c8 => ?_)
            · have c8 := cv_lt (a := v2_2.toInt) (b := 0) rfl (by decide) c8
              have lp3 : ∀ (N3 : Nat) (v2_3 : Int32) (v3_3 : Int32) (o_me_3 : Ob) (o_me_court_machine_3 : Ob), IvX7 o_me_3 → Kp [] [3] [] o_me o_me_3 → IvX3 o_me_court_machine_3 → Kp [] [] [] o_me_court_machine o_me_court_machine_3 → (0 ≤ v2_3.toInt ∧ v2_3.toInt ≤ 127) → (0 ≤ v3_3.toInt ∧ v3_3.toInt ≤ 4) → (4 - v3_3.toInt).toNat < N3 → wp (lp_X7_crownAll_92 o_me_court o_me_court_isles o_me_court_isles_now o_pool  N3 (v2_3, v3_3, o_me_3, o_me_court_machine_3)) (fun (y : Int32 × Ob × Ob) => IvX7 y.2.1 ∧ Kp [] [3] [] o_me y.2.1 ∧ IvX3 y.2.2 ∧ Kp [] [] [] o_me_court_machine y.2.2) := by
                intro N3
                induction N3 with
                | zero =>
                  intro v2_3 v3_3 o_me_3 o_me_court_machine_3 hI_me_3 hkp_me_3 hI_me_court_machine_3 hkp_me_court_machine_3 hh9 hh10 hN3
                  exact absurd hN3 (Nat.not_lt_zero _)
                | succ N3 ihx =>
                  have ih3 := ihx
                  intro v2_3 v3_3 o_me_3 o_me_court_machine_3 hI_me_3 hkp_me_3 hI_me_court_machine_3 hkp_me_court_machine_3 hh9 hh10 hN3
                  show wp (lb_X7_crownAll_92 o_me_court o_me_court_isles o_me_court_isles_now o_pool  (lp_X7_crownAll_92 o_me_court o_me_court_isles o_me_court_isles_now o_pool  N3) v2_3 v3_3 o_me_3 o_me_court_machine_3) (fun (y : Int32 × Ob × Ob) => IvX7 y.2.1 ∧ Kp [] [3] [] o_me y.2.1 ∧ IvX3 y.2.2 ∧ Kp [] [] [] o_me_court_machine y.2.2)
                  unfold lb_X7_crownAll_92
                  refine wp_if (fun c11 => ?_) (fun c11 => ?_)
                  · have c11 := cv_ge (a := v3_3.toInt) (b := 4) rfl (by decide) c11
                    refine wp_some ?_
                    exact (show IvX7 o_me_3 ∧ Kp [] [3] [] o_me o_me_3 ∧ IvX3 o_me_court_machine_3 ∧ Kp [] [] [] o_me_court_machine o_me_court_machine_3 from ⟨hI_me_3, hkp_me_3, hI_me_court_machine_3, hkp_me_court_machine_3⟩)
                  · have c11 := cv_nge (a := v3_3.toInt) (b := 4) rfl (by decide) c11
                    refine wp_bd (s_X7_firstCrowned   o_me_3 o_me_court_isles v3_3 v2_3  hI_me_3 hI_me_court_isles  ⟨hh10.1, (zlt_u (c := 3) c11 (by decide))⟩ ⟨hh9.1, hh9.2⟩) (fun z12 hz12 => ?_)
                    have hz12_0 := hz12
                    refine wp_gd (zin_of (m := 7) rfl hh10.1 (zlt_m (c := 6) (Int.le_trans hh10.2 (by decide)) (by decide))) ?_
                    refine wp_lt (fun o13 eo13 => ?_)
                    have hIo13 : IvX7 o13 := by rw [eo13]; exact ibX7_2 hI_me_3 hh10.1  (Or.inr (Or.inr ⟨hz12_0.1, hz12_0.2⟩))
                    have ko13_v : (gA o13 2 v3_3.toNatClampNeg).toInt = z12.toInt := by rw [eo13]; exact congrArg Int32.toInt (upd_eq (g := gA o_me_3 2) (i := v3_3) (v := z12))
                    have hkpo13 : Kp [] [3] [] o_me o13 := hkp_me_3.trans (by rw [eo13]; exact Kp.tA (by decide) (by decide))
                    refine wp_gd (zin_of (m := 7) rfl hh10.1 (zlt_m (c := 6) (Int.le_trans hh10.2 (by decide)) (by decide))) ?_
                    refine wp_if (fun c14 => ?_) (fun c14 => ?_)
                    · have c14 := cv_eq (a := (gA o13 2 v3_3.toNatClampNeg).toInt) (b := 7) rfl (by decide) c14
                      obtain ⟨w15, ew15⟩ : ∃ z : Int32, z = (0 : Int32) := ⟨_, rfl⟩
                      have tw15 : w15.toInt = 0 := by rw [ew15]; decide
                      rw [show bk_X7_crownAll_133 o_me_court o_me_court_isles o_me_court_isles_now o_pool (lp_X7_crownAll_92 o_me_court o_me_court_isles o_me_court_isles_now o_pool  N3) v3_3 (0 : Int32) v2_3 o13 o_me_court_machine_3 = bk_X7_crownAll_133 o_me_court o_me_court_isles o_me_court_isles_now o_pool (lp_X7_crownAll_92 o_me_court o_me_court_isles o_me_court_isles_now o_pool  N3) v3_3 w15 v2_3 o13 o_me_court_machine_3 from by rw [ew15]]
                      unfold bk_X7_crownAll_133
                      have t16 := i32_or7 (x := v2_3) (y := w15) ⟨hh9.1, hh9.2⟩ ⟨(Int.le_of_eq tw15.symm), (Int.le_trans (Int.le_of_eq tw15) (by decide))⟩
                      refine wp_lt (fun x17 ex17 => ?_)
                      have tx17 : x17.toInt = (v2_3 ||| w15).toInt := by rw [ex17]
                      refine wp_lt (fun x18 ex18 => ?_)
                      have tx18 : x18.toInt = v3_3.toInt + 1 := by rw [ex18]; exact i32_add rfl (by decide) (zk_l hh10.1 (by decide)) (zk_u (zlt_u (c := 3) c11 (by decide)) (by decide))
                      exact ih3 x17 x18 o13 o_me_court_machine_3 hIo13 hkpo13 hI_me_court_machine_3 hkp_me_court_machine_3 ⟨(zl_e (zq_0 tx17.symm) t16.1 (by decide)), (zu_e (zq_0 tx17) t16.2 (by decide))⟩ ⟨(zl_e (zq_r (c := (-1)) tx18 (by decide)) hh10.1 (by decide)), (zu_e (Int.le_of_eq tx18) (zlt_u (c := 3) c11 (by decide)) (by decide))⟩ (zms_u (c := 3) hN3 (zq_r (c := (-1)) tx18 (by decide)) (zlt_u (c := 3) c11 (by decide)) (by decide))
                    · have c14 := cv_ne (a := (gA o13 2 v3_3.toNatClampNeg).toInt) (b := 7) rfl (by decide) c14
                      refine wp_gd (zin_of (m := 7) rfl hh10.1 (zlt_m (c := 6) (Int.le_trans hh10.2 (by decide)) (by decide))) ?_
                      have t19 : 1 ≤ ((1 : Int32) <<< ((gA o13 2 v3_3.toNatClampNeg) &&& 31)).toInt ∧ ((1 : Int32) <<< ((gA o13 2 v3_3.toNatClampNeg) &&& 31)).toInt ≤ 64 := i32_shl6 (p := gA o13 2 v3_3.toNatClampNeg) (zl_e (zq_0 ko13_v.symm) hz12_0.1 (by decide)) (by omega)
                      obtain ⟨w20, ew20⟩ : ∃ z : Int32, z = (1 : Int32) <<< ((gA o13 2 v3_3.toNatClampNeg) &&& 31) := ⟨_, rfl⟩
                      have tw20 : w20.toInt = ((1 : Int32) <<< ((gA o13 2 v3_3.toNatClampNeg) &&& 31)).toInt := by rw [ew20]
                      rw [show bk_X7_crownAll_133 o_me_court o_me_court_isles o_me_court_isles_now o_pool (lp_X7_crownAll_92 o_me_court o_me_court_isles o_me_court_isles_now o_pool  N3) v3_3 ((1 : Int32) <<< ((gA o13 2 v3_3.toNatClampNeg) &&& 31)) v2_3 o13 o_me_court_machine_3 = bk_X7_crownAll_133 o_me_court o_me_court_isles o_me_court_isles_now o_pool (lp_X7_crownAll_92 o_me_court o_me_court_isles o_me_court_isles_now o_pool  N3) v3_3 w20 v2_3 o13 o_me_court_machine_3 from by rw [ew20]]
                      unfold bk_X7_crownAll_133
                      have t21 := i32_or7 (x := v2_3) (y := w20) ⟨hh9.1, hh9.2⟩ ⟨(zl_e (zq_0 tw20.symm) t19.1 (by decide)), (zu_e (zq_0 tw20) t19.2 (by decide))⟩
                      refine wp_lt (fun x22 ex22 => ?_)
                      have tx22 : x22.toInt = (v2_3 ||| w20).toInt := by rw [ex22]
                      refine wp_lt (fun x23 ex23 => ?_)
                      have tx23 : x23.toInt = v3_3.toInt + 1 := by rw [ex23]; exact i32_add rfl (by decide) (zk_l hh10.1 (by decide)) (zk_u (zlt_u (c := 3) c11 (by decide)) (by decide))
                      exact ih3 x22 x23 o13 o_me_court_machine_3 hIo13 hkpo13 hI_me_court_machine_3 hkp_me_court_machine_3 ⟨(zl_e (zq_0 tx22.symm) t21.1 (by decide)), (zu_e (zq_0 tx22) t21.2 (by decide))⟩ ⟨(zl_e (zq_r (c := (-1)) tx23 (by decide)) hh10.1 (by decide)), (zu_e (Int.le_of_eq tx23) (zlt_u (c := 3) c11 (by decide)) (by decide))⟩ (zms_u (c := 3) hN3 (zq_r (c := (-1)) tx23 (by decide)) (zlt_u (c := 3) c11 (by decide)) (by decide))
              exact lp3 zfu (0 : Int32) (0 : Int32) o_me_2 o_me_court_machine_2 hI_me_2 hkp_me_2 hI_me_court_machine_2 hkp_me_court_machine_2 ⟨by decide, by decide⟩ ⟨by decide, by decide⟩ (zme_u (l := 0) (Int.le_of_eq tz0.symm) (by decide))
            · have c8 := cv_nlt (a := v2_2.toInt) (b := 0) rfl (by decide) c8
              have lp4 : ∀ (N4 : Nat) (v1_4 : Int32) (v2_4 : Int32) (v3_4 : Int32) (o_me_4 : Ob) (o_me_court_machine_4 : Ob), IvX7 o_me_4 → Kp [] [3] [] o_me o_me_4 → IvX3 o_me_court_machine_4 → Kp [] [] [] o_me_court_machine o_me_court_machine_4 → (1 ≤ v1_4.toInt ∧ v1_4.toInt ≤ 128) → (0 ≤ v2_4.toInt ∧ v2_4.toInt ≤ 4) → (0 ≤ v3_4.toInt ∧ v3_4.toInt ≤ 128) → (v2_4.toInt ≤ v2_2.toInt + 0) → (128 - v3_4.toInt).toNat < N4 → wp (lp_X7_crownAll_36 o_me_court o_me_court_isles o_me_court_isles_now o_pool (lp_X7_crownAll_30 o_me_court o_me_court_isles o_me_court_isles_now o_pool  N2) N4 (v1_4, v2_4, v3_4, o_me_4, o_me_court_machine_4)) (fun (y : Int32 × Ob × Ob) => IvX7 y.2.1 ∧ Kp [] [3] [] o_me y.2.1 ∧ IvX3 y.2.2 ∧ Kp [] [] [] o_me_court_machine y.2.2) := by
                intro N4
                induction N4 with
                | zero =>
                  intro v1_4 v2_4 v3_4 o_me_4 o_me_court_machine_4 hI_me_4 hkp_me_4 hI_me_court_machine_4 hkp_me_court_machine_4 hh24 hh25 hh26 hh27 hN4
                  exact absurd hN4 (Nat.not_lt_zero _)
                | succ N4 ihx =>
                  have ih4 := ihx
                  intro v1_4 v2_4 v3_4 o_me_4 o_me_court_machine_4 hI_me_4 hkp_me_4 hI_me_court_machine_4 hkp_me_court_machine_4 hh24 hh25 hh26 hh27 hN4
                  show wp (lb_X7_crownAll_36 o_me_court o_me_court_isles o_me_court_isles_now o_pool (lp_X7_crownAll_30 o_me_court o_me_court_isles o_me_court_isles_now o_pool  N2) (lp_X7_crownAll_36 o_me_court o_me_court_isles o_me_court_isles_now o_pool (lp_X7_crownAll_30 o_me_court o_me_court_isles o_me_court_isles_now o_pool  N2) N4) v1_4 v2_4 v3_4 o_me_4 o_me_court_machine_4) (fun (y : Int32 × Ob × Ob) => IvX7 y.2.1 ∧ Kp [] [3] [] o_me y.2.1 ∧ IvX3 y.2.2 ∧ Kp [] [] [] o_me_court_machine y.2.2)
                  unfold lb_X7_crownAll_36
                  refine wp_if (fun c28 => ?_) (fun c28 => ?_)
                  · have c28 := cv_ge (a := v3_4.toInt) (b := v1_4.toInt) rfl rfl c28
                    refine wp_lt (fun x29 ex29 => ?_)
                    have tx29 : x29.toInt = v2_4.toInt + (-1) := by rw [ex29]; exact i32_add rfl (by decide) (zk_l hh25.1 (by decide)) (zk_u hh25.2 (by decide))
                    exact ih2 v1_4 x29 o_me_4 o_me_court_machine_4 hI_me_4 hkp_me_4 hI_me_court_machine_4 hkp_me_court_machine_4 ⟨hh24.1, hh24.2⟩ ⟨(zl_e (zq_r (c := 1) tx29 (by decide)) hh25.1 (by decide)), (zu_e (Int.le_of_eq tx29) hh25.2 (by decide))⟩ (zms_d (c := 0) hN2 (zd_e (c := (-1)) (Int.le_of_eq tx29) hh27 (by decide)) c8 (by decide))
                  · have c28 := cv_nge (a := v3_4.toInt) (b := v1_4.toInt) rfl rfl c28
                    refine wp_bd (s_J6_bitCount_0f7a4   v3_4    ) (fun z30 hz30 => ?_)
                    have hz30_0 := hz30
                    refine wp_if (fun c31 => ?_) (fun c31 => ?_)
                    · have c31 := cv_gt (a := z30.toInt) (b := v2_4.toInt) rfl rfl c31
                      unfold bk_X7_crownAll_76
                      refine wp_lt (fun x32 ex32 => ?_)
                      have tx32 : x32.toInt = v3_4.toInt + 1 := by rw [ex32]; exact i32_add rfl (by decide) (zk_l hh26.1 (by decide)) (zk_u (zu_e (k := 127) (zl_d c28) hh24.2 (by decide)) (by decide))
                      exact ih4 v1_4 v2_4 x32 o_me_4 o_me_court_machine_4 hI_me_4 hkp_me_4 hI_me_court_machine_4 hkp_me_court_machine_4 ⟨hh24.1, hh24.2⟩ ⟨hh25.1, hh25.2⟩ ⟨(zl_e (zq_r (c := (-1)) tx32 (by decide)) hh26.1 (by decide)), (zu_e (zd_e (c := 0) (Int.le_of_eq tx32) (zl_d c28) (by decide)) hh24.2 (by decide))⟩ hh27 (zms_u (c := 127) hN4 (zq_r (c := (-1)) tx32 (by decide)) (zu_e (zl_d c28) hh24.2 (by decide)) (by decide))
                    · have c31 := cv_ngt (a := z30.toInt) (b := v2_4.toInt) rfl rfl c31
                      have t33 : (v2_4 * (128 : Int32)).toInt = v2_4.toInt * 128 := i32_mul rfl (by decide) (zr_l hh25.1 (by decide) (by decide)) (zr_u hh25.2 (by decide) (by decide))
                      have t34 : ((v2_4 * (128 : Int32)) + v3_4).toInt = (v2_4 * (128 : Int32)).toInt + v3_4.toInt := i32_add rfl rfl (zk_ll (zrq_l (c := 0) t33 hh25.1 (by decide) (by decide)) hh26.1 (by decide)) (zk_uu (zrq_u (c := 512) t33 hh25.2 (by decide) (by decide)) (zu_e (k := 127) (zl_d c28) hh24.2 (by decide)) (by decide))
                      refine wp_if (fun c35 => ?_) (fun c35 => ?_)
                      · have c35 := cv_eq (a := v2_4.toInt) (b := 4) rfl (by decide) c35
                        obtain ⟨w36, ew36⟩ : ∃ z : Int32, z = (0 : Int32) := ⟨_, rfl⟩
                        have tw36 : w36.toInt = 0 := by rw [ew36]; decide
                        obtain ⟨w37, ew37⟩ : ∃ z : Int32, z = (v2_4 * (128 : Int32)) + v3_4 := ⟨_, rfl⟩
                        have tw37 : w37.toInt = ((v2_4 * (128 : Int32)) + v3_4).toInt := by rw [ew37]
                        rw [show bk_X7_crownAll_75 o_me_court o_me_court_isles o_me_court_isles_now o_pool (lp_X7_crownAll_30 o_me_court o_me_court_isles o_me_court_isles_now o_pool  N2) (lp_X7_crownAll_36 o_me_court o_me_court_isles o_me_court_isles_now o_pool (lp_X7_crownAll_30 o_me_court o_me_court_isles o_me_court_isles_now o_pool  N2) N4) v1_4 v2_4 v3_4 (0 : Int32) ((v2_4 * (128 : Int32)) + v3_4) o_me_4 o_me_court_machine_4 = bk_X7_crownAll_75 o_me_court o_me_court_isles o_me_court_isles_now o_pool (lp_X7_crownAll_30 o_me_court o_me_court_isles o_me_court_isles_now o_pool  N2) (lp_X7_crownAll_36 o_me_court o_me_court_isles o_me_court_isles_now o_pool (lp_X7_crownAll_30 o_me_court o_me_court_isles o_me_court_isles_now o_pool  N2) N4) v1_4 v2_4 v3_4 w36 w37 o_me_4 o_me_court_machine_4 from by rw [ew36, ew37]]
                        unfold bk_X7_crownAll_75
                        refine wp_gd (zin_of (m := 640) rfl (zl_e (zq_0 tw37.symm) (zaq_l (c := 0) t34 (zrq_l (c := 0) t33 hh25.1 (by decide) (by decide)) hh26.1 (by decide)) (by decide)) (zlt_m (c := 639) (zu_e (zq_0 tw37) (zaq_u (c := 639) t34 (zrq_u (c := 512) t33 hh25.2 (by decide) (by decide)) (zu_e (k := 127) (zl_d c28) hh24.2 (by decide)) (by decide)) (by decide)) (by decide))) ?_
                        refine wp_lt (fun o38 eo38 => ?_)
                        have hIo38 : IvX7 o38 := by rw [eo38]; exact hI_me_4
                        have ko38_v : (gA o38 4 w37.toNatClampNeg).toInt = w36.toInt := by rw [eo38]; exact congrArg Int32.toInt (upd_eq (g := gA o_me_4 4) (i := w37) (v := w36))
                        have hkpo38 : Kp [] [3] [] o_me o38 := hkp_me_4.trans (by rw [eo38]; exact Kp.tA (by decide) (by decide))
                        unfold bk_X7_crownAll_76
                        refine wp_lt (fun x39 ex39 => ?_)
                        have tx39 : x39.toInt = v3_4.toInt + 1 := by rw [ex39]; exact i32_add rfl (by decide) (zk_l hh26.1 (by decide)) (zk_u (zu_e (k := 127) (zl_d c28) hh24.2 (by decide)) (by decide))
                        exact ih4 v1_4 v2_4 x39 o38 o_me_court_machine_4 hIo38 hkpo38 hI_me_court_machine_4 hkp_me_court_machine_4 ⟨hh24.1, hh24.2⟩ ⟨hh25.1, hh25.2⟩ ⟨(zl_e (zq_r (c := (-1)) tx39 (by decide)) hh26.1 (by decide)), (zu_e (zd_e (c := 0) (Int.le_of_eq tx39) (zl_d c28) (by decide)) hh24.2 (by decide))⟩ hh27 (zms_u (c := 127) hN4 (zq_r (c := (-1)) tx39 (by decide)) (zu_e (zl_d c28) hh24.2 (by decide)) (by decide))
                      · have c35 := cv_ne (a := v2_4.toInt) (b := 4) rfl (by decide) c35
                        refine wp_bd (s_X7_bestFrom   o_me_4 o_me_court_isles v2_4 v3_4  hI_me_4 hI_me_court_isles  ⟨hh25.1, (zn_u (c := 3) hh25.2 c35 (by decide))⟩ ⟨hh26.1, (zu_e (zl_d c28) hh24.2 (by decide))⟩) (fun z40 hz40 => ?_)
                        obtain ⟨w41, ew41⟩ : ∃ z : Int32, z = (v2_4 * (128 : Int32)) + v3_4 := ⟨_, rfl⟩
                        have tw41 : w41.toInt = ((v2_4 * (128 : Int32)) + v3_4).toInt := by rw [ew41]
                        rw [show bk_X7_crownAll_75 o_me_court o_me_court_isles o_me_court_isles_now o_pool (lp_X7_crownAll_30 o_me_court o_me_court_isles o_me_court_isles_now o_pool  N2) (lp_X7_crownAll_36 o_me_court o_me_court_isles o_me_court_isles_now o_pool (lp_X7_crownAll_30 o_me_court o_me_court_isles o_me_court_isles_now o_pool  N2) N4) v1_4 v2_4 v3_4 z40 ((v2_4 * (128 : Int32)) + v3_4) o_me_4 o_me_court_machine_4 = bk_X7_crownAll_75 o_me_court o_me_court_isles o_me_court_isles_now o_pool (lp_X7_crownAll_30 o_me_court o_me_court_isles o_me_court_isles_now o_pool  N2) (lp_X7_crownAll_36 o_me_court o_me_court_isles o_me_court_isles_now o_pool (lp_X7_crownAll_30 o_me_court o_me_court_isles o_me_court_isles_now o_pool  N2) N4) v1_4 v2_4 v3_4 z40 w41 o_me_4 o_me_court_machine_4 from by rw [ew41]]
                        unfold bk_X7_crownAll_75
                        refine wp_gd (zin_of (m := 640) rfl (zl_e (zq_0 tw41.symm) (zaq_l (c := 0) t34 (zrq_l (c := 0) t33 hh25.1 (by decide) (by decide)) hh26.1 (by decide)) (by decide)) (zlt_m (c := 639) (zu_e (zq_0 tw41) (zaq_u (c := 639) t34 (zrq_u (c := 512) t33 hh25.2 (by decide) (by decide)) (zu_e (k := 127) (zl_d c28) hh24.2 (by decide)) (by decide)) (by decide)) (by decide))) ?_
                        refine wp_lt (fun o42 eo42 => ?_)
                        have hIo42 : IvX7 o42 := by rw [eo42]; exact hI_me_4
                        have ko42_v : (gA o42 4 w41.toNatClampNeg).toInt = z40.toInt := by rw [eo42]; exact congrArg Int32.toInt (upd_eq (g := gA o_me_4 4) (i := w41) (v := z40))
                        have hkpo42 : Kp [] [3] [] o_me o42 := hkp_me_4.trans (by rw [eo42]; exact Kp.tA (by decide) (by decide))
                        unfold bk_X7_crownAll_76
                        refine wp_lt (fun x43 ex43 => ?_)
                        have tx43 : x43.toInt = v3_4.toInt + 1 := by rw [ex43]; exact i32_add rfl (by decide) (zk_l hh26.1 (by decide)) (zk_u (zu_e (k := 127) (zl_d c28) hh24.2 (by decide)) (by decide))
                        exact ih4 v1_4 v2_4 x43 o42 o_me_court_machine_4 hIo42 hkpo42 hI_me_court_machine_4 hkp_me_court_machine_4 ⟨hh24.1, hh24.2⟩ ⟨hh25.1, hh25.2⟩ ⟨(zl_e (zq_r (c := (-1)) tx43 (by decide)) hh26.1 (by decide)), (zu_e (zd_e (c := 0) (Int.le_of_eq tx43) (zl_d c28) (by decide)) hh24.2 (by decide))⟩ hh27 (zms_u (c := 127) hN4 (zq_r (c := (-1)) tx43 (by decide)) (zu_e (zl_d c28) hh24.2 (by decide)) (by decide))
              exact lp4 zfu v1_2 v2_2 (0 : Int32) o_me_2 o_me_court_machine_2 hI_me_2 hkp_me_2 hI_me_court_machine_2 hkp_me_court_machine_2 ⟨hh6.1, hh6.2⟩ ⟨c8, hh7.2⟩ ⟨by decide, by decide⟩ (zd_r (by decide)) (zme_u (l := 0) (Int.le_of_eq tz0.symm) (by decide))
        exact lp2 zfu x5 (4 : Int32) o_me_1 o_me_court_machine_1 hI_me_1 hkp_me_1 hI_me_court_machine_1 hkp_me_court_machine_1 ⟨(zl_e (zq_0 tx5.symm) t4.1 (by decide)), (zu_e (zq_0 tx5) t4.2 (by decide))⟩ ⟨by decide, by decide⟩ (zme_d (u := 4) (Int.le_of_eq tz4) (by decide))
      · have c2 := cv_nge (a := v1_1.toInt) (b := 4) rfl (by decide) c2
        refine wp_bd (s_X7_setScores   o_me_1 o_me_court o_me_court_isles o_me_court_isles_now o_me_court_machine_1 o_pool v1_1  hI_me_1 hI_me_court hI_me_court_isles hI_me_court_isles_now hI_me_court_machine_1 hI_pool  ⟨hh1.1, (zlt_u (c := 3) c2 (by decide))⟩) (fun z44 hz44 => ?_)
        obtain ⟨hz44_0, hz44_1, hz44_2, hz44_3⟩ := hz44
        have hkpz44_me : Kp [] [3] [] o_me z44.1 := hkp_me_1.trans (hz44_1.mono (by decide) (by decide) (by decide))
        have hkpz44_me_court_machine : Kp [] [] [] o_me_court_machine z44.2 := hkp_me_court_machine_1.trans (hz44_3.mono (by decide) (by decide) (by decide))
        refine wp_lt (fun x45 ex45 => ?_)
        have tx45 : x45.toInt = v1_1.toInt + 1 := by rw [ex45]; exact i32_add rfl (by decide) (zk_l hh1.1 (by decide)) (zk_u (zlt_u (c := 3) c2 (by decide)) (by decide))
        exact ih1 x45 z44.1 z44.2 hz44_0 hkpz44_me hz44_2 hkpz44_me_court_machine ⟨(zl_e (zq_r (c := (-1)) tx45 (by decide)) hh1.1 (by decide)), (zu_e (Int.le_of_eq tx45) (zlt_u (c := 3) c2 (by decide)) (by decide))⟩ (zms_u (c := 3) hN1 (zq_r (c := (-1)) tx45 (by decide)) (zlt_u (c := 3) c2 (by decide)) (by decide))
  exact lp1 zfu (0 : Int32) o_me o_me_court_machine hI_me Kp.rf hI_me_court_machine Kp.rf ⟨by decide, by decide⟩ (zme_u (l := 0) (Int.le_of_eq tz0.symm) (by decide))

set_option maxHeartbeats 4000000 in
set_option maxRecDepth 100000 in
theorem s_X8_crowned {rI : Nat → Option Nat} (o_me : Ob) (o_me_machine : Ob) (o_me_isles : Ob) (o_me_isles_now : Ob) (o_me_court : Ob) (o_me_study : Ob) (o_pool : List CR) (p0 : Int32) (hI_me : IvX8 rI o_me) (hI_me_machine : IvX3 o_me_machine) (hI_me_isles : IvX2 o_pool o_me_isles) (hI_me_isles_now : IvX4 o_me_isles_now) (hI_me_court : IvX1 o_me_court) (hI_me_study : IvX7 o_me_study) (hI_pool : PLok o_pool)  : wp (f_X8_crowned   o_me o_me_machine o_me_isles o_me_isles_now o_me_court o_me_study o_pool p0) (fun (y : Int32 × Ob × Ob) => IvX3 y.2.1 ∧ Kp [] [] [] o_me_machine y.2.1 ∧ IvX7 y.2.2 ∧ Kp [] [3] [] o_me_study y.2.2) := by
  unfold f_X8_crowned
  refine wp_if (fun c1 => ?_) (fun c1 => ?_)
  · have c1 := cv_lt (a := p0.toInt) (b := 0) rfl (by decide) c1
    refine wp_some ?_
    exact (show IvX3 o_me_machine ∧ Kp [] [] [] o_me_machine o_me_machine ∧ IvX7 o_me_study ∧ Kp [] [3] [] o_me_study o_me_study from ⟨hI_me_machine, Kp.rf, hI_me_study, Kp.rf⟩)
  · have c1 := cv_nlt (a := p0.toInt) (b := 0) rfl (by decide) c1
    refine wp_if (fun c2 => ?_) (fun c2 => ?_)
    · have c2 := cv_le (a := p0.toInt) (b := 4) rfl (by decide) c2
      refine wp_bd (s_X7_crownAll   o_me_study o_me_court o_me_isles o_me_isles_now o_me_machine o_pool  hI_me_study hI_me_court hI_me_isles hI_me_isles_now hI_me_machine hI_pool  ) (fun z3 hz3 => ?_)
      obtain ⟨hz3_0, hz3_1, hz3_2, hz3_3⟩ := hz3
      have hkpz3_me_study : Kp [] [3] [] o_me_study z3.2.1 := Kp.rf.trans (hz3_1.mono (by decide) (by decide) (by decide))
      have hkpz3_me_machine : Kp [] [] [] o_me_machine z3.2.2 := Kp.rf.trans (hz3_3.mono (by decide) (by decide) (by decide))
      refine wp_if (fun c4 => ?_) (fun c4 => ?_)
      · have c4 := cv_eq (a := p0.toInt) (b := 0) rfl (by decide) c4
        refine wp_some ?_
        exact (show IvX3 z3.2.2 ∧ Kp [] [] [] o_me_machine z3.2.2 ∧ IvX7 z3.2.1 ∧ Kp [] [3] [] o_me_study z3.2.1 from ⟨hz3_2, hkpz3_me_machine, hz3_0, hkpz3_me_study⟩)
      · have c4 := cv_ne (a := p0.toInt) (b := 0) rfl (by decide) c4
        have t5 : (p0 - (1 : Int32)).toInt = p0.toInt - 1 := i32_sub rfl (by decide) (zs_l c1 (by decide)) (zs_u c2 (by decide))
        refine wp_gd (zin_of (m := 7) rfl (zl_e (zq_t (c := 1) t5 (by decide)) (zn_l (c := 1) c1 c4 (by decide)) (by decide)) (zlt_m (c := 6) (zu_e (zq_s (c := (-1)) t5 (by decide)) c2 (by decide)) (by decide))) ?_
        refine wp_some ?_
        exact (show IvX3 z3.2.2 ∧ Kp [] [] [] o_me_machine z3.2.2 ∧ IvX7 z3.2.1 ∧ Kp [] [3] [] o_me_study z3.2.1 from ⟨hz3_2, hkpz3_me_machine, hz3_0, hkpz3_me_study⟩)
    · refine wp_some ?_
      exact (show IvX3 o_me_machine ∧ Kp [] [] [] o_me_machine o_me_machine ∧ IvX7 o_me_study ∧ Kp [] [3] [] o_me_study o_me_study from ⟨hI_me_machine, Kp.rf, hI_me_study, Kp.rf⟩)

set_option maxHeartbeats 4000000 in
set_option maxRecDepth 100000 in
theorem s_X4_told (o_me : Ob) (p0 : Int32) (p1 : Int32) (hI_me : IvX4 o_me) (q0 : 0 ≤ p0.toInt ∧ p0.toInt ≤ 6) : wp (f_X4_told   o_me p0 p1) (fun (y : Int32) => True) := by
  unfold f_X4_told
  refine wp_if (fun c1 => ?_) (fun c1 => ?_)
  · refine wp_gd (zin_of (m := 7) rfl q0.1 (zlt_m (c := 6) q0.2 (by decide))) ?_
    refine wp_some ?_
    exact trivial
  · refine wp_if (fun c3 => ?_) (fun c3 => ?_)
    · refine wp_gd (zin_of (m := 7) rfl q0.1 (zlt_m (c := 6) q0.2 (by decide))) ?_
      refine wp_some ?_
      exact trivial
    · refine wp_if (fun c4 => ?_) (fun c4 => ?_)
      · refine wp_some ?_
        exact trivial
      · refine wp_some ?_
        exact trivial

set_option maxHeartbeats 4000000 in
set_option maxRecDepth 100000 in
theorem s_X8_drawn {pl : List CR} {rI : Nat → Option Nat} (o_me : Ob) (o_me_paper : Ob) (o_me_paper_now : Ob) (p0 : Int32) (p1 : Int32) (hI_me : IvX8 rI o_me) (hI_me_paper : IvX2 pl o_me_paper) (hI_me_paper_now : IvX4 o_me_paper_now)  : wp (f_X8_drawn   o_me o_me_paper o_me_paper_now p0 p1) (fun (y : Int32) => True) := by
  unfold f_X8_drawn
  refine wp_bd (s_X2_isPerson   o_me_paper p0  hI_me_paper  ) (fun z1 hz1 => ?_)
  obtain ⟨hz1_0, hz1_1⟩ := hz1
  refine wp_if (fun c2 => ?_) (fun c2 => ?_)
  · have c2 := cv_eq (a := z1.toInt) (b := 0) rfl (by decide) c2
    refine wp_some ?_
    exact trivial
  · have c2i := hz1_1 c2
    refine wp_bd (s_X4_told   o_me_paper_now p0 p1  hI_me_paper_now  ⟨c2i.1.1, c2i.1.2⟩) (fun z3 hz3 => ?_)
    refine wp_some ?_
    exact trivial

set_option maxHeartbeats 4000000 in
set_option maxRecDepth 100000 in
theorem s_X8_end {rI : Nat → Option Nat} (o_me : Ob) (o_me_reader : Ob) (p0 : Int32) (hI_me : IvX8 rI o_me) (hI_me_reader : IvX6 o_me_reader)  : wp (f_X8_end   o_me o_me_reader p0) (fun (y : Int32 × Ob) => ((-1) ≤ y.1.toInt ∧ y.1.toInt ≤ 400) ∧ IvX6 y.2 ∧ Kp [3, 4, 5, 6, 7, 8] [0] [] o_me_reader y.2) := by
  unfold f_X8_end
  refine wp_if (fun c1 => ?_) (fun c1 => ?_)
  · have c1 := cv_lt (a := p0.toInt) (b := 0) rfl (by decide) c1
    refine wp_some ?_
    exact (show ((-1) ≤ (-1 : Int32).toInt ∧ (-1 : Int32).toInt ≤ 400) ∧ IvX6 o_me_reader ∧ Kp [3, 4, 5, 6, 7, 8] [0] [] o_me_reader o_me_reader from ⟨⟨by decide, by decide⟩, hI_me_reader, Kp.rf⟩)
  · have c1 := cv_nlt (a := p0.toInt) (b := 0) rfl (by decide) c1
    have t2 := igX6_2 hI_me_reader
    refine wp_if (fun c3 => ?_) (fun c3 => ?_)
    · have c3 := cv_le (a := p0.toInt) (b := (gI o_me_reader 2).toInt) rfl rfl c3
      refine wp_lt (fun o5 eo5 => ?_)
      have hIo5 : IvX6 o5 := by rw [eo5]; exact ipX6_2 hI_me_reader ⟨c1, (zu_e (zl_0 c3) t2.2 (by decide))⟩
      have hkpo5 : Kp [3, 4, 5, 6, 7, 8] [0] [] o_me_reader o5 := Kp.rf.trans (by rw [eo5]; exact Kp.sI (by decide))
      refine wp_some ?_
      exact (show ((-1) ≤ p0.toInt ∧ p0.toInt ≤ 400) ∧ IvX6 o5 ∧ Kp [3, 4, 5, 6, 7, 8] [0] [] o_me_reader o5 from ⟨⟨(Int.le_trans (by decide) c1), (zu_e (zl_0 c3) t2.2 (by decide))⟩, hIo5, hkpo5⟩)
    · refine wp_some ?_
      exact (show ((-1) ≤ (-1 : Int32).toInt ∧ (-1 : Int32).toInt ≤ 400) ∧ IvX6 o_me_reader ∧ Kp [3, 4, 5, 6, 7, 8] [0] [] o_me_reader o_me_reader from ⟨⟨by decide, by decide⟩, hI_me_reader, Kp.rf⟩)

theorem AHok.up {g : Nat → Int32} {i : Nat} {v : Int32} (h : AHok g) (hi : ∀ k j : Nat, k < 16 → j < 7 → 17 * k + j ≠ i) : AHok (upd g i v) := by
  intro k j hk hj
  have e : upd g i v (17 * k + j) = g (17 * k + j) := if_neg (hi k j hk hj)
  rw [e]; exact h k j hk hj
theorem h_writeTo (oa o3 : Ob) (x : Int32) (h0 : 0 ≤ x.toInt) (h1 : x.toInt ≤ 15) (ha : IvX4 oa) (hg : AHok (gA o3 1)) : wp (f_X4_writeTo_AX5_1 oa o3 (x * (17 : Int32))) (fun y => AHok (gA y 1) ∧ gI y 2 = gI o3 2 ∧ gI y 3 = gI o3 3) := by
  have t : (x * (17 : Int32)).toInt = x.toInt * 17 := i32_mul rfl (by decide) (by omega) (by omega)
  generalize x * (17 : Int32) = q at t
  have t7 : (q + (7 : Int32)).toInt = q.toInt + 7 := i32_add rfl (by decide) (by omega) (by omega)
  have t17 : (q + (17 : Int32)).toInt = q.toInt + 17 := i32_add rfl (by decide) (by omega) (by omega)
  have u3 : ((q + (17 : Int32)) - (3 : Int32)).toInt = q.toInt + 17 - 3 := i32_sub t17 (by decide) (by omega) (by omega)
  have u2 : ((q + (17 : Int32)) - (2 : Int32)).toInt = q.toInt + 17 - 2 := i32_sub t17 (by decide) (by omega) (by omega)
  have u1 : ((q + (17 : Int32)) - (1 : Int32)).toInt = q.toInt + 17 - 1 := i32_sub t17 (by decide) (by omega) (by omega)
  obtain ⟨n, en⟩ : ∃ n : Nat, x.toInt = (n : Int) := ⟨x.toInt.toNat, by omega⟩
  have eq : q.toNatClampNeg = 17 * n := tnc_eq (by omega)
  have e7 : (q + (7 : Int32)).toNatClampNeg = 17 * n + 7 := tnc_eq (by omega)
  have f3 : ((q + (17 : Int32)) - (3 : Int32)).toNatClampNeg = 17 * n + 14 := tnc_eq (by omega)
  have f2 : ((q + (17 : Int32)) - (2 : Int32)).toNatClampNeg = 17 * n + 15 := tnc_eq (by omega)
  have f1 : ((q + (17 : Int32)) - (1 : Int32)).toNatClampNeg = 17 * n + 16 := tnc_eq (by omega)
  have n0 : (0 : Int32).toNatClampNeg = 0 := by decide
  have n7 : (7 : Int32).toNatClampNeg = 7 := by decide
  have z0 : (0 : Int32).toInt = 0 := by decide
  have z7 : (7 : Int32).toInt = 7 := by decide
  unfold f_X4_writeTo_AX5_1
  refine wp_if (fun c => ?_) (fun c => ?_)
  · exfalso; have c := cv_lt (a := q.toInt) (b := 0) rfl (by decide) c; omega
  refine wp_if (fun c => ?_) (fun c => ?_)
  rotate_left
  · exfalso; have c := cv_nle (a := q.toInt) (b := 255) rfl (by decide) c; omega
  refine wp_gd (zcp_of (m0 := 7) (m1 := 272) rfl rfl (by omega) (by omega) (by omega) (by omega) (by omega)) ?_
  refine wp_lt (fun o2 e2 => ?_)
  have g2 : AHok (gA o2 1) := by
    intro k j hk hj
    rw [e2]
    show 0 ≤ (va_cpy (gA oa 0) (gA o3 1) (0 : Int32).toNatClampNeg q.toNatClampNeg (7 : Int32).toNatClampNeg (17 * k + j)).toInt ∧ (va_cpy (gA oa 0) (gA o3 1) (0 : Int32).toNatClampNeg q.toNatClampNeg (7 : Int32).toNatClampNeg (17 * k + j)).toInt ≤ 9
    rw [n0, n7, eq]
    unfold va_cpy
    split
    · exact ha.1.1 _ (Nat.zero_le _) (by omega)
    · exact hg k j hk hj
  have i2 : gI o2 2 = gI o3 2 ∧ gI o2 3 = gI o3 3 := by rw [e2]; exact ⟨rfl, rfl⟩
  refine wp_gd (zcp_of (m0 := 7) (m1 := 272) rfl rfl (by omega) (by omega) (by omega) (by omega) (by omega)) ?_
  refine wp_lt (fun o4 e4 => ?_)
  have g4 : AHok (gA o4 1) := by
    intro k j hk hj
    rw [e4]
    show 0 ≤ (va_cpy (gA oa 1) (gA o2 1) (0 : Int32).toNatClampNeg (q + (7 : Int32)).toNatClampNeg (7 : Int32).toNatClampNeg (17 * k + j)).toInt ∧ (va_cpy (gA oa 1) (gA o2 1) (0 : Int32).toNatClampNeg (q + (7 : Int32)).toNatClampNeg (7 : Int32).toNatClampNeg (17 * k + j)).toInt ≤ 9
    rw [n0, n7, e7]
    unfold va_cpy
    rw [if_neg (by omega)]
    exact g2 k j hk hj
  have i4 : gI o4 2 = gI o3 2 ∧ gI o4 3 = gI o3 3 := by rw [e4]; exact i2
  refine wp_gd (zin_of (m := 272) rfl (by omega) (by omega)) ?_
  refine wp_lt (fun o6 e6 => ?_)
  have g6 : AHok (gA o6 1) := by rw [e6]; exact g4.up (fun k j hk hj => by rw [f3]; omega)
  have i6 : gI o6 2 = gI o3 2 ∧ gI o6 3 = gI o3 3 := by rw [e6]; exact i4
  refine wp_gd (zin_of (m := 272) rfl (by omega) (by omega)) ?_
  refine wp_lt (fun o8 e8 => ?_)
  have g8 : AHok (gA o8 1) := by rw [e8]; exact g6.up (fun k j hk hj => by rw [f2]; omega)
  have i8 : gI o8 2 = gI o3 2 ∧ gI o8 3 = gI o3 3 := by rw [e8]; exact i6
  refine wp_gd (zin_of (m := 272) rfl (by omega) (by omega)) ?_
  refine wp_lt (fun o10 e10 => ?_)
  refine wp_some ⟨by rw [e10]; exact g8.up (fun k j hk hj => by rw [f1]; omega), by rw [e10]; exact i8.1, by rw [e10]; exact i8.2⟩
theorem h_keep32 (oa o : Ob) (v1 : Int32) (ha : IvX4 oa) (hI : IvX5 o) (hs : (gI o 3).toInt ≤ 15) : wp (bk_X5_keep_O_32 oa v1 o) (fun y => IvX5 y) := by
  have h2 := hI.1
  have h3 := hI.2.1
  unfold bk_X5_keep_O_32
  have t : ((gI o 2) + (gI o 3)).toInt = (gI o 2).toInt + (gI o 3).toInt := i32_add rfl rfl (by omega) (by omega)
  have r := i32_rem (x := (gI o 2) + (gI o 3)) (y := 16) (m := 16) (by decide) (by decide) (by omega)
  refine wp_lt (fun x1 e1 => ?_)
  rw [← e1] at r
  refine wp_gd (zin_of (m := 16) rfl (by omega) (by omega)) ?_
  refine wp_lt (fun o3 e3 => ?_)
  have g3 : AHok (gA o3 1) := by rw [e3]; exact hI.2.2
  have i3 : gI o3 2 = gI o 2 ∧ gI o3 3 = gI o 3 := by rw [e3]; exact ⟨rfl, rfl⟩
  refine wp_bd (h_writeTo oa o3 x1 r.1 (by omega) ha g3) (fun z hz => ?_)
  refine wp_lt (fun o5 e5 => ?_)
  have k2 : gI z 2 = gI o 2 := hz.2.1.trans i3.1
  have k3 : gI z 3 = gI o 3 := hz.2.2.trans i3.2
  have t5 : ((gI z 3) + (1 : Int32)).toInt = (gI o 3).toInt + 1 := i32_add (by rw [k3]) (by decide) (by omega) (by omega)
  refine wp_some ?_
  rw [e5]
  refine ⟨?_, ?_, hz.1⟩
  · show 0 ≤ (gI z 2).toInt ∧ (gI z 2).toInt ≤ 15
    rw [k2]; exact h2
  · show 0 ≤ ((gI z 3) + (1 : Int32)).toInt ∧ ((gI z 3) + (1 : Int32)).toInt ≤ 16
    omega
set_option maxHeartbeats 4000000 in
set_option maxRecDepth 100000 in
theorem s_X5_keep_O (o_me : Ob) (o_a1 : Ob) (p0 : Int32) (hI_me : IvX5 o_me) (hI_a1 : IvX4 o_a1)  : wp (f_X5_keep_O   o_me o_a1 p0) (fun (y : Ob) => IvX5 y ∧ Kp [] [] [] o_me y) := by
  have h2 := hI_me.1
  have h3 := hI_me.2.1
  unfold f_X5_keep_O
  refine wp_if (fun c => ?_) (fun c => ?_)
  · have c := cv_eq (a := (gI o_me 3).toInt) (b := 16) rfl (by decide) c
    have t : ((gI o_me 2) + (1 : Int32)).toInt = (gI o_me 2).toInt + 1 := i32_add rfl (by decide) (by omega) (by omega)
    have r := i32_rem (x := (gI o_me 2) + (1 : Int32)) (y := 16) (m := 16) (by decide) (by decide) (by omega)
    refine wp_lt (fun o6 e6 => ?_)
    refine wp_lt (fun o7 e7 => ?_)
    have k3 : gI o6 3 = gI o_me 3 := by rw [e6]; rfl
    have t7 : ((gI o6 3) - (1 : Int32)).toInt = (gI o_me 3).toInt - 1 := i32_sub (by rw [k3]) (by decide) (by omega) (by omega)
    have q3 : (gI o7 3).toInt = (gI o_me 3).toInt - 1 := by rw [e7]; exact t7
    have q2 : 0 ≤ (gI o7 2).toInt ∧ (gI o7 2).toInt ≤ 15 := by
      rw [e7, e6]
      exact ⟨r.1, by have r2 := r.2; exact r2⟩
    have hI7 : IvX5 o7 := ⟨q2, ⟨by omega, by omega⟩, by rw [e7, e6]; exact hI_me.2.2⟩
    exact wp_mono (h_keep32 o_a1 o7 p0 hI_a1 hI7 (by omega)) (fun y hy => ⟨hy, Kp.nil⟩)
  · have c := cv_ne (a := (gI o_me 3).toInt) (b := 16) rfl (by decide) c
    exact wp_mono (h_keep32 o_a1 o_me p0 hI_a1 hI_me (by omega)) (fun y hy => ⟨hy, Kp.nil⟩)

set_option maxHeartbeats 4000000 in
set_option maxRecDepth 100000 in
theorem s_X1_moved_O (o_me : Ob) (o_me_isles : Ob) (o_me_isles_now : Ob) (o_me_machine : Ob) (o_pool : List CR) (o_a2 : Ob) (p0 : Int32) (p1 : Int32) (hI_me : IvX1 o_me) (hI_me_isles : IvX2 o_pool o_me_isles) (hI_me_isles_now : IvX4 o_me_isles_now) (hI_me_machine : IvX3 o_me_machine) (hI_pool : PLok o_pool) (hI_a2 : IvX5 o_a2)  : wp (f_X1_moved_O   o_me o_me_isles o_me_isles_now o_me_machine o_pool o_a2 p0 p1) (fun (y : Int32 × Ob × Ob × Ob × Ob) => IvX1 y.2.1 ∧ Kp [] [] [] o_me y.2.1 ∧ IvX4 y.2.2.1 ∧ Kp [] [] [] o_me_isles_now y.2.2.1 ∧ IvX3 y.2.2.2.1 ∧ Kp [] [] [] o_me_machine y.2.2.2.1 ∧ IvX5 y.2.2.2.2 ∧ Kp [] [] [] o_a2 y.2.2.2.2) := by
  unfold f_X1_moved_O
  refine wp_if (fun c1 => ?_) (fun c1 => ?_)
  · have c1 := cv_eq (a := p0.toInt) (b := 0) rfl (by decide) c1
    refine wp_bd (s_X8_isRace   p1    ) (fun z2 hz2 => ?_)
    obtain ⟨hz2_0, hz2_1⟩ := hz2
    refine wp_if (fun c3 => ?_) (fun c3 => ?_)
    · have c3 := cv_eq (a := z2.toInt) (b := 0) rfl (by decide) c3
      obtain ⟨w4, ew4⟩ : ∃ z : Int32, z = (-1 : Int32) := ⟨_, rfl⟩
      have tw4 : w4.toInt = (-1) := by rw [ew4]; decide
      rw [show bk_X1_moved_O_39 o_me_isles o_pool  p0 p1 (-1 : Int32) o_me o_me_isles_now o_me_machine o_a2 = bk_X1_moved_O_39 o_me_isles o_pool  p0 p1 w4 o_me o_me_isles_now o_me_machine o_a2 from by rw [ew4]]
      unfold bk_X1_moved_O_39
      unfold bk_X1_moved_O_118
      refine wp_if (fun c5 => ?_) (fun c5 => ?_)
      · have c5 := cv_eq (a := w4.toInt) (b := 0) rfl (by decide) c5
        exact absurd c5 (zne_l (k := (-1)) (l := 0) (Int.le_of_eq tw4) (by decide) (by decide))
      · refine wp_some ?_
        exact (show IvX1 o_me ∧ Kp [] [] [] o_me o_me ∧ IvX4 o_me_isles_now ∧ Kp [] [] [] o_me_isles_now o_me_isles_now ∧ IvX3 o_me_machine ∧ Kp [] [] [] o_me_machine o_me_machine ∧ IvX5 o_a2 ∧ Kp [] [] [] o_a2 o_a2 from ⟨hI_me, Kp.rf, hI_me_isles_now, Kp.rf, hI_me_machine, Kp.rf, hI_a2, Kp.rf⟩)
    · have c3i := hz2_1 c3
      refine wp_bd (s_X2_lawInForce   o_me_isles  hI_me_isles  ) (fun z6 hz6 => ?_)
      have hz6_0 := hz6
      refine wp_bd (s_X1_lineUp_Q   o_me o_me_isles o_me_isles_now o_me_machine o_pool z6 p1  hI_me hI_me_isles hI_me_isles_now hI_me_machine hI_pool hz6_0 ⟨c3i.1, c3i.2⟩) (fun z7 hz7 => ?_)
      obtain ⟨hz7_0, hz7_1, hz7_2, hz7_3, hz7_4⟩ := hz7
      have hkpz7_me : Kp [] [] [] o_me z7.2.1 := Kp.rf.trans (hz7_2.mono (by decide) (by decide) (by decide))
      have hkpz7_me_machine : Kp [] [] [] o_me_machine z7.2.2 := Kp.rf.trans (hz7_4.mono (by decide) (by decide) (by decide))
      refine wp_if (fun c8 => ?_) (fun c8 => ?_)
      · obtain ⟨w9, ew9⟩ : ∃ z : Int32, z = (-3 : Int32) := ⟨_, rfl⟩
        have tw9 : w9.toInt = (-3) := by rw [ew9]; decide
        rw [show bk_X1_moved_O_39 o_me_isles o_pool  p0 p1 (-3 : Int32) z7.2.1 o_me_isles_now z7.2.2 o_a2 = bk_X1_moved_O_39 o_me_isles o_pool  p0 p1 w9 z7.2.1 o_me_isles_now z7.2.2 o_a2 from by rw [ew9]]
        unfold bk_X1_moved_O_39
        unfold bk_X1_moved_O_118
        refine wp_if (fun c10 => ?_) (fun c10 => ?_)
        · have c10 := cv_eq (a := w9.toInt) (b := 0) rfl (by decide) c10
          exact absurd c10 (zne_l (k := (-3)) (l := 0) (Int.le_of_eq tw9) (by decide) (by decide))
        · refine wp_some ?_
          exact (show IvX1 z7.2.1 ∧ Kp [] [] [] o_me z7.2.1 ∧ IvX4 o_me_isles_now ∧ Kp [] [] [] o_me_isles_now o_me_isles_now ∧ IvX3 z7.2.2 ∧ Kp [] [] [] o_me_machine z7.2.2 ∧ IvX5 o_a2 ∧ Kp [] [] [] o_a2 o_a2 from ⟨hz7_1, hkpz7_me, hI_me_isles_now, Kp.rf, hz7_3, hkpz7_me_machine, hI_a2, Kp.rf⟩)
      · obtain ⟨w11, ew11⟩ : ∃ z : Int32, z = (0 : Int32) := ⟨_, rfl⟩
        have tw11 : w11.toInt = 0 := by rw [ew11]; decide
        rw [show bk_X1_moved_O_39 o_me_isles o_pool  p0 p1 (0 : Int32) z7.2.1 o_me_isles_now z7.2.2 o_a2 = bk_X1_moved_O_39 o_me_isles o_pool  p0 p1 w11 z7.2.1 o_me_isles_now z7.2.2 o_a2 from by rw [ew11]]
        unfold bk_X1_moved_O_39
        unfold bk_X1_moved_O_118
        refine wp_if (fun c12 => ?_) (fun c12 => ?_)
        · have c12 := cv_eq (a := w11.toInt) (b := 0) rfl (by decide) c12
          refine wp_bd (s_X5_keep_O   o_a2 o_me_isles_now p0  hI_a2 hI_me_isles_now  ) (fun z13 hz13 => ?_)
          obtain ⟨hz13_0, hz13_1⟩ := hz13
          have hkpz13_a2 : Kp [] [] [] o_a2 z13 := Kp.rf.trans (hz13_1.mono (by decide) (by decide) (by decide))
          unfold bk_X1_moved_O_142
          refine wp_if (fun c14 => ?_) (fun c14 => ?_)
          · refine wp_bd (s_X1_heldRace   z7.2.1 o_me_isles o_me_isles_now z7.2.2 o_pool p1  hz7_1 hI_me_isles hI_me_isles_now hz7_3 hI_pool  ⟨c3i.1, c3i.2⟩) (fun z15 hz15 => ?_)
            obtain ⟨hz15_0, hz15_1, hz15_2, hz15_3, hz15_4⟩ := hz15
            have hkpz15_me_isles_now : Kp [] [] [] o_me_isles_now z15.2.1 := Kp.rf.trans (hz15_2.mono (by decide) (by decide) (by decide))
            have hkpz15_me_machine : Kp [] [] [] o_me_machine z15.2.2 := hkpz7_me_machine.trans (hz15_4.mono (by decide) (by decide) (by decide))
            refine wp_some ?_
            exact (show IvX1 z7.2.1 ∧ Kp [] [] [] o_me z7.2.1 ∧ IvX4 z15.2.1 ∧ Kp [] [] [] o_me_isles_now z15.2.1 ∧ IvX3 z15.2.2 ∧ Kp [] [] [] o_me_machine z15.2.2 ∧ IvX5 z13 ∧ Kp [] [] [] o_a2 z13 from ⟨hz7_1, hkpz7_me, hz15_1, hkpz15_me_isles_now, hz15_3, hkpz15_me_machine, hz13_0, hkpz13_a2⟩)
          refine wp_if (fun c16 => ?_) (fun c16 => ?_)
          · have c16 := cv_eq (a := p0.toInt) (b := 1) rfl (by decide) c16
            exact absurd c16 (zne_l (k := 0) (l := 1) (Int.le_of_eq c1) (by decide) (by decide))
          refine wp_if (fun c17 => ?_) (fun c17 => ?_)
          · have c17 := cv_eq (a := p0.toInt) (b := 2) rfl (by decide) c17
            exact absurd c17 (zne_l (k := 0) (l := 2) (Int.le_of_eq c1) (by decide) (by decide))
          refine wp_bd (s_X1_passedYear   z7.2.1 o_me_isles o_me_isles_now z7.2.2 o_pool  hz7_1 hI_me_isles hI_me_isles_now hz7_3 hI_pool  ) (fun z18 hz18 => ?_)
          obtain ⟨hz18_0, hz18_1, hz18_2, hz18_3, hz18_4⟩ := hz18
          have hkpz18_me_isles_now : Kp [] [] [] o_me_isles_now z18.2.1 := Kp.rf.trans (hz18_2.mono (by decide) (by decide) (by decide))
          have hkpz18_me_machine : Kp [] [] [] o_me_machine z18.2.2 := hkpz7_me_machine.trans (hz18_4.mono (by decide) (by decide) (by decide))
          refine wp_some ?_
          exact (show IvX1 z7.2.1 ∧ Kp [] [] [] o_me z7.2.1 ∧ IvX4 z18.2.1 ∧ Kp [] [] [] o_me_isles_now z18.2.1 ∧ IvX3 z18.2.2 ∧ Kp [] [] [] o_me_machine z18.2.2 ∧ IvX5 z13 ∧ Kp [] [] [] o_a2 z13 from ⟨hz7_1, hkpz7_me, hz18_1, hkpz18_me_isles_now, hz18_3, hkpz18_me_machine, hz13_0, hkpz13_a2⟩)
        · have c12 := cv_ne (a := w11.toInt) (b := 0) rfl (by decide) c12
          exact absurd (Int.le_antisymm (Int.le_of_eq tw11) (Int.le_of_eq tw11.symm)) c12
  · have c1 := cv_ne (a := p0.toInt) (b := 0) rfl (by decide) c1
    refine wp_if (fun c19 => ?_) (fun c19 => ?_)
    · have c19 := cv_eq (a := p0.toInt) (b := 3) rfl (by decide) c19
      refine wp_if (fun c20 => ?_) (fun c20 => ?_)
      · obtain ⟨w21, ew21⟩ : ∃ z : Int32, z = (0 : Int32) := ⟨_, rfl⟩
        have tw21 : w21.toInt = 0 := by rw [ew21]; decide
        rw [show bk_X1_moved_O_71 o_me_isles o_pool  p0 p1 (0 : Int32) o_me o_me_isles_now o_me_machine o_a2 = bk_X1_moved_O_71 o_me_isles o_pool  p0 p1 w21 o_me o_me_isles_now o_me_machine o_a2 from by rw [ew21]]
        unfold bk_X1_moved_O_71
        unfold bk_X1_moved_O_118
        refine wp_if (fun c22 => ?_) (fun c22 => ?_)
        · have c22 := cv_eq (a := w21.toInt) (b := 0) rfl (by decide) c22
          refine wp_bd (s_X5_keep_O   o_a2 o_me_isles_now p0  hI_a2 hI_me_isles_now  ) (fun z23 hz23 => ?_)
          obtain ⟨hz23_0, hz23_1⟩ := hz23
          have hkpz23_a2 : Kp [] [] [] o_a2 z23 := Kp.rf.trans (hz23_1.mono (by decide) (by decide) (by decide))
          unfold bk_X1_moved_O_142
          refine wp_if (fun c24 => ?_) (fun c24 => ?_)
          · have c24 := cv_eq (a := p0.toInt) (b := 0) rfl (by decide) c24
            exact absurd c24 c1
          refine wp_if (fun c25 => ?_) (fun c25 => ?_)
          · have c25 := cv_eq (a := p0.toInt) (b := 1) rfl (by decide) c25
            exact absurd c25 (zne_r (k := 1) (l := 3) (by decide) (Int.le_of_eq c19.symm) (by decide))
          refine wp_if (fun c26 => ?_) (fun c26 => ?_)
          · have c26 := cv_eq (a := p0.toInt) (b := 2) rfl (by decide) c26
            exact absurd c26 (zne_r (k := 2) (l := 3) (by decide) (Int.le_of_eq c19.symm) (by decide))
          refine wp_bd (s_X1_passedYear   o_me o_me_isles o_me_isles_now o_me_machine o_pool  hI_me hI_me_isles hI_me_isles_now hI_me_machine hI_pool  ) (fun z27 hz27 => ?_)
          obtain ⟨hz27_0, hz27_1, hz27_2, hz27_3, hz27_4⟩ := hz27
          have hkpz27_me_isles_now : Kp [] [] [] o_me_isles_now z27.2.1 := Kp.rf.trans (hz27_2.mono (by decide) (by decide) (by decide))
          have hkpz27_me_machine : Kp [] [] [] o_me_machine z27.2.2 := Kp.rf.trans (hz27_4.mono (by decide) (by decide) (by decide))
          refine wp_some ?_
          exact (show IvX1 o_me ∧ Kp [] [] [] o_me o_me ∧ IvX4 z27.2.1 ∧ Kp [] [] [] o_me_isles_now z27.2.1 ∧ IvX3 z27.2.2 ∧ Kp [] [] [] o_me_machine z27.2.2 ∧ IvX5 z23 ∧ Kp [] [] [] o_a2 z23 from ⟨hI_me, Kp.rf, hz27_1, hkpz27_me_isles_now, hz27_3, hkpz27_me_machine, hz23_0, hkpz23_a2⟩)
        · have c22 := cv_ne (a := w21.toInt) (b := 0) rfl (by decide) c22
          exact absurd (Int.le_antisymm (Int.le_of_eq tw21) (Int.le_of_eq tw21.symm)) c22
      · obtain ⟨w28, ew28⟩ : ∃ z : Int32, z = (-3 : Int32) := ⟨_, rfl⟩
        have tw28 : w28.toInt = (-3) := by rw [ew28]; decide
        rw [show bk_X1_moved_O_71 o_me_isles o_pool  p0 p1 (-3 : Int32) o_me o_me_isles_now o_me_machine o_a2 = bk_X1_moved_O_71 o_me_isles o_pool  p0 p1 w28 o_me o_me_isles_now o_me_machine o_a2 from by rw [ew28]]
        unfold bk_X1_moved_O_71
        unfold bk_X1_moved_O_118
        refine wp_if (fun c29 => ?_) (fun c29 => ?_)
        · have c29 := cv_eq (a := w28.toInt) (b := 0) rfl (by decide) c29
          exact absurd c29 (zne_l (k := (-3)) (l := 0) (Int.le_of_eq tw28) (by decide) (by decide))
        · refine wp_some ?_
          exact (show IvX1 o_me ∧ Kp [] [] [] o_me o_me ∧ IvX4 o_me_isles_now ∧ Kp [] [] [] o_me_isles_now o_me_isles_now ∧ IvX3 o_me_machine ∧ Kp [] [] [] o_me_machine o_me_machine ∧ IvX5 o_a2 ∧ Kp [] [] [] o_a2 o_a2 from ⟨hI_me, Kp.rf, hI_me_isles_now, Kp.rf, hI_me_machine, Kp.rf, hI_a2, Kp.rf⟩)
    · refine wp_bd (s_X2_isPerson   o_me_isles p1  hI_me_isles  ) (fun z30 hz30 => ?_)
      obtain ⟨hz30_0, hz30_1⟩ := hz30
      refine wp_if (fun c31 => ?_) (fun c31 => ?_)
      · have c31 := cv_eq (a := z30.toInt) (b := 0) rfl (by decide) c31
        obtain ⟨w32, ew32⟩ : ∃ z : Int32, z = (-2 : Int32) := ⟨_, rfl⟩
        have tw32 : w32.toInt = (-2) := by rw [ew32]; decide
        rw [show bk_X1_moved_O_116 o_me_isles o_pool  p0 p1 (-2 : Int32) o_me o_me_isles_now o_me_machine o_a2 = bk_X1_moved_O_116 o_me_isles o_pool  p0 p1 w32 o_me o_me_isles_now o_me_machine o_a2 from by rw [ew32]]
        unfold bk_X1_moved_O_116
        unfold bk_X1_moved_O_118
        refine wp_if (fun c33 => ?_) (fun c33 => ?_)
        · have c33 := cv_eq (a := w32.toInt) (b := 0) rfl (by decide) c33
          exact absurd c33 (zne_l (k := (-2)) (l := 0) (Int.le_of_eq tw32) (by decide) (by decide))
        · refine wp_some ?_
          exact (show IvX1 o_me ∧ Kp [] [] [] o_me o_me ∧ IvX4 o_me_isles_now ∧ Kp [] [] [] o_me_isles_now o_me_isles_now ∧ IvX3 o_me_machine ∧ Kp [] [] [] o_me_machine o_me_machine ∧ IvX5 o_a2 ∧ Kp [] [] [] o_a2 o_a2 from ⟨hI_me, Kp.rf, hI_me_isles_now, Kp.rf, hI_me_machine, Kp.rf, hI_a2, Kp.rf⟩)
      · have c31i := hz30_1 c31
        refine wp_if (fun c34 => ?_) (fun c34 => ?_)
        · have c34 := cv_eq (a := p0.toInt) (b := 2) rfl (by decide) c34
          refine wp_if (fun c35 => ?_) (fun c35 => ?_)
          · obtain ⟨w36, ew36⟩ : ∃ z : Int32, z = (-3 : Int32) := ⟨_, rfl⟩
            have tw36 : w36.toInt = (-3) := by rw [ew36]; decide
            rw [show bk_X1_moved_O_116 o_me_isles o_pool  p0 p1 (-3 : Int32) o_me o_me_isles_now o_me_machine o_a2 = bk_X1_moved_O_116 o_me_isles o_pool  p0 p1 w36 o_me o_me_isles_now o_me_machine o_a2 from by rw [ew36]]
            unfold bk_X1_moved_O_116
            unfold bk_X1_moved_O_118
            refine wp_if (fun c37 => ?_) (fun c37 => ?_)
            · have c37 := cv_eq (a := w36.toInt) (b := 0) rfl (by decide) c37
              exact absurd c37 (zne_l (k := (-3)) (l := 0) (Int.le_of_eq tw36) (by decide) (by decide))
            · refine wp_some ?_
              exact (show IvX1 o_me ∧ Kp [] [] [] o_me o_me ∧ IvX4 o_me_isles_now ∧ Kp [] [] [] o_me_isles_now o_me_isles_now ∧ IvX3 o_me_machine ∧ Kp [] [] [] o_me_machine o_me_machine ∧ IvX5 o_a2 ∧ Kp [] [] [] o_a2 o_a2 from ⟨hI_me, Kp.rf, hI_me_isles_now, Kp.rf, hI_me_machine, Kp.rf, hI_a2, Kp.rf⟩)
          · unfold bk_X1_moved_O_115
            obtain ⟨w38, ew38⟩ : ∃ z : Int32, z = (0 : Int32) := ⟨_, rfl⟩
            have tw38 : w38.toInt = 0 := by rw [ew38]; decide
            rw [show bk_X1_moved_O_116 o_me_isles o_pool  p0 p1 (0 : Int32) o_me o_me_isles_now o_me_machine o_a2 = bk_X1_moved_O_116 o_me_isles o_pool  p0 p1 w38 o_me o_me_isles_now o_me_machine o_a2 from by rw [ew38]]
            unfold bk_X1_moved_O_116
            unfold bk_X1_moved_O_118
            refine wp_if (fun c39 => ?_) (fun c39 => ?_)
            · have c39 := cv_eq (a := w38.toInt) (b := 0) rfl (by decide) c39
              refine wp_bd (s_X5_keep_O   o_a2 o_me_isles_now p0  hI_a2 hI_me_isles_now  ) (fun z40 hz40 => ?_)
              obtain ⟨hz40_0, hz40_1⟩ := hz40
              have hkpz40_a2 : Kp [] [] [] o_a2 z40 := Kp.rf.trans (hz40_1.mono (by decide) (by decide) (by decide))
              unfold bk_X1_moved_O_142
              refine wp_if (fun c41 => ?_) (fun c41 => ?_)
              · have c41 := cv_eq (a := p0.toInt) (b := 0) rfl (by decide) c41
                exact absurd c41 c1
              refine wp_if (fun c42 => ?_) (fun c42 => ?_)
              · have c42 := cv_eq (a := p0.toInt) (b := 1) rfl (by decide) c42
                exact absurd c42 (zne_r (k := 1) (l := 2) (by decide) (Int.le_of_eq c34.symm) (by decide))
              refine wp_if (fun c43 => ?_) (fun c43 => ?_)
              · refine wp_bd (s_X1_takenGap   o_me o_me_isles o_me_isles_now p1  hI_me hI_me_isles hI_me_isles_now  ⟨c31i.1.1, c31i.1.2⟩) (fun z44 hz44 => ?_)
                obtain ⟨hz44_0, hz44_1⟩ := hz44
                have hkpz44_me_isles_now : Kp [] [] [] o_me_isles_now z44.2 := Kp.rf.trans (hz44_1.mono (by decide) (by decide) (by decide))
                refine wp_some ?_
                exact (show IvX1 o_me ∧ Kp [] [] [] o_me o_me ∧ IvX4 z44.2 ∧ Kp [] [] [] o_me_isles_now z44.2 ∧ IvX3 o_me_machine ∧ Kp [] [] [] o_me_machine o_me_machine ∧ IvX5 z40 ∧ Kp [] [] [] o_a2 z40 from ⟨hI_me, Kp.rf, hz44_0, hkpz44_me_isles_now, hI_me_machine, Kp.rf, hz40_0, hkpz40_a2⟩)
              refine wp_bd (s_X1_passedYear   o_me o_me_isles o_me_isles_now o_me_machine o_pool  hI_me hI_me_isles hI_me_isles_now hI_me_machine hI_pool  ) (fun z45 hz45 => ?_)
              obtain ⟨hz45_0, hz45_1, hz45_2, hz45_3, hz45_4⟩ := hz45
              have hkpz45_me_isles_now : Kp [] [] [] o_me_isles_now z45.2.1 := Kp.rf.trans (hz45_2.mono (by decide) (by decide) (by decide))
              have hkpz45_me_machine : Kp [] [] [] o_me_machine z45.2.2 := Kp.rf.trans (hz45_4.mono (by decide) (by decide) (by decide))
              refine wp_some ?_
              exact (show IvX1 o_me ∧ Kp [] [] [] o_me o_me ∧ IvX4 z45.2.1 ∧ Kp [] [] [] o_me_isles_now z45.2.1 ∧ IvX3 z45.2.2 ∧ Kp [] [] [] o_me_machine z45.2.2 ∧ IvX5 z40 ∧ Kp [] [] [] o_a2 z40 from ⟨hI_me, Kp.rf, hz45_1, hkpz45_me_isles_now, hz45_3, hkpz45_me_machine, hz40_0, hkpz40_a2⟩)
            · have c39 := cv_ne (a := w38.toInt) (b := 0) rfl (by decide) c39
              exact absurd (Int.le_antisymm (Int.le_of_eq tw38) (Int.le_of_eq tw38.symm)) c39
        · have c34 := cv_ne (a := p0.toInt) (b := 2) rfl (by decide) c34
          unfold bk_X1_moved_O_115
          obtain ⟨w47, ew47⟩ : ∃ z : Int32, z = (0 : Int32) := ⟨_, rfl⟩
          have tw47 : w47.toInt = 0 := by rw [ew47]; decide
          rw [show bk_X1_moved_O_116 o_me_isles o_pool  p0 p1 (0 : Int32) o_me o_me_isles_now o_me_machine o_a2 = bk_X1_moved_O_116 o_me_isles o_pool  p0 p1 w47 o_me o_me_isles_now o_me_machine o_a2 from by rw [ew47]]
          unfold bk_X1_moved_O_116
          unfold bk_X1_moved_O_118
          refine wp_if (fun c48 => ?_) (fun c48 => ?_)
          · have c48 := cv_eq (a := w47.toInt) (b := 0) rfl (by decide) c48
            refine wp_bd (s_X5_keep_O   o_a2 o_me_isles_now p0  hI_a2 hI_me_isles_now  ) (fun z49 hz49 => ?_)
            obtain ⟨hz49_0, hz49_1⟩ := hz49
            have hkpz49_a2 : Kp [] [] [] o_a2 z49 := Kp.rf.trans (hz49_1.mono (by decide) (by decide) (by decide))
            unfold bk_X1_moved_O_142
            refine wp_if (fun c50 => ?_) (fun c50 => ?_)
            · have c50 := cv_eq (a := p0.toInt) (b := 0) rfl (by decide) c50
              exact absurd c50 c1
            refine wp_if (fun c51 => ?_) (fun c51 => ?_)
            · refine wp_bd (s_X1_changedEntry   o_me o_me_isles o_me_isles_now p1  hI_me hI_me_isles hI_me_isles_now  ⟨c31i.1.1, c31i.1.2⟩) (fun z52 hz52 => ?_)
              obtain ⟨hz52_0, hz52_1, hz52_2⟩ := hz52
              have hkpz52_me_isles_now : Kp [] [] [] o_me_isles_now z52.2 := Kp.rf.trans (hz52_2.mono (by decide) (by decide) (by decide))
              refine wp_some ?_
              exact (show IvX1 o_me ∧ Kp [] [] [] o_me o_me ∧ IvX4 z52.2 ∧ Kp [] [] [] o_me_isles_now z52.2 ∧ IvX3 o_me_machine ∧ Kp [] [] [] o_me_machine o_me_machine ∧ IvX5 z49 ∧ Kp [] [] [] o_a2 z49 from ⟨hI_me, Kp.rf, hz52_1, hkpz52_me_isles_now, hI_me_machine, Kp.rf, hz49_0, hkpz49_a2⟩)
            refine wp_if (fun c53 => ?_) (fun c53 => ?_)
            · have c53 := cv_eq (a := p0.toInt) (b := 2) rfl (by decide) c53
              exact absurd c53 c34
            refine wp_bd (s_X1_passedYear   o_me o_me_isles o_me_isles_now o_me_machine o_pool  hI_me hI_me_isles hI_me_isles_now hI_me_machine hI_pool  ) (fun z54 hz54 => ?_)
            obtain ⟨hz54_0, hz54_1, hz54_2, hz54_3, hz54_4⟩ := hz54
            have hkpz54_me_isles_now : Kp [] [] [] o_me_isles_now z54.2.1 := Kp.rf.trans (hz54_2.mono (by decide) (by decide) (by decide))
            have hkpz54_me_machine : Kp [] [] [] o_me_machine z54.2.2 := Kp.rf.trans (hz54_4.mono (by decide) (by decide) (by decide))
            refine wp_some ?_
            exact (show IvX1 o_me ∧ Kp [] [] [] o_me o_me ∧ IvX4 z54.2.1 ∧ Kp [] [] [] o_me_isles_now z54.2.1 ∧ IvX3 z54.2.2 ∧ Kp [] [] [] o_me_machine z54.2.2 ∧ IvX5 z49 ∧ Kp [] [] [] o_a2 z49 from ⟨hI_me, Kp.rf, hz54_1, hkpz54_me_isles_now, hz54_3, hkpz54_me_machine, hz49_0, hkpz49_a2⟩)
          · have c48 := cv_ne (a := w47.toInt) (b := 0) rfl (by decide) c48
            exact absurd (Int.le_antisymm (Int.le_of_eq tw47) (Int.le_of_eq tw47.symm)) c48

set_option maxHeartbeats 4000000 in
set_option maxRecDepth 100000 in
theorem s_X8_answer {rI : Nat → Option Nat} (o_me : Ob) (p0 : Int32) (hI_me : IvX8 rI o_me)  : wp (f_X8_answer   o_me p0) (fun (y : Int32 × Ob) => IvX8 rI y.2 ∧ Kp [13, 14, 15, 16] [] [] o_me y.2) := by
  unfold f_X8_answer
  refine wp_if (fun c1 => ?_) (fun c1 => ?_)
  · refine wp_bd (s_X8_grant   o_me p0  hI_me  ) (fun z2 hz2 => ?_)
    obtain ⟨hz2_0, hz2_1⟩ := hz2
    have hkpz2_me : Kp [13, 14, 15, 16] [] [] o_me z2.2 := Kp.rf.trans (hz2_1.mono (by decide) (by decide) (by decide))
    refine wp_some ?_
    exact (show IvX8 rI z2.2 ∧ Kp [13, 14, 15, 16] [] [] o_me z2.2 from ⟨hz2_0, hkpz2_me⟩)
  · refine wp_bd (s_X8_refuse   o_me p0  hI_me  ) (fun z3 hz3 => ?_)
    obtain ⟨hz3_0, hz3_1⟩ := hz3
    have hkpz3_me : Kp [13, 14, 15, 16] [] [] o_me z3.2 := Kp.rf.trans (hz3_1.mono (by decide) (by decide) (by decide))
    refine wp_some ?_
    exact (show IvX8 rI z3.2 ∧ Kp [13, 14, 15, 16] [] [] o_me z3.2 from ⟨hz3_0, hkpz3_me⟩)

set_option maxHeartbeats 4000000 in
set_option maxRecDepth 100000 in
theorem s_X8_enter {rI : Nat → Option Nat} (o_me : Ob) (o_me_machine : Ob) (o_me_isles : Ob) (o_me_isles_now : Ob) (o_me_court : Ob) (o_me_past : Ob) (o_pool : List CR) (p0 : Int32) (hI_me : IvX8 rI o_me) (hI_me_machine : IvX3 o_me_machine) (hI_me_isles : IvX2 o_pool o_me_isles) (hI_me_isles_now : IvX4 o_me_isles_now) (hI_me_court : IvX1 o_me_court) (hI_me_past : IvX5 o_me_past) (hI_pool : PLok o_pool)  : wp (f_X8_enter   o_me o_me_machine o_me_isles o_me_isles_now o_me_court o_me_past o_pool p0) (fun (y : Int32 × Ob × Ob × Ob × Ob × Ob) => IvX8 rI y.2.1 ∧ Kp [13, 14, 15, 16] [] [] o_me y.2.1 ∧ IvX3 y.2.2.1 ∧ Kp [] [] [] o_me_machine y.2.2.1 ∧ IvX4 y.2.2.2.1 ∧ Kp [] [] [] o_me_isles_now y.2.2.2.1 ∧ IvX1 y.2.2.2.2.1 ∧ Kp [] [] [] o_me_court y.2.2.2.2.1 ∧ IvX5 y.2.2.2.2.2 ∧ Kp [] [] [] o_me_past y.2.2.2.2.2) := by
  unfold f_X8_enter
  refine wp_bd (s_X1_moved_O   o_me_court o_me_isles o_me_isles_now o_me_machine o_pool o_me_past (1 : Int32) p0  hI_me_court hI_me_isles hI_me_isles_now hI_me_machine hI_pool hI_me_past  ) (fun z1 hz1 => ?_)
  obtain ⟨hz1_0, hz1_1, hz1_2, hz1_3, hz1_4, hz1_5, hz1_6, hz1_7⟩ := hz1
  have hkpz1_me_court : Kp [] [] [] o_me_court z1.2.1 := Kp.rf.trans (hz1_1.mono (by decide) (by decide) (by decide))
  have hkpz1_me_isles_now : Kp [] [] [] o_me_isles_now z1.2.2.1 := Kp.rf.trans (hz1_3.mono (by decide) (by decide) (by decide))
  have hkpz1_me_machine : Kp [] [] [] o_me_machine z1.2.2.2.1 := Kp.rf.trans (hz1_5.mono (by decide) (by decide) (by decide))
  have hkpz1_me_past : Kp [] [] [] o_me_past z1.2.2.2.2 := Kp.rf.trans (hz1_7.mono (by decide) (by decide) (by decide))
  refine wp_bd (s_X8_answer   o_me z1.1  hI_me  ) (fun z2 hz2 => ?_)
  obtain ⟨hz2_0, hz2_1⟩ := hz2
  have hkpz2_me : Kp [13, 14, 15, 16] [] [] o_me z2.2 := Kp.rf.trans (hz2_1.mono (by decide) (by decide) (by decide))
  refine wp_some ?_
  exact (show IvX8 rI z2.2 ∧ Kp [13, 14, 15, 16] [] [] o_me z2.2 ∧ IvX3 z1.2.2.2.1 ∧ Kp [] [] [] o_me_machine z1.2.2.2.1 ∧ IvX4 z1.2.2.1 ∧ Kp [] [] [] o_me_isles_now z1.2.2.1 ∧ IvX1 z1.2.1 ∧ Kp [] [] [] o_me_court z1.2.1 ∧ IvX5 z1.2.2.2.2 ∧ Kp [] [] [] o_me_past z1.2.2.2.2 from ⟨hz2_0, hkpz2_me, hz1_4, hkpz1_me_machine, hz1_2, hkpz1_me_isles_now, hz1_0, hkpz1_me_court, hz1_6, hkpz1_me_past⟩)

set_option maxHeartbeats 4000000 in
set_option maxRecDepth 100000 in
theorem s_X8_fault {rI : Nat → Option Nat} (o_me : Ob) (o_me_reader : Ob) (hI_me : IvX8 rI o_me) (hI_me_reader : IvX6 o_me_reader)  : wp (f_X8_fault   o_me o_me_reader) (fun (y : Int32) => True) := by
  unfold f_X8_fault
  refine wp_some ?_
  exact trivial

set_option maxHeartbeats 4000000 in
set_option maxRecDepth 100000 in
theorem s_X6_hasRoom (o_me : Ob) (p0 : Int32) (hI_me : IvX6 o_me)  : wp (f_X6_hasRoom   o_me p0) (fun (y : Int32) => (0 ≤ y.toInt ∧ y.toInt ≤ 1)) := by
  unfold f_X6_hasRoom
  refine wp_if (fun c2 => ?_) (fun c2 => ?_)
  · refine wp_some ?_
    exact (show (0 ≤ (0 : Int32).toInt ∧ (0 : Int32).toInt ≤ 1) from ⟨by decide, by decide⟩)
  · refine wp_some ?_
    exact (show (0 ≤ (1 : Int32).toInt ∧ (1 : Int32).toInt ≤ 1) from ⟨by decide, by decide⟩)

set_option maxHeartbeats 4000000 in
set_option maxRecDepth 100000 in
theorem s_X6_addNumber (o_me : Ob) (p0 : Int32) (hI_me : IvX6 o_me)  : wp (f_X6_addNumber   o_me p0) (fun (y : Ob) => IvX6 y ∧ Kp [3, 4, 5, 6, 7, 8] [] [] o_me y) := by
  unfold f_X6_addNumber
  have lp1 : ∀ (N1 : Nat) (v1_1 : Int32) (v2_1 : Int32) (o_me_1 : Ob), IvX6 o_me_1 → Kp [3, 4, 5, 6, 7, 8] [] [] o_me o_me_1 → ((-8) ≤ v2_1.toInt ∧ v2_1.toInt ≤ 24) → (v2_1.toInt - (-8)).toNat < N1 → wp (lp_X6_addNumber_3   N1 (v1_1, v2_1, o_me_1)) (fun (y : Ob) => IvX6 y ∧ Kp [3, 4, 5, 6, 7, 8] [] [] o_me y) := by
    intro N1
    induction N1 with
    | zero =>
      intro v1_1 v2_1 o_me_1 hI_me_1 hkp_me_1 hh1 hN1
      exact absurd hN1 (Nat.not_lt_zero _)
    | succ N1 ihx =>
      have ih1 := ihx
      intro v1_1 v2_1 o_me_1 hI_me_1 hkp_me_1 hh1 hN1
      show wp (lb_X6_addNumber_3   (lp_X6_addNumber_3   N1) v1_1 v2_1 o_me_1) (fun (y : Ob) => IvX6 y ∧ Kp [3, 4, 5, 6, 7, 8] [] [] o_me y)
      unfold lb_X6_addNumber_3
      refine wp_if (fun c2 => ?_) (fun c2 => ?_)
      · have c2 := cv_lt (a := v2_1.toInt) (b := 0) rfl (by decide) c2
        refine wp_some ?_
        exact (show IvX6 o_me_1 ∧ Kp [3, 4, 5, 6, 7, 8] [] [] o_me o_me_1 from ⟨hI_me_1, hkp_me_1⟩)
      · have c2 := cv_nlt (a := v2_1.toInt) (b := 0) rfl (by decide) c2
        have t3 := igX6_2 hI_me_1
        refine wp_if (fun c4 => ?_) (fun c4 => ?_)
        · have c4 := cv_ge (a := (gI o_me_1 2).toInt) (b := 400) rfl (by decide) c4
          unfold bk_X6_addNumber_43
          refine wp_lt (fun x5 ex5 => ?_)
          have tx5 : x5.toInt = v2_1.toInt + (-8) := by rw [ex5]; exact i32_add rfl (by decide) (zk_l c2 (by decide)) (zk_u hh1.2 (by decide))
          exact ih1 v1_1 x5 o_me_1 hI_me_1 hkp_me_1 ⟨(zl_e (zq_r (c := 8) tx5 (by decide)) c2 (by decide)), (zu_e (Int.le_of_eq tx5) hh1.2 (by decide))⟩ (zms_d (c := (-7)) hN1 (zd_w (Int.le_of_eq tx5) (by decide)) (Int.le_trans (by decide) c2) (by decide))
        · have c4 := cv_nge (a := (gI o_me_1 2).toInt) (b := 400) rfl (by decide) c4
          refine wp_gd (zin_of (m := 400) rfl t3.1 (zlt_m (c := 399) (zlt_u (c := 399) c4 (by decide)) (by decide))) ?_
          refine wp_lt (fun o7 eo7 => ?_)
          have hIo7 : IvX6 o7 := by rw [eo7]; exact hI_me_1
          have ko7_k8 : (gI o7 2).toInt = (gI o_me_1 2).toInt := by rw [eo7]; rfl
          have hkpo7 : Kp [3, 4, 5, 6, 7, 8] [] [] o_me o7 := hkp_me_1.trans (by rw [eo7]; exact Kp.tA (by decide) (by decide))
          have t9 : ((gI o7 2) + (1 : Int32)).toInt = (gI o7 2).toInt + 1 := i32_add rfl (by decide) (zk_l (zl_e (k := 0) (zq_0 ko7_k8.symm) t3.1 (by decide)) (by decide)) (zk_u (zu_e (k := 399) (zq_0 ko7_k8) (zlt_u (c := 399) c4 (by decide)) (by decide)) (by decide))
          refine wp_lt (fun o10 eo10 => ?_)
          have hIo10 : IvX6 o10 := by rw [eo10]; exact ipX6_2 hIo7 ⟨(zl_e (zd_e (c := (-1)) (zq_0 ko7_k8.symm) (zq_r (c := (-1)) t9 (by decide)) (by decide)) t3.1 (by decide)), (zu_e (zd_e (c := 1) (Int.le_of_eq t9) (zq_0 ko7_k8) (by decide)) (zlt_u (c := 399) c4 (by decide)) (by decide))⟩
          have hkpo10 : Kp [3, 4, 5, 6, 7, 8] [] [] o_me o10 := hkpo7.trans (by rw [eo10]; exact Kp.sI (by decide))
          unfold bk_X6_addNumber_43
          refine wp_lt (fun x12 ex12 => ?_)
          have tx12 : x12.toInt = v2_1.toInt + (-8) := by rw [ex12]; exact i32_add rfl (by decide) (zk_l c2 (by decide)) (zk_u hh1.2 (by decide))
          exact ih1 v1_1 x12 o10 hIo10 hkpo10 ⟨(zl_e (zq_r (c := 8) tx12 (by decide)) c2 (by decide)), (zu_e (Int.le_of_eq tx12) hh1.2 (by decide))⟩ (zms_d (c := (-7)) hN1 (zd_w (Int.le_of_eq tx12) (by decide)) (Int.le_trans (by decide) c2) (by decide))
  exact lp1 zfu p0 (24 : Int32) o_me hI_me Kp.rf ⟨by decide, by decide⟩ (zme_d (u := 24) (Int.le_of_eq tz24) (by decide))

set_option maxHeartbeats 4000000 in
set_option maxRecDepth 100000 in
theorem s_X8_feed {rI : Nat → Option Nat} (o_me : Ob) (o_me_reader : Ob) (p0 : Int32) (p1 : Int32) (p2 : Int32) (p3 : Int32) (p4 : Int32) (hI_me : IvX8 rI o_me) (hI_me_reader : IvX6 o_me_reader)  : wp (f_X8_feed   o_me o_me_reader p0 p1 p2 p3 p4) (fun (y : Int32 × Ob) => ((-1) ≤ y.1.toInt ∧ y.1.toInt ≤ 400) ∧ IvX6 y.2 ∧ Kp [3, 4, 5, 6, 7, 8] [] [] o_me_reader y.2) := by
  unfold f_X8_feed
  refine wp_bd (s_X6_hasRoom   o_me_reader (20 : Int32)  hI_me_reader  ) (fun z1 hz1 => ?_)
  refine wp_if (fun c2 => ?_) (fun c2 => ?_)
  · refine wp_some ?_
    exact (show ((-1) ≤ (-1 : Int32).toInt ∧ (-1 : Int32).toInt ≤ 400) ∧ IvX6 o_me_reader ∧ Kp [3, 4, 5, 6, 7, 8] [] [] o_me_reader o_me_reader from ⟨⟨by decide, by decide⟩, hI_me_reader, Kp.rf⟩)
  · refine wp_bd (s_X6_addNumber   o_me_reader p0  hI_me_reader  ) (fun z3 hz3 => ?_)
    obtain ⟨hz3_0, hz3_1⟩ := hz3
    have hkpz3_me_reader : Kp [3, 4, 5, 6, 7, 8] [] [] o_me_reader z3 := Kp.rf.trans (hz3_1.mono (by decide) (by decide) (by decide))
    refine wp_bd (s_X6_addNumber   z3 p1  hz3_0  ) (fun z4 hz4 => ?_)
    obtain ⟨hz4_0, hz4_1⟩ := hz4
    have hkpz4_me_reader : Kp [3, 4, 5, 6, 7, 8] [] [] o_me_reader z4 := hkpz3_me_reader.trans (hz4_1.mono (by decide) (by decide) (by decide))
    refine wp_bd (s_X6_addNumber   z4 p2  hz4_0  ) (fun z5 hz5 => ?_)
    obtain ⟨hz5_0, hz5_1⟩ := hz5
    have hkpz5_me_reader : Kp [3, 4, 5, 6, 7, 8] [] [] o_me_reader z5 := hkpz4_me_reader.trans (hz5_1.mono (by decide) (by decide) (by decide))
    refine wp_bd (s_X6_addNumber   z5 p3  hz5_0  ) (fun z6 hz6 => ?_)
    obtain ⟨hz6_0, hz6_1⟩ := hz6
    have hkpz6_me_reader : Kp [3, 4, 5, 6, 7, 8] [] [] o_me_reader z6 := hkpz5_me_reader.trans (hz6_1.mono (by decide) (by decide) (by decide))
    refine wp_bd (s_X6_addNumber   z6 p4  hz6_0  ) (fun z7 hz7 => ?_)
    obtain ⟨hz7_0, hz7_1⟩ := hz7
    have hkpz7_me_reader : Kp [3, 4, 5, 6, 7, 8] [] [] o_me_reader z7 := hkpz6_me_reader.trans (hz7_1.mono (by decide) (by decide) (by decide))
    have t8 := igX6_2 hz7_0
    refine wp_some ?_
    exact (show ((-1) ≤ (gI z7 2).toInt ∧ (gI z7 2).toInt ≤ 400) ∧ IvX6 z7 ∧ Kp [3, 4, 5, 6, 7, 8] [] [] o_me_reader z7 from ⟨⟨(Int.le_trans (by decide) t8.1), t8.2⟩, hz7_0, hkpz7_me_reader⟩)

set_option maxHeartbeats 4000000 in
set_option maxRecDepth 100000 in
theorem s_J7_fill_d0a16_AX7_8 (o_a0 : Ob) (p1 : Int64) (hI_a0 : IvX7 o_a0)  : wp (f_J7_fill_d0a16_AX7_8   o_a0 p1) (fun (y : Ob) => IvX7 y ∧ Kp [] [2, 3] [] o_a0 y) := by
  unfold f_J7_fill_d0a16_AX7_8
  have lp1 : ∀ (N1 : Nat) (v1_1 : Int64) (v3_1 : Int32) (v4_1 : Int32) (o_a0_1 : Ob), IvX7 o_a0_1 → Kp [] [2, 3] [] o_a0 o_a0_1 → (0 ≤ v3_1.toInt ∧ v3_1.toInt ≤ 20) → (20 ≤ v4_1.toInt ∧ v4_1.toInt ≤ 20) → (20 - v3_1.toInt).toNat < N1 → wp (lp_J7_fill_d0a16_AX7_8_6   N1 (v1_1, v3_1, v4_1, o_a0_1)) (fun (y : Ob) => IvX7 y ∧ Kp [] [2, 3] [] o_a0 y) := by
    intro N1
    induction N1 with
    | zero =>
      intro v1_1 v3_1 v4_1 o_a0_1 hI_a0_1 hkp_a0_1 hh1 hh2 hN1
      exact absurd hN1 (Nat.not_lt_zero _)
    | succ N1 ihx =>
      have ih1 := ihx
      intro v1_1 v3_1 v4_1 o_a0_1 hI_a0_1 hkp_a0_1 hh1 hh2 hN1
      show wp (lb_J7_fill_d0a16_AX7_8_6   (lp_J7_fill_d0a16_AX7_8_6   N1) v1_1 v3_1 v4_1 o_a0_1) (fun (y : Ob) => IvX7 y ∧ Kp [] [2, 3] [] o_a0 y)
      unfold lb_J7_fill_d0a16_AX7_8_6
      refine wp_if (fun c3 => ?_) (fun c3 => ?_)
      · have c3 := cv_ge (a := v3_1.toInt) (b := v4_1.toInt) rfl rfl c3
        refine wp_some ?_
        exact (show IvX7 o_a0_1 ∧ Kp [] [2, 3] [] o_a0 o_a0_1 from ⟨hI_a0_1, hkp_a0_1⟩)
      · have c3 := cv_nge (a := v3_1.toInt) (b := v4_1.toInt) rfl rfl c3
        refine wp_gd (zin_of (m := 20) rfl hh1.1 (zlt_m (c := 19) (zu_e (zl_d c3) hh2.2 (by decide)) (by decide))) ?_
        refine wp_lt (fun o4 eo4 => ?_)
        have hIo4 : IvX7 o4 := by rw [eo4]; exact hI_a0_1
        have hkpo4 : Kp [] [2, 3] [] o_a0 o4 := hkp_a0_1.trans (by rw [eo4]; exact Kp.tM)
        refine wp_lt (fun x5 ex5 => ?_)
        have tx5 : x5.toInt = v3_1.toInt + 1 := by rw [ex5]; exact i32_add rfl (by decide) (zk_l hh1.1 (by decide)) (zk_u (zu_e (k := 19) (zl_d c3) hh2.2 (by decide)) (by decide))
        exact ih1 v1_1 x5 v4_1 o4 hIo4 hkpo4 ⟨(zl_e (zq_r (c := (-1)) tx5 (by decide)) hh1.1 (by decide)), (zu_e (zd_e (c := 0) (Int.le_of_eq tx5) (zl_d c3) (by decide)) hh2.2 (by decide))⟩ ⟨hh2.1, hh2.2⟩ (zms_u (c := 19) hN1 (zq_r (c := (-1)) tx5 (by decide)) (zu_e (zl_d c3) hh2.2 (by decide)) (by decide))
  exact lp1 zfu p1 (0 : Int32) (20 : Int32) o_a0 hI_a0 Kp.rf ⟨by decide, by decide⟩ ⟨by decide, by decide⟩ (zme_u (l := 0) (Int.le_of_eq tz0.symm) (by decide))

set_option maxHeartbeats 4000000 in
set_option maxRecDepth 100000 in
theorem s_X7_chanceOfFewer {pl : List CR} (o_me : Ob) (o_me_court_isles : Ob) (p0 : Int32) (p1 : Int32) (hI_me : IvX7 o_me) (hI_me_court_isles : IvX2 pl o_me_court_isles) (q0 : 1 ≤ p0.toInt ∧ p0.toInt ≤ 20) (q1 : 0 ≤ p1.toInt ∧ p1.toInt ≤ 99) : wp (f_X7_chanceOfFewer   o_me o_me_court_isles p0 p1) (fun (y : Int64 × Ob) => IvX7 y.2 ∧ Kp [] [2, 3] [] o_me y.2) := by
  unfold f_X7_chanceOfFewer
  refine wp_bd (s_J7_fill_d0a16_AX7_8   o_me (0 : Int64)  hI_me  ) (fun z1 hz1 => ?_)
  obtain ⟨hz1_0, hz1_1⟩ := hz1
  have hkpz1_me : Kp [] [2, 3] [] o_me z1 := Kp.rf.trans (hz1_1.mono (by decide) (by decide) (by decide))
  refine wp_lt (fun o2 eo2 => ?_)
  have hIo2 : IvX7 o2 := by rw [eo2]; exact hz1_0
  have hkpo2 : Kp [] [2, 3] [] o_me o2 := hkpz1_me.trans (by rw [eo2]; exact Kp.tM)
  have t3 : 1 ≤ (if (20 : Int32) < p0 then (20 : Int32) else p0).toInt ∧ (if (20 : Int32) < p0 then (20 : Int32) else p0).toInt ≤ 20 := z_min (a := p0.toInt) (b := 20) rfl (by decide) ⟨q0.1, (by decide)⟩ (Or.inl q0.2)
  refine wp_lt (fun x5 ex5 => ?_)
  have tx5 : x5.toInt = (if (20 : Int32) < p0 then (20 : Int32) else p0).toInt := by rw [ex5]
  have lp1 : ∀ (N1 : Nat) (v2_1 : Int32) (v3_1 : Int32) (v4_1 : Int32) (o_me_1 : Ob), IvX7 o_me_1 → Kp [] [2, 3] [] o_me o_me_1 → (0 ≤ v2_1.toInt ∧ v2_1.toInt ≤ 99) → (1 ≤ v3_1.toInt ∧ v3_1.toInt ≤ 20) → (0 ≤ v4_1.toInt ∧ v4_1.toInt ≤ 99) → (99 - v4_1.toInt).toNat < N1 → wp (lp_X7_chanceOfFewer_27 o_me_court_isles  N1 (v2_1, v3_1, v4_1, o_me_1)) (fun (y : Int64 × Ob) => IvX7 y.2 ∧ Kp [] [2, 3] [] o_me y.2) := by
    intro N1
    induction N1 with
    | zero =>
      intro v2_1 v3_1 v4_1 o_me_1 hI_me_1 hkp_me_1 hh6 hh7 hh8 hN1
      exact absurd hN1 (Nat.not_lt_zero _)
    | succ N1 ihx =>
      have ih1 := ihx
      intro v2_1 v3_1 v4_1 o_me_1 hI_me_1 hkp_me_1 hh6 hh7 hh8 hN1
      show wp (lb_X7_chanceOfFewer_27 o_me_court_isles  (lp_X7_chanceOfFewer_27 o_me_court_isles  N1) v2_1 v3_1 v4_1 o_me_1) (fun (y : Int64 × Ob) => IvX7 y.2 ∧ Kp [] [2, 3] [] o_me y.2)
      unfold lb_X7_chanceOfFewer_27
      refine wp_if (fun c9 => ?_) (fun c9 => ?_)
      · have c9 := cv_ge (a := v4_1.toInt) (b := v2_1.toInt) rfl rfl c9
        have lp2 : ∀ (N2 : Nat) (v3_2 : Int32) (v4_2 : Int64) (v6_2 : Int32) (o_me_2 : Ob), IvX7 o_me_2 → Kp [] [2, 3] [] o_me o_me_2 → (1 ≤ v3_2.toInt ∧ v3_2.toInt ≤ 20) → (0 ≤ v6_2.toInt ∧ v6_2.toInt ≤ 20) → (20 - v6_2.toInt).toNat < N2 → wp (lp_X7_chanceOfFewer_127 o_me_court_isles  N2 (v3_2, v4_2, v6_2, o_me_2)) (fun (y : Int64 × Ob) => IvX7 y.2 ∧ Kp [] [2, 3] [] o_me y.2) := by
          intro N2
          induction N2 with
          | zero =>
            intro v3_2 v4_2 v6_2 o_me_2 hI_me_2 hkp_me_2 hh10 hh11 hN2
            exact absurd hN2 (Nat.not_lt_zero _)
          | succ N2 ihx =>
            have ih2 := ihx
            intro v3_2 v4_2 v6_2 o_me_2 hI_me_2 hkp_me_2 hh10 hh11 hN2
            show wp (lb_X7_chanceOfFewer_127 o_me_court_isles  (lp_X7_chanceOfFewer_127 o_me_court_isles  N2) v3_2 v4_2 v6_2 o_me_2) (fun (y : Int64 × Ob) => IvX7 y.2 ∧ Kp [] [2, 3] [] o_me y.2)
            unfold lb_X7_chanceOfFewer_127
            refine wp_if (fun c12 => ?_) (fun c12 => ?_)
            · have c12 := cv_ge (a := v6_2.toInt) (b := v3_2.toInt) rfl rfl c12
              refine wp_some ?_
              exact (show IvX7 o_me_2 ∧ Kp [] [2, 3] [] o_me o_me_2 from ⟨hI_me_2, hkp_me_2⟩)
            · have c12 := cv_nge (a := v6_2.toInt) (b := v3_2.toInt) rfl rfl c12
              refine wp_gd (zin_of (m := 20) rfl hh11.1 (zlt_m (c := 19) (zu_e (zl_d c12) hh10.2 (by decide)) (by decide))) ?_
              refine wp_lt (fun x13 ex13 => ?_)
              refine wp_lt (fun x14 ex14 => ?_)
              have tx14 : x14.toInt = v6_2.toInt + 1 := by rw [ex14]; exact i32_add rfl (by decide) (zk_l hh11.1 (by decide)) (zk_u (zu_e (k := 19) (zl_d c12) hh10.2 (by decide)) (by decide))
              exact ih2 v3_2 x13 x14 o_me_2 hI_me_2 hkp_me_2 ⟨hh10.1, hh10.2⟩ ⟨(zl_e (zq_r (c := (-1)) tx14 (by decide)) hh11.1 (by decide)), (zu_e (zd_e (c := 0) (Int.le_of_eq tx14) (zl_d c12) (by decide)) hh10.2 (by decide))⟩ (zms_u (c := 19) hN2 (zq_r (c := (-1)) tx14 (by decide)) (zu_e (zl_d c12) hh10.2 (by decide)) (by decide))
        exact lp2 zfu v3_1 (0 : Int64) (0 : Int32) o_me_1 hI_me_1 hkp_me_1 ⟨hh7.1, hh7.2⟩ ⟨by decide, by decide⟩ (zme_u (l := 0) (Int.le_of_eq tz0.symm) (by decide))
      · have c9 := cv_nge (a := v4_1.toInt) (b := v2_1.toInt) rfl rfl c9
        have t15 : (v3_1 - (1 : Int32)).toInt = v3_1.toInt - 1 := i32_sub rfl (by decide) (zs_l hh7.1 (by decide)) (zs_u hh7.2 (by decide))
        refine wp_lt (fun x16 ex16 => ?_)
        have tx16 : x16.toInt = (v3_1 - (1 : Int32)).toInt := by rw [ex16]
        have lp3 : ∀ (N3 : Nat) (v2_3 : Int32) (v3_3 : Int32) (v4_3 : Int32) (v5_3 : Int32) (o_me_3 : Ob), IvX7 o_me_3 → Kp [] [2, 3] [] o_me o_me_3 → (1 ≤ v2_3.toInt ∧ v2_3.toInt ≤ 99) → (1 ≤ v3_3.toInt ∧ v3_3.toInt ≤ 20) → (0 ≤ v4_3.toInt ∧ v4_3.toInt ≤ 98) → ((-1) ≤ v5_3.toInt ∧ v5_3.toInt ≤ 19) → (v4_1.toInt ≤ v4_3.toInt + 0) → (v5_3.toInt - (-1)).toNat < N3 → wp (lp_X7_chanceOfFewer_38 o_me_court_isles (lp_X7_chanceOfFewer_27 o_me_court_isles  N1) N3 (v2_3, v3_3, v4_3, v5_3, o_me_3)) (fun (y : Int64 × Ob) => IvX7 y.2 ∧ Kp [] [2, 3] [] o_me y.2) := by
          intro N3
          induction N3 with
          | zero =>
            intro v2_3 v3_3 v4_3 v5_3 o_me_3 hI_me_3 hkp_me_3 hh17 hh18 hh19 hh20 hh21 hN3
            exact absurd hN3 (Nat.not_lt_zero _)
          | succ N3 ihx =>
            have ih3 := ihx
            intro v2_3 v3_3 v4_3 v5_3 o_me_3 hI_me_3 hkp_me_3 hh17 hh18 hh19 hh20 hh21 hN3
            show wp (lb_X7_chanceOfFewer_38 o_me_court_isles (lp_X7_chanceOfFewer_27 o_me_court_isles  N1) (lp_X7_chanceOfFewer_38 o_me_court_isles (lp_X7_chanceOfFewer_27 o_me_court_isles  N1) N3) v2_3 v3_3 v4_3 v5_3 o_me_3) (fun (y : Int64 × Ob) => IvX7 y.2 ∧ Kp [] [2, 3] [] o_me y.2)
            unfold lb_X7_chanceOfFewer_38
            refine wp_if (fun c22 => ?_) (fun c22 => ?_)
            · have c22 := cv_lt (a := v5_3.toInt) (b := 0) rfl (by decide) c22
              refine wp_lt (fun x23 ex23 => ?_)
              have tx23 : x23.toInt = v4_3.toInt + 1 := by rw [ex23]; exact i32_add rfl (by decide) (zk_l hh19.1 (by decide)) (zk_u hh19.2 (by decide))
              exact ih1 v2_3 v3_3 x23 o_me_3 hI_me_3 hkp_me_3 ⟨(Int.le_trans (by decide) hh17.1), hh17.2⟩ ⟨hh18.1, hh18.2⟩ ⟨(zl_e (zq_r (c := (-1)) tx23 (by decide)) hh19.1 (by decide)), (zu_e (Int.le_of_eq tx23) hh19.2 (by decide))⟩ (zms_u (c := 98) hN1 (zd_e (c := (-1)) hh21 (zq_r (c := (-1)) tx23 (by decide)) (by decide)) (zu_e (zl_d c9) hh6.2 (by decide)) (by decide))
            · have c22 := cv_nlt (a := v5_3.toInt) (b := 0) rfl (by decide) c22
              refine wp_if (fun c24 => ?_) (fun c24 => ?_)
              · have c24 := cv_le (a := v5_3.toInt) (b := 0) rfl (by decide) c24
                obtain ⟨w25, ew25⟩ : ∃ z : Int64, z = (0 : Int64) := ⟨_, rfl⟩
                rw [show bk_X7_chanceOfFewer_74 o_me_court_isles (lp_X7_chanceOfFewer_27 o_me_court_isles  N1) (lp_X7_chanceOfFewer_38 o_me_court_isles (lp_X7_chanceOfFewer_27 o_me_court_isles  N1) N3) v2_3 v3_3 v4_3 v5_3 (0 : Int64) o_me_3 = bk_X7_chanceOfFewer_74 o_me_court_isles (lp_X7_chanceOfFewer_27 o_me_court_isles  N1) (lp_X7_chanceOfFewer_38 o_me_court_isles (lp_X7_chanceOfFewer_27 o_me_court_isles  N1) N3) v2_3 v3_3 v4_3 v5_3 w25 o_me_3 from by rw [ew25]]
                unfold bk_X7_chanceOfFewer_74
                refine wp_gd (zin_of (m := 20) rfl c22 (zlt_m (c := 19) hh20.2 (by decide))) ?_
                refine wp_gd (zin_of (m := 20) rfl c22 (zlt_m (c := 19) hh20.2 (by decide))) ?_
                refine wp_lt (fun o28 eo28 => ?_)
                have hIo28 : IvX7 o28 := by rw [eo28]; exact hI_me_3
                have hkpo28 : Kp [] [2, 3] [] o_me o28 := hkp_me_3.trans (by rw [eo28]; exact Kp.tM)
                refine wp_lt (fun x29 ex29 => ?_)
                have tx29 : x29.toInt = v5_3.toInt + (-1) := by rw [ex29]; exact i32_add rfl (by decide) (zk_l c22 (by decide)) (zk_u c24 (by decide))
                exact ih3 v2_3 v3_3 v4_3 x29 o28 hIo28 hkpo28 ⟨hh17.1, hh17.2⟩ ⟨hh18.1, hh18.2⟩ ⟨hh19.1, hh19.2⟩ ⟨(zl_e (zq_r (c := 1) tx29 (by decide)) c22 (by decide)), (zu_e (Int.le_of_eq tx29) hh20.2 (by decide))⟩ hh21 (zms_d (c := 0) hN3 (Int.le_of_eq tx29) c22 (by decide))
              · have c24 := cv_nle (a := v5_3.toInt) (b := 0) rfl (by decide) c24
                have t30 : (v5_3 - (1 : Int32)).toInt = v5_3.toInt - 1 := i32_sub rfl (by decide) (zs_l (zlt_l (c := 1) c24 (by decide)) (by decide)) (zs_u hh20.2 (by decide))
                refine wp_gd (zin_of (m := 20) rfl (zl_e (zq_t (c := 1) t30 (by decide)) (zlt_l (c := 1) c24 (by decide)) (by decide)) (zlt_m (c := 19) (zu_e (zq_s (c := (-1)) t30 (by decide)) hh20.2 (by decide)) (by decide))) ?_
                obtain ⟨w33, ew33⟩ : ∃ z : Int64, z = ((gM o_me_3 8 (v5_3 - (1 : Int32)).toNatClampNeg) * ((gI o_me_court_isles 11).toInt64)) / (10 : Int64) := ⟨_, rfl⟩
                rw [show bk_X7_chanceOfFewer_74 o_me_court_isles (lp_X7_chanceOfFewer_27 o_me_court_isles  N1) (lp_X7_chanceOfFewer_38 o_me_court_isles (lp_X7_chanceOfFewer_27 o_me_court_isles  N1) N3) v2_3 v3_3 v4_3 v5_3 (((gM o_me_3 8 (v5_3 - (1 : Int32)).toNatClampNeg) * ((gI o_me_court_isles 11).toInt64)) / (10 : Int64)) o_me_3 = bk_X7_chanceOfFewer_74 o_me_court_isles (lp_X7_chanceOfFewer_27 o_me_court_isles  N1) (lp_X7_chanceOfFewer_38 o_me_court_isles (lp_X7_chanceOfFewer_27 o_me_court_isles  N1) N3) v2_3 v3_3 v4_3 v5_3 w33 o_me_3 from by rw [ew33]]
                unfold bk_X7_chanceOfFewer_74
                refine wp_gd (zin_of (m := 20) rfl c22 (zlt_m (c := 19) hh20.2 (by decide))) ?_
                refine wp_gd (zin_of (m := 20) rfl c22 (zlt_m (c := 19) hh20.2 (by decide))) ?_
                refine wp_lt (fun o36 eo36 => ?_)
                have hIo36 : IvX7 o36 := by rw [eo36]; exact hI_me_3
                have hkpo36 : Kp [] [2, 3] [] o_me o36 := hkp_me_3.trans (by rw [eo36]; exact Kp.tM)
                refine wp_lt (fun x37 ex37 => ?_)
                have tx37 : x37.toInt = v5_3.toInt + (-1) := by rw [ex37]; exact i32_add rfl (by decide) (zk_l (zlt_l (c := 1) c24 (by decide)) (by decide)) (zk_u hh20.2 (by decide))
                exact ih3 v2_3 v3_3 v4_3 x37 o36 hIo36 hkpo36 ⟨hh17.1, hh17.2⟩ ⟨hh18.1, hh18.2⟩ ⟨hh19.1, hh19.2⟩ ⟨(zl_e (zq_r (c := 1) tx37 (by decide)) c22 (by decide)), (zu_e (Int.le_of_eq tx37) hh20.2 (by decide))⟩ hh21 (zms_d (c := 0) hN3 (Int.le_of_eq tx37) c22 (by decide))
        exact lp3 zfu v2_1 v3_1 v4_1 x16 o_me_1 hI_me_1 hkp_me_1 ⟨(zl_e (zl_d c9) hh8.1 (by decide)), hh6.2⟩ ⟨hh7.1, hh7.2⟩ ⟨hh8.1, (zu_e (zl_d c9) hh6.2 (by decide))⟩ ⟨(zl_e (zd_e (c := 1) (zq_t (c := 1) t15 (by decide)) (zq_0 tx16.symm) (by decide)) hh7.1 (by decide)), (zu_e (zd_e (c := (-1)) (zq_0 tx16) (zq_s (c := (-1)) t15 (by decide)) (by decide)) hh7.2 (by decide))⟩ (zd_r (by decide)) (zme_d (u := 19) (zu_e (k := 19) (zd_e (c := (-1)) (zq_0 tx16) (zq_s (c := (-1)) t15 (by decide)) (by decide)) hh7.2 (by decide)) (by decide))
  exact lp1 zfu p1 x5 (0 : Int32) o2 hIo2 hkpo2 ⟨q1.1, q1.2⟩ ⟨(zl_e (zq_0 tx5.symm) t3.1 (by decide)), (zu_e (zq_0 tx5) t3.2 (by decide))⟩ ⟨by decide, by decide⟩ (zme_u (l := 0) (Int.le_of_eq tz0.symm) (by decide))

set_option maxHeartbeats 4000000 in
set_option maxRecDepth 100000 in
theorem s_X8_few {pl : List CR} {rI : Nat → Option Nat} (o_me : Ob) (o_me_isles : Ob) (o_me_study : Ob) (p0 : Int32) (p1 : Int32) (hI_me : IvX8 rI o_me) (hI_me_isles : IvX2 pl o_me_isles) (hI_me_study : IvX7 o_me_study)  : wp (f_X8_few   o_me o_me_isles o_me_study p0 p1) (fun (y : Int64 × Ob) => IvX7 y.2 ∧ Kp [] [2, 3] [] o_me_study y.2) := by
  unfold f_X8_few
  refine wp_if (fun c1 => ?_) (fun c1 => ?_)
  · have c1 := cv_lt (a := p0.toInt) (b := 1) rfl (by decide) c1
    refine wp_some ?_
    exact (show IvX7 o_me_study ∧ Kp [] [2, 3] [] o_me_study o_me_study from ⟨hI_me_study, Kp.rf⟩)
  · have c1 := cv_nlt (a := p0.toInt) (b := 1) rfl (by decide) c1
    refine wp_if (fun c2 => ?_) (fun c2 => ?_)
    · have c2 := cv_gt (a := p0.toInt) (b := 20) rfl (by decide) c2
      refine wp_some ?_
      exact (show IvX7 o_me_study ∧ Kp [] [2, 3] [] o_me_study o_me_study from ⟨hI_me_study, Kp.rf⟩)
    · have c2 := cv_ngt (a := p0.toInt) (b := 20) rfl (by decide) c2
      refine wp_if (fun c3 => ?_) (fun c3 => ?_)
      · have c3 := cv_lt (a := p1.toInt) (b := 0) rfl (by decide) c3
        refine wp_some ?_
        exact (show IvX7 o_me_study ∧ Kp [] [2, 3] [] o_me_study o_me_study from ⟨hI_me_study, Kp.rf⟩)
      · have c3 := cv_nlt (a := p1.toInt) (b := 0) rfl (by decide) c3
        refine wp_if (fun c4 => ?_) (fun c4 => ?_)
        · have c4 := cv_le (a := p1.toInt) (b := 99) rfl (by decide) c4
          refine wp_bd (s_X7_chanceOfFewer   o_me_study o_me_isles p0 p1  hI_me_study hI_me_isles  ⟨c1, c2⟩ ⟨c3, c4⟩) (fun z5 hz5 => ?_)
          obtain ⟨hz5_0, hz5_1⟩ := hz5
          have hkpz5_me_study : Kp [] [2, 3] [] o_me_study z5.2 := Kp.rf.trans (hz5_1.mono (by decide) (by decide) (by decide))
          refine wp_some ?_
          exact (show IvX7 z5.2 ∧ Kp [] [2, 3] [] o_me_study z5.2 from ⟨hz5_0, hkpz5_me_study⟩)
        · refine wp_some ?_
          exact (show IvX7 o_me_study ∧ Kp [] [2, 3] [] o_me_study o_me_study from ⟨hI_me_study, Kp.rf⟩)

set_option maxHeartbeats 4000000 in
set_option maxRecDepth 100000 in
theorem s_X8_force {pl : List CR} {rI : Nat → Option Nat} (o_me : Ob) (o_me_isles : Ob) (p0 : Int32) (hI_me : IvX8 rI o_me) (hI_me_isles : IvX2 pl o_me_isles)  : wp (f_X8_force   o_me o_me_isles p0) (fun (y : Int32 × Ob × Ob) => IvX8 rI y.2.1 ∧ Kp [13, 14, 15, 16] [] [] o_me y.2.1 ∧ IvX2 pl y.2.2 ∧ Kp [7, 8, 9, 11, 12] [1, 2, 3, 4, 5] [] o_me_isles y.2.2) := by
  unfold f_X8_force
  refine wp_if (fun c1 => ?_) (fun c1 => ?_)
  · have c1 := cv_eq (a := p0.toInt) (b := (-1)) rfl (by decide) c1
    unfold bk_X8_force_23
    refine wp_lt (fun x3 ex3 => ?_)
    refine wp_lt (fun o4 eo4 => ?_)
    have hIo4 : IvX2 pl o4 := by rw [eo4]; exact ipX2_10 hI_me_isles ⟨(Int.le_of_eq c1.symm), (Int.le_trans (Int.le_of_eq c1) (by decide))⟩
    have hkpo4 : Kp [7, 8, 9, 11, 12] [1, 2, 3, 4, 5] [] o_me_isles o4 := Kp.rf.trans (by rw [eo4]; exact Kp.sI (by decide))
    refine wp_bd (s_X8_grant   o_me x3  hI_me  ) (fun z5 hz5 => ?_)
    obtain ⟨hz5_0, hz5_1⟩ := hz5
    have hkpz5_me : Kp [13, 14, 15, 16] [] [] o_me z5.2 := Kp.rf.trans (hz5_1.mono (by decide) (by decide) (by decide))
    refine wp_some ?_
    exact (show IvX8 rI z5.2 ∧ Kp [13, 14, 15, 16] [] [] o_me z5.2 ∧ IvX2 pl o4 ∧ Kp [7, 8, 9, 11, 12] [1, 2, 3, 4, 5] [] o_me_isles o4 from ⟨hz5_0, hkpz5_me, hIo4, hkpo4⟩)
  · refine wp_bd (s_X2_isLaw   o_me_isles p0  hI_me_isles  ) (fun z6 hz6 => ?_)
    obtain ⟨hz6_0, hz6_1⟩ := hz6
    refine wp_if (fun c7 => ?_) (fun c7 => ?_)
    · have c7 := cv_eq (a := z6.toInt) (b := 0) rfl (by decide) c7
      refine wp_bd (s_X8_refuse   o_me (-2 : Int32)  hI_me  ) (fun z8 hz8 => ?_)
      obtain ⟨hz8_0, hz8_1⟩ := hz8
      have hkpz8_me : Kp [13, 14, 15, 16] [] [] o_me z8.2 := Kp.rf.trans (hz8_1.mono (by decide) (by decide) (by decide))
      refine wp_some ?_
      exact (show IvX8 rI z8.2 ∧ Kp [13, 14, 15, 16] [] [] o_me z8.2 ∧ IvX2 pl o_me_isles ∧ Kp [7, 8, 9, 11, 12] [1, 2, 3, 4, 5] [] o_me_isles o_me_isles from ⟨hz8_0, hkpz8_me, hI_me_isles, Kp.rf⟩)
    · have c7i := hz6_1 c7
      unfold bk_X8_force_23
      refine wp_lt (fun x10 ex10 => ?_)
      refine wp_lt (fun o11 eo11 => ?_)
      have hIo11 : IvX2 pl o11 := by rw [eo11]; exact ipX2_10 hI_me_isles ⟨(Int.le_trans (by decide) c7i.1.1), c7i.1.2⟩
      have hkpo11 : Kp [7, 8, 9, 11, 12] [1, 2, 3, 4, 5] [] o_me_isles o11 := Kp.rf.trans (by rw [eo11]; exact Kp.sI (by decide))
      refine wp_bd (s_X8_grant   o_me x10  hI_me  ) (fun z13 hz13 => ?_)
      obtain ⟨hz13_0, hz13_1⟩ := hz13
      have hkpz13_me : Kp [13, 14, 15, 16] [] [] o_me z13.2 := Kp.rf.trans (hz13_1.mono (by decide) (by decide) (by decide))
      refine wp_some ?_
      exact (show IvX8 rI z13.2 ∧ Kp [13, 14, 15, 16] [] [] o_me z13.2 ∧ IvX2 pl o11 ∧ Kp [7, 8, 9, 11, 12] [1, 2, 3, 4, 5] [] o_me_isles o11 from ⟨hz13_0, hkpz13_me, hIo11, hkpo11⟩)

set_option maxHeartbeats 4000000 in
set_option maxRecDepth 100000 in
theorem s_X8_forget {pl : List CR} {rI : Nat → Option Nat} (o_me : Ob) (o_me_isles : Ob) (hI_me : IvX8 rI o_me) (hI_me_isles : IvX2 pl o_me_isles)  : wp (f_X8_forget   o_me o_me_isles) (fun (y : Int32 × Ob) => (0 ≤ y.1.toInt ∧ y.1.toInt ≤ 6) ∧ IvX2 pl y.2 ∧ Kp [7, 9, 10, 11, 12] [1, 2, 3, 4, 5] [] o_me_isles y.2) := by
  unfold f_X8_forget
  have t1 := igX2_8 hI_me_isles
  refine wp_lt (fun x2 ex2 => ?_)
  have tx2 : x2.toInt = (gI o_me_isles 8).toInt := by rw [ex2]
  refine wp_lt (fun o3 eo3 => ?_)
  have hIo3 : IvX2 pl o3 := by rw [eo3]; exact ipX2_8 hI_me_isles ⟨by decide, by decide⟩
  have hkpo3 : Kp [7, 9, 10, 11, 12] [1, 2, 3, 4, 5] [] o_me_isles o3 := Kp.rf.trans (by rw [eo3]; exact Kp.sI (by decide))
  refine wp_some ?_
  exact (show (0 ≤ x2.toInt ∧ x2.toInt ≤ 6) ∧ IvX2 pl o3 ∧ Kp [7, 9, 10, 11, 12] [1, 2, 3, 4, 5] [] o_me_isles o3 from ⟨⟨(zl_e (zq_0 tx2.symm) t1.1 (by decide)), (zu_e (zq_0 tx2) t1.2 (by decide))⟩, hIo3, hkpo3⟩)

set_option maxHeartbeats 4000000 in
set_option maxRecDepth 100000 in
theorem s_X7_awaitChildren {pl : List CR} (o_me : Ob) (o_me_court_isles : Ob) (p0 : Int32) (p1 : Int32) (hI_me : IvX7 o_me) (hI_me_court_isles : IvX2 pl o_me_court_isles) (q0 : (-1) ≤ p0.toInt ∧ p0.toInt ≤ 6) (q1 : 0 ≤ p1.toInt ∧ p1.toInt ≤ 7) : wp (f_X7_awaitChildren   o_me o_me_court_isles p0 p1) (fun (y : Int32 × Ob) => (0 ≤ y.1.toInt ∧ y.1.toInt ≤ 7) ∧ IvX7 y.2 ∧ Kp [] [2] [] o_me y.2) := by
  unfold f_X7_awaitChildren
  have t1 := igX2_7 hI_me_court_isles
  have t2 : ((gI o_me_court_isles 7) - (1 : Int32)).toInt = (gI o_me_court_isles 7).toInt - 1 := i32_sub rfl (by decide) (zs_l t1.1 (by decide)) (zs_u t1.2 (by decide))
  refine wp_lt (fun x3 ex3 => ?_)
  have tx3 : x3.toInt = ((gI o_me_court_isles 7) - (1 : Int32)).toInt := by rw [ex3]
  have lp1 : ∀ (N1 : Nat) (v1_1 : Int32) (v3_1 : Int32) (v4_1 : Int32) (o_me_1 : Ob), IvX7 o_me_1 → Kp [] [2] [] o_me o_me_1 → (0 ≤ v3_1.toInt ∧ v3_1.toInt ≤ 7) → ((-1) ≤ v4_1.toInt ∧ v4_1.toInt ≤ 6) → (v4_1.toInt - (-1)).toNat < N1 → wp (lp_X7_awaitChildren_13 o_me_court_isles  N1 (v1_1, v3_1, v4_1, o_me_1)) (fun (y : Int32 × Ob) => (0 ≤ y.1.toInt ∧ y.1.toInt ≤ 7) ∧ IvX7 y.2 ∧ Kp [] [2] [] o_me y.2) := by
    intro N1
    induction N1 with
    | zero =>
      intro v1_1 v3_1 v4_1 o_me_1 hI_me_1 hkp_me_1 hh4 hh5 hN1
      exact absurd hN1 (Nat.not_lt_zero _)
    | succ N1 ihx =>
      have ih1 := ihx
      intro v1_1 v3_1 v4_1 o_me_1 hI_me_1 hkp_me_1 hh4 hh5 hN1
      show wp (lb_X7_awaitChildren_13 o_me_court_isles  (lp_X7_awaitChildren_13 o_me_court_isles  N1) v1_1 v3_1 v4_1 o_me_1) (fun (y : Int32 × Ob) => (0 ≤ y.1.toInt ∧ y.1.toInt ≤ 7) ∧ IvX7 y.2 ∧ Kp [] [2] [] o_me y.2)
      unfold lb_X7_awaitChildren_13
      refine wp_if (fun c6 => ?_) (fun c6 => ?_)
      · have c6 := cv_lt (a := v4_1.toInt) (b := 0) rfl (by decide) c6
        refine wp_some ?_
        exact (show (0 ≤ v3_1.toInt ∧ v3_1.toInt ≤ 7) ∧ IvX7 o_me_1 ∧ Kp [] [2] [] o_me o_me_1 from ⟨⟨hh4.1, hh4.2⟩, hI_me_1, hkp_me_1⟩)
      · have c6 := cv_nlt (a := v4_1.toInt) (b := 0) rfl (by decide) c6
        refine wp_gd (zin_of (m := 7) rfl c6 (zlt_m (c := 6) hh5.2 (by decide))) ?_
        refine wp_if (fun c7 => ?_) (fun c7 => ?_)
        · refine wp_if (fun c10 => ?_) (fun c10 => ?_)
          · have c10 := cv_ge (a := v3_1.toInt) (b := 7) rfl (by decide) c10
            unfold bk_X7_awaitChildren_49
            refine wp_lt (fun x11 ex11 => ?_)
            have tx11 : x11.toInt = v4_1.toInt + (-1) := by rw [ex11]; exact i32_add rfl (by decide) (zk_l c6 (by decide)) (zk_u hh5.2 (by decide))
            exact ih1 v1_1 v3_1 x11 o_me_1 hI_me_1 hkp_me_1 ⟨hh4.1, hh4.2⟩ ⟨(zl_e (zq_r (c := 1) tx11 (by decide)) c6 (by decide)), (zu_e (Int.le_of_eq tx11) hh5.2 (by decide))⟩ (zms_d (c := 0) hN1 (Int.le_of_eq tx11) c6 (by decide))
          · have c10 := cv_nge (a := v3_1.toInt) (b := 7) rfl (by decide) c10
            refine wp_gd (zin_of (m := 7) rfl hh4.1 (zlt_m (c := 6) (zlt_u (c := 6) c10 (by decide)) (by decide))) ?_
            refine wp_lt (fun o12 eo12 => ?_)
            have hIo12 : IvX7 o12 := by rw [eo12]; exact ibX7_3 hI_me_1 hh4.1  (Or.inr (Or.inr ⟨c6, hh5.2⟩))
            have hkpo12 : Kp [] [2] [] o_me o12 := hkp_me_1.trans (by rw [eo12]; exact Kp.tA (by decide) (by decide))
            refine wp_lt (fun x13 ex13 => ?_)
            have tx13 : x13.toInt = v3_1.toInt + 1 := by rw [ex13]; exact i32_add rfl (by decide) (zk_l hh4.1 (by decide)) (zk_u (zlt_u (c := 6) c10 (by decide)) (by decide))
            unfold bk_X7_awaitChildren_49
            refine wp_lt (fun x14 ex14 => ?_)
            have tx14 : x14.toInt = v4_1.toInt + (-1) := by rw [ex14]; exact i32_add rfl (by decide) (zk_l c6 (by decide)) (zk_u hh5.2 (by decide))
            exact ih1 v1_1 x13 x14 o12 hIo12 hkpo12 ⟨(zl_e (zq_r (c := (-1)) tx13 (by decide)) hh4.1 (by decide)), (zu_e (Int.le_of_eq tx13) (zlt_u (c := 6) c10 (by decide)) (by decide))⟩ ⟨(zl_e (zq_r (c := 1) tx14 (by decide)) c6 (by decide)), (zu_e (Int.le_of_eq tx14) hh5.2 (by decide))⟩ (zms_d (c := 0) hN1 (Int.le_of_eq tx14) c6 (by decide))
        · unfold bk_X7_awaitChildren_49
          refine wp_lt (fun x15 ex15 => ?_)
          have tx15 : x15.toInt = v4_1.toInt + (-1) := by rw [ex15]; exact i32_add rfl (by decide) (zk_l c6 (by decide)) (zk_u hh5.2 (by decide))
          exact ih1 v1_1 v3_1 x15 o_me_1 hI_me_1 hkp_me_1 ⟨hh4.1, hh4.2⟩ ⟨(zl_e (zq_r (c := 1) tx15 (by decide)) c6 (by decide)), (zu_e (Int.le_of_eq tx15) hh5.2 (by decide))⟩ (zms_d (c := 0) hN1 (Int.le_of_eq tx15) c6 (by decide))
  exact lp1 zfu p0 p1 x3 o_me hI_me Kp.rf ⟨q1.1, q1.2⟩ ⟨(zl_e (zd_e (c := 1) (zq_t (c := 1) t2 (by decide)) (zq_0 tx3.symm) (by decide)) t1.1 (by decide)), (zu_e (zd_e (c := (-1)) (zq_0 tx3) (zq_s (c := (-1)) t2 (by decide)) (by decide)) t1.2 (by decide))⟩ (zme_d (u := 6) (zu_e (k := 6) (zd_e (c := (-1)) (zq_0 tx3) (zq_s (c := (-1)) t2 (by decide)) (by decide)) t1.2 (by decide)) (by decide))

set_option maxHeartbeats 4000000 in
set_option maxRecDepth 100000 in
theorem s_X7_elders {pl : List CR} (o_me : Ob) (o_me_court_isles : Ob) (p0 : Int32) (hI_me : IvX7 o_me) (hI_me_court_isles : IvX2 pl o_me_court_isles) (q0 : 0 ≤ p0.toInt ∧ p0.toInt ≤ 6) : wp (f_X7_elders   o_me o_me_court_isles p0) (fun (y : Int32) => (0 ≤ y.toInt ∧ y.toInt ≤ 6)) := by
  unfold f_X7_elders
  have lp1 : ∀ (N1 : Nat) (v1_1 : Int32) (v2_1 : Int32) (v3_1 : Int32), (0 ≤ v1_1.toInt ∧ v1_1.toInt ≤ 6) → (0 ≤ v2_1.toInt ∧ v2_1.toInt ≤ 6) → (0 ≤ v3_1.toInt ∧ v3_1.toInt ≤ 6) → (v2_1.toInt ≤ v3_1.toInt + 0) → (6 - v3_1.toInt).toNat < N1 → wp (lp_X7_elders_4 o_me o_me_court_isles  N1 (v1_1, v2_1, v3_1)) (fun (y : Int32) => (0 ≤ y.toInt ∧ y.toInt ≤ 6)) := by
    intro N1
    induction N1 with
    | zero =>
      intro v1_1 v2_1 v3_1 hh1 hh2 hh3 hh4 hN1
      exact absurd hN1 (Nat.not_lt_zero _)
    | succ N1 ihx =>
      have ih1 := ihx
      intro v1_1 v2_1 v3_1 hh1 hh2 hh3 hh4 hN1
      show wp (lb_X7_elders_4 o_me o_me_court_isles  (lp_X7_elders_4 o_me o_me_court_isles  N1) v1_1 v2_1 v3_1) (fun (y : Int32) => (0 ≤ y.toInt ∧ y.toInt ≤ 6))
      unfold lb_X7_elders_4
      refine wp_if (fun c5 => ?_) (fun c5 => ?_)
      · have c5 := cv_ge (a := v3_1.toInt) (b := v1_1.toInt) rfl rfl c5
        refine wp_some ?_
        exact (show (0 ≤ v2_1.toInt ∧ v2_1.toInt ≤ 6) from ⟨hh2.1, hh2.2⟩)
      · have c5 := cv_nge (a := v3_1.toInt) (b := v1_1.toInt) rfl rfl c5
        refine wp_gd (zin_of (m := 7) rfl hh3.1 (zlt_m (c := 6) hh3.2 (by decide))) ?_
        refine wp_gd (zin_of (m := 7) rfl hh1.1 (zlt_m (c := 6) hh1.2 (by decide))) ?_
        refine wp_if (fun c6 => ?_) (fun c6 => ?_)
        · refine wp_lt (fun x9 ex9 => ?_)
          have tx9 : x9.toInt = v2_1.toInt + 1 := by rw [ex9]; exact i32_add rfl (by decide) (zk_l hh2.1 (by decide)) (zk_u (zu_e (k := 5) (zd_e (c := (-1)) hh4 (zl_d c5) (by decide)) hh1.2 (by decide)) (by decide))
          unfold bk_X7_elders_33
          refine wp_lt (fun x10 ex10 => ?_)
          have tx10 : x10.toInt = v3_1.toInt + 1 := by rw [ex10]; exact i32_add rfl (by decide) (zk_l hh3.1 (by decide)) (zk_u (zu_e (k := 5) (zl_d c5) hh1.2 (by decide)) (by decide))
          exact ih1 v1_1 x9 x10  ⟨hh1.1, hh1.2⟩ ⟨(zl_e (zq_r (c := (-1)) tx9 (by decide)) hh2.1 (by decide)), (zu_e (zd_e (c := 0) (zd_e (c := 1) (Int.le_of_eq tx9) hh4 (by decide)) (zl_d c5) (by decide)) hh1.2 (by decide))⟩ ⟨(zl_e (zq_r (c := (-1)) tx10 (by decide)) hh3.1 (by decide)), (zu_e (zd_e (c := 0) (Int.le_of_eq tx10) (zl_d c5) (by decide)) hh1.2 (by decide))⟩ (zd_e (c := 0) (zd_e (c := 1) (Int.le_of_eq tx9) hh4 (by decide)) (zq_r (c := (-1)) tx10 (by decide)) (by decide)) (zms_u (c := 5) hN1 (zq_r (c := (-1)) tx10 (by decide)) (zu_e (zl_d c5) hh1.2 (by decide)) (by decide))
        · unfold bk_X7_elders_33
          refine wp_lt (fun x11 ex11 => ?_)
          have tx11 : x11.toInt = v3_1.toInt + 1 := by rw [ex11]; exact i32_add rfl (by decide) (zk_l hh3.1 (by decide)) (zk_u (zu_e (k := 5) (zl_d c5) hh1.2 (by decide)) (by decide))
          exact ih1 v1_1 v2_1 x11  ⟨hh1.1, hh1.2⟩ ⟨hh2.1, hh2.2⟩ ⟨(zl_e (zq_r (c := (-1)) tx11 (by decide)) hh3.1 (by decide)), (zu_e (zd_e (c := 0) (Int.le_of_eq tx11) (zl_d c5) (by decide)) hh1.2 (by decide))⟩ (zd_w (zd_e (c := (-1)) hh4 (zq_r (c := (-1)) tx11 (by decide)) (by decide)) (by decide)) (zms_u (c := 5) hN1 (zq_r (c := (-1)) tx11 (by decide)) (zu_e (zl_d c5) hh1.2 (by decide)) (by decide))
  exact lp1 zfu p0 (0 : Int32) (0 : Int32)  ⟨q0.1, q0.2⟩ ⟨by decide, by decide⟩ ⟨by decide, by decide⟩ (zd_r (by decide)) (zme_u (l := 0) (Int.le_of_eq tz0.symm) (by decide))

