set_option maxHeartbeats 4000000 in
set_option maxRecDepth 100000 in
theorem s_X1_changedEntry {pl : List CR} (o_me : Ob) (o_me_isles : Ob) (o_me_isles_now : Ob) (p0 : Int32) (hI_me : IvX1 o_me) (hI_me_isles : IvX2 pl o_me_isles) (hI_me_isles_now : IvX4 o_me_isles_now) (q0 : 0 ≤ p0.toInt ∧ p0.toInt ≤ 6) : wp (f_X1_changedEntry   o_me o_me_isles o_me_isles_now p0) (fun (y : Int32 × Ob) => (0 ≤ y.1.toInt ∧ y.1.toInt ≤ 1) ∧ IvX4 y.2 ∧ Kp [3, 4] [0, 1] [] o_me_isles_now y.2) := by
  have li0 : (1 : Int32).toInt = 1 := by decide
  unfold f_X1_changedEntry
  have t1 : 1 ≤ ((1 : Int32) <<< (p0 &&& 31)).toInt ∧ ((1 : Int32) <<< (p0 &&& 31)).toInt ≤ 64 := i32_shl6 (p := p0) (by omega) (by omega)
  refine wp_lt (fun o2 eo2 => ?_)
  have hIo2 : IvX4 o2 := by rw [eo2]; exact hI_me_isles_now
  have ko2_v : (gI o2 2).toInt = ((gI o_me_isles_now 2) ^^^ ((1 : Int32) <<< (p0 &&& 31))).toInt := by rw [eo2]; rfl
  have hkpo2 : Kp [3, 4] [0, 1] [] o_me_isles_now o2 := Kp.rf.trans (by rw [eo2]; exact Kp.sI (by decide))
  have t3 := i32_and (x := (gI o2 2) >>> (p0 &&& 31)) (y := (1 : Int32)) (m := 1) ⟨by decide, by decide⟩
  refine wp_some ?_
  exact (show (0 ≤ (((gI o2 2) >>> (p0 &&& 31)) &&& (1 : Int32)).toInt ∧ (((gI o2 2) >>> (p0 &&& 31)) &&& (1 : Int32)).toInt ≤ 1) ∧ IvX4 o2 ∧ Kp [3, 4] [0, 1] [] o_me_isles_now o2 from ⟨⟨by omega, by omega⟩, hIo2, hkpo2⟩)

set_option maxHeartbeats 4000000 in
set_option maxRecDepth 100000 in
theorem s_X1_takenGap {pl : List CR} (o_me : Ob) (o_me_isles : Ob) (o_me_isles_now : Ob) (p0 : Int32) (hI_me : IvX1 o_me) (hI_me_isles : IvX2 pl o_me_isles) (hI_me_isles_now : IvX4 o_me_isles_now) (q0 : 0 ≤ p0.toInt ∧ p0.toInt ≤ 6) : wp (f_X1_takenGap   o_me o_me_isles o_me_isles_now p0) (fun (y : Int32 × Ob) => IvX4 y.2 ∧ Kp [2, 4] [0] [] o_me_isles_now y.2) := by
  have li0 : (0 : Int32).toInt = 0 := by decide
  unfold f_X1_takenGap
  refine wp_lt (fun x1 ex1 => ?_)
  have tx1 : x1.toInt = (gI o_me_isles_now 3).toInt := by rw [ex1]
  refine wp_bd (s_X4_addPrizes   o_me_isles_now p0 x1  hI_me_isles_now  ⟨by omega, by omega⟩) (fun z2 hz2 => ?_)
  obtain ⟨hz2_0, hz2_1⟩ := hz2
  have hkpz2_me_isles_now : Kp [2, 4] [0] [] o_me_isles_now z2 := Kp.rf.trans (hz2_1.mono (by decide) (by decide) (by decide))
  have kz2_k3 : (gI z2 3).toInt = (gI o_me_isles_now 3).toInt := congrArg Int32.toInt (hz2_1.1 3 (by decide))
  refine wp_lt (fun o4 eo4 => ?_)
  have hIo4 : IvX4 o4 := by rw [eo4]; exact hz2_0
  have ko4_v : (gI o4 3).toInt = 0 := by rw [eo4]; exact (show ((0 : Int32)).toInt = _ from by decide)
  have hkpo4 : Kp [2, 4] [0] [] o_me_isles_now o4 := hkpz2_me_isles_now.trans (by rw [eo4]; exact Kp.sI (by decide))
  refine wp_some ?_
  exact (show IvX4 o4 ∧ Kp [2, 4] [0] [] o_me_isles_now o4 from ⟨hIo4, hkpo4⟩)

set_option maxHeartbeats 4000000 in
set_option maxRecDepth 100000 in
theorem s_X1_hasTradeOfLower {pl : List CR} (o_me : Ob) (o_me_isles : Ob) (o_me_isles_now : Ob) (p0 : Int32) (hI_me : IvX1 o_me) (hI_me_isles : IvX2 pl o_me_isles) (hI_me_isles_now : IvX4 o_me_isles_now) (q0 : 0 ≤ p0.toInt ∧ p0.toInt ≤ 6) : wp (f_X1_hasTradeOfLower   o_me o_me_isles o_me_isles_now p0) (fun (y : Int32) => (0 ≤ y.toInt ∧ y.toInt ≤ 1)) := by
  have li0 : (0 : Int32).toInt = 0 := by decide
  have li1 : (1 : Int32).toInt = 1 := by decide
  unfold f_X1_hasTradeOfLower
  have lp1 : ∀ (N1 : Nat) (v1_1 : Int32) (v2_1 : Int32), (0 ≤ v1_1.toInt ∧ v1_1.toInt ≤ 6) → (0 ≤ v2_1.toInt ∧ v2_1.toInt ≤ 6) → (v2_1.toInt ≤ v1_1.toInt + 0) → (v1_1.toInt ≤ p0.toInt + 0) → (p0.toInt ≤ v1_1.toInt + 0) → (v2_1.toInt ≤ p0.toInt + 0) → (6 - v2_1.toInt).toNat < N1 → wp (lp_X1_hasTradeOfLower_2 o_me o_me_isles o_me_isles_now  N1 (v1_1, v2_1)) (fun (y : Int32) => (0 ≤ y.toInt ∧ y.toInt ≤ 1)) := by
    intro N1
    induction N1 with
    | zero =>
      intro v1_1 v2_1 hh1 hh2 hh3 hh4 hh5 hh6 hN1
      exact absurd hN1 (Nat.not_lt_zero _)
    | succ N1 ihx =>
      have ih1 := ihx
      intro v1_1 v2_1 hh1 hh2 hh3 hh4 hh5 hh6 hN1
      show wp (lb_X1_hasTradeOfLower_2 o_me o_me_isles o_me_isles_now  (lp_X1_hasTradeOfLower_2 o_me o_me_isles o_me_isles_now  N1) v1_1 v2_1) (fun (y : Int32) => (0 ≤ y.toInt ∧ y.toInt ≤ 1))
      unfold lb_X1_hasTradeOfLower_2
      refine wp_if (fun c7 => ?_) (fun c7 => ?_)
      · have c7 := cv_ge (a := v2_1.toInt) (b := v1_1.toInt) rfl rfl c7
        refine wp_some ?_
        exact (show (0 ≤ (0 : Int32).toInt ∧ (0 : Int32).toInt ≤ 1) from ⟨by decide, by decide⟩)
      · have c7 := cv_nge (a := v2_1.toInt) (b := v1_1.toInt) rfl rfl c7
        refine wp_gd (zin_of (m := 7) rfl (by omega) (by omega)) ?_
        have t8 := iaX4_0_0 hI_me_isles_now (j := v2_1) (by omega) (by omega)
        refine wp_gd (zin_of (m := 7) rfl (by omega) (by omega)) ?_
        have t9 := iaX4_0_0 hI_me_isles_now (j := v1_1) (by omega) (by omega)
        refine wp_if (fun c10 => ?_) (fun c10 => ?_)
        · have c10 := cv_eq (a := (gA o_me_isles_now 0 v2_1.toNatClampNeg).toInt) (b := (gA o_me_isles_now 0 v1_1.toNatClampNeg).toInt) rfl rfl c10
          refine wp_some ?_
          exact (show (0 ≤ (1 : Int32).toInt ∧ (1 : Int32).toInt ≤ 1) from ⟨by decide, by decide⟩)
        · have c10 := cv_ne (a := (gA o_me_isles_now 0 v2_1.toNatClampNeg).toInt) (b := (gA o_me_isles_now 0 v1_1.toNatClampNeg).toInt) rfl rfl c10
          refine wp_lt (fun x11 ex11 => ?_)
          have tx11 : x11.toInt = v2_1.toInt + 1 := by rw [ex11]; exact i32_add rfl (by decide) (by omega) (by omega)
          exact ih1 v1_1 x11  ⟨by omega, by omega⟩ ⟨by omega, by omega⟩ (by omega) (by omega) (by omega) (by omega) (by omega)
  exact lp1 zfu p0 (0 : Int32)  ⟨by omega, by omega⟩ ⟨by decide, by decide⟩ (by omega) (by omega) (by omega) (by omega) (by show _ < 100000; omega)

set_option maxHeartbeats 4000000 in
set_option maxRecDepth 100000 in
theorem s_X1_passedYear (o_me : Ob) (o_me_isles : Ob) (o_me_isles_now : Ob) (o_me_machine : Ob) (o_pool : List CR) (hI_me : IvX1 o_me) (hI_me_isles : IvX2 o_pool o_me_isles) (hI_me_isles_now : IvX4 o_me_isles_now) (hI_me_machine : IvX3 o_me_machine) (hI_pool : PLok o_pool)  : wp (f_X1_passedYear   o_me o_me_isles o_me_isles_now o_me_machine o_pool) (fun (y : Int32 × Ob × Ob) => (0 ≤ y.1.toInt ∧ y.1.toInt ≤ 7) ∧ IvX4 y.2.1 ∧ Kp [2, 3] [1] [] o_me_isles_now y.2.1 ∧ IvX3 y.2.2 ∧ Kp [] [] [] o_me_machine y.2.2) := by
  have li0 : (0 : Int32).toInt = 0 := by decide
  have li1 : (1 : Int32).toInt = 1 := by decide
  unfold f_X1_passedYear
  refine wp_bd (s_X2_lawInForce   o_me_isles  hI_me_isles  ) (fun z1 hz1 => ?_)
  have hz1_0 := hz1
  have lp1 : ∀ (N1 : Nat) (v1_1 : Option Nat) (v2_1 : Int32) (v3_1 : Int32) (o_me_isles_now_1 : Ob) (o_me_machine_1 : Ob), IvX4 o_me_isles_now_1 → Kp [2, 3] [1] [] o_me_isles_now o_me_isles_now_1 → IvX3 o_me_machine_1 → Kp [] [] [] o_me_machine o_me_machine_1 → zpo o_pool v1_1 = true → (0 ≤ v2_1.toInt ∧ v2_1.toInt ≤ 7) → (0 ≤ v3_1.toInt ∧ v3_1.toInt ≤ 7) → (v2_1.toInt ≤ v3_1.toInt + 0) → (7 - v3_1.toInt).toNat < N1 → wp (lp_X1_passedYear_12 o_me o_me_isles o_pool  N1 (v1_1, v2_1, v3_1, o_me_isles_now_1, o_me_machine_1)) (fun (y : Int32 × Ob × Ob) => (0 ≤ y.1.toInt ∧ y.1.toInt ≤ 7) ∧ IvX4 y.2.1 ∧ Kp [2, 3] [1] [] o_me_isles_now y.2.1 ∧ IvX3 y.2.2 ∧ Kp [] [] [] o_me_machine y.2.2) := by
    intro N1
    induction N1 with
    | zero =>
      intro v1_1 v2_1 v3_1 o_me_isles_now_1 o_me_machine_1 hI_me_isles_now_1 hkp_me_isles_now_1 hI_me_machine_1 hkp_me_machine_1 po_v1_1 hh2 hh3 hh4 hN1
      exact absurd hN1 (Nat.not_lt_zero _)
    | succ N1 ihx =>
      have ih1 := ihx
      intro v1_1 v2_1 v3_1 o_me_isles_now_1 o_me_machine_1 hI_me_isles_now_1 hkp_me_isles_now_1 hI_me_machine_1 hkp_me_machine_1 po_v1_1 hh2 hh3 hh4 hN1
      show wp (lb_X1_passedYear_12 o_me o_me_isles o_pool  (lp_X1_passedYear_12 o_me o_me_isles o_pool  N1) v1_1 v2_1 v3_1 o_me_isles_now_1 o_me_machine_1) (fun (y : Int32 × Ob × Ob) => (0 ≤ y.1.toInt ∧ y.1.toInt ≤ 7) ∧ IvX4 y.2.1 ∧ Kp [2, 3] [1] [] o_me_isles_now y.2.1 ∧ IvX3 y.2.2 ∧ Kp [] [] [] o_me_machine y.2.2)
      unfold lb_X1_passedYear_12
      have t5 := igX2_7 hI_me_isles
      refine wp_if (fun c6 => ?_) (fun c6 => ?_)
      · have c6 := cv_ge (a := v3_1.toInt) (b := (gI o_me_isles 7).toInt) rfl rfl c6
        refine wp_lt (fun o7 eo7 => ?_)
        have hIo7 : IvX4 o7 := by rw [eo7]; exact hI_me_isles_now_1
        have ko7_v : (gI o7 4).toInt = ((gI o_me_isles_now_1 4) + (1 : Int32)).toInt := by rw [eo7]; rfl
        have hkpo7 : Kp [2, 3] [1] [] o_me_isles_now o7 := hkp_me_isles_now_1.trans (by rw [eo7]; exact Kp.sI (by decide))
        refine wp_some ?_
        exact (show (0 ≤ v2_1.toInt ∧ v2_1.toInt ≤ 7) ∧ IvX4 o7 ∧ Kp [2, 3] [1] [] o_me_isles_now o7 ∧ IvX3 o_me_machine_1 ∧ Kp [] [] [] o_me_machine o_me_machine_1 from ⟨⟨by omega, by omega⟩, hIo7, hkpo7, hI_me_machine_1, hkp_me_machine_1⟩)
      · have c6 := cv_nge (a := v3_1.toInt) (b := (gI o_me_isles 7).toInt) rfl rfl c6
        refine wp_bd (s_X1_hasTradeOfLower   o_me o_me_isles o_me_isles_now_1 v3_1  hI_me hI_me_isles hI_me_isles_now_1  ⟨by omega, by omega⟩) (fun z8 hz8 => ?_)
        have hz8_0 := hz8
        refine wp_if (fun c9 => ?_) (fun c9 => ?_)
        · have c9 := cv_eq (a := z8.toInt) (b := 0) rfl (by decide) c9
          unfold bk_X1_passedYear_53
          refine wp_lt (fun x10 ex10 => ?_)
          have tx10 : x10.toInt = v3_1.toInt + 1 := by rw [ex10]; exact i32_add rfl (by decide) (by omega) (by omega)
          exact ih1 v1_1 v2_1 x10 o_me_isles_now_1 o_me_machine_1 hI_me_isles_now_1 hkp_me_isles_now_1 hI_me_machine_1 hkp_me_machine_1 po_v1_1 ⟨by omega, by omega⟩ ⟨by omega, by omega⟩ (by omega) (by omega)
        · have c9z := c9
          have c9 := cv_ne (a := z8.toInt) (b := 0) rfl (by decide) c9
          refine wp_bd (s_X1_turnsTo_Q   o_me o_me_isles o_me_isles_now_1 o_me_machine_1 o_pool v1_1 v3_1 (0 : Int32)  hI_me hI_me_isles hI_me_isles_now_1 hI_me_machine_1 hI_pool po_v1_1 ⟨by omega, by omega⟩ ⟨by decide, by decide⟩) (fun z11 hz11 => ?_)
          obtain ⟨hz11_0, hz11_1, hz11_2⟩ := hz11
          have hkpz11_me_machine : Kp [] [] [] o_me_machine z11.2 := hkp_me_machine_1.trans (hz11_2.mono (by decide) (by decide) (by decide))
          refine wp_gd (zin_of (m := 7) rfl (by omega) (by omega)) ?_
          refine wp_lt (fun o12 eo12 => ?_)
          have hIo12 : IvX4 o12 := by rw [eo12]; exact ibX4_0 hI_me_isles_now_1 (by omega) (Or.inr (Or.inr ⟨by omega, by omega⟩))
          have ko12_v : (gA o12 0 v3_1.toNatClampNeg).toInt = z11.1.toInt := by rw [eo12]; exact congrArg Int32.toInt (upd_eq (g := gA o_me_isles_now_1 0) (i := v3_1) (v := z11.1))
          have hkpo12 : Kp [2, 3] [1] [] o_me_isles_now o12 := hkp_me_isles_now_1.trans (by rw [eo12]; exact Kp.tA (by decide) (by decide))
          refine wp_lt (fun x13 ex13 => ?_)
          have tx13 : x13.toInt = v2_1.toInt + 1 := by rw [ex13]; exact i32_add rfl (by decide) (by omega) (by omega)
          unfold bk_X1_passedYear_53
          refine wp_lt (fun x14 ex14 => ?_)
          have tx14 : x14.toInt = v3_1.toInt + 1 := by rw [ex14]; exact i32_add rfl (by decide) (by omega) (by omega)
          exact ih1 v1_1 x13 x14 o12 z11.2 hIo12 hkpo12 hz11_1 hkpz11_me_machine po_v1_1 ⟨by omega, by omega⟩ ⟨by omega, by omega⟩ (by omega) (by omega)
  exact lp1 zfu z1 (0 : Int32) (0 : Int32) o_me_isles_now o_me_machine hI_me_isles_now Kp.rf hI_me_machine Kp.rf hz1_0 ⟨by decide, by decide⟩ ⟨by decide, by decide⟩ (by omega) (by show _ < 100000; omega)

set_option maxHeartbeats 4000000 in
set_option maxRecDepth 100000 in
theorem s_X4_isIn (o_me : Ob) (p0 : Int32) (hI_me : IvX4 o_me)  : wp (f_X4_isIn   o_me p0) (fun (y : Int32) => (0 ≤ y.toInt ∧ y.toInt ≤ 1)) := by
  have li0 : (0 : Int32).toInt = 0 := by decide
  have li1 : (1 : Int32).toInt = 1 := by decide
  unfold f_X4_isIn
  have t1 := i32_and (x := (gI o_me 2) >>> (p0 &&& 31)) (y := (1 : Int32)) (m := 1) ⟨by decide, by decide⟩
  refine wp_if (fun c2 => ?_) (fun c2 => ?_)
  · have c2 := cv_eq (a := (((gI o_me 2) >>> (p0 &&& 31)) &&& (1 : Int32)).toInt) (b := 1) rfl (by decide) c2
    refine wp_some ?_
    exact (show (0 ≤ (1 : Int32).toInt ∧ (1 : Int32).toInt ≤ 1) from ⟨by decide, by decide⟩)
  · have c2 := cv_ne (a := (((gI o_me 2) >>> (p0 &&& 31)) &&& (1 : Int32)).toInt) (b := 1) rfl (by decide) c2
    refine wp_some ?_
    exact (show (0 ≤ (0 : Int32).toInt ∧ (0 : Int32).toInt ≤ 1) from ⟨by decide, by decide⟩)

set_option maxHeartbeats 4000000 in
set_option maxRecDepth 100000 in
theorem s_X1_lineUp_Q (o_me : Ob) (o_me_isles : Ob) (o_me_isles_now : Ob) (o_me_machine : Ob) (o_pool : List CR) (p0 : Option Nat) (p1 : Int32) (hI_me : IvX1 o_me) (hI_me_isles : IvX2 o_pool o_me_isles) (hI_me_isles_now : IvX4 o_me_isles_now) (hI_me_machine : IvX3 o_me_machine) (hI_pool : PLok o_pool) (po_p0 : zpo o_pool p0 = true) (q0 : 0 ≤ p1.toInt ∧ p1.toInt ≤ 3) : wp (f_X1_lineUp_Q   o_me o_me_isles o_me_isles_now o_me_machine o_pool p0 p1) (fun (y : Int32 × Ob × Ob) => (0 ≤ y.1.toInt ∧ y.1.toInt ≤ 7) ∧ IvX1 y.2.1 ∧ Kp [] [] [] o_me y.2.1 ∧ IvX3 y.2.2 ∧ Kp [] [] [] o_me_machine y.2.2) := by
  have li0 : (0 : Int32).toInt = 0 := by decide
  have li1 : (1 : Int32).toInt = 1 := by decide
  unfold f_X1_lineUp_Q
  refine wp_lt (fun o1 eo1 => ?_)
  have hIo1 : IvX1 o1 := by rw [eo1]; exact ipX1_4 hI_me ⟨by decide, by decide⟩
  have ko1_v : (gI o1 4).toInt = 0 := by rw [eo1]; exact (show ((0 : Int32)).toInt = _ from by decide)
  have hkpo1 : Kp [] [] [] o_me o1 := Kp.rf.trans (by rw [eo1]; exact Kp.sI (by decide))
  have lp1 : ∀ (N1 : Nat) (v1_1 : Option Nat) (v2_1 : Int32) (v3_1 : Int32) (o_me_1 : Ob) (o_me_machine_1 : Ob), IvX1 o_me_1 → Kp [] [] [] o_me o_me_1 → IvX3 o_me_machine_1 → Kp [] [] [] o_me_machine o_me_machine_1 → zpo o_pool v1_1 = true → (0 ≤ v2_1.toInt ∧ v2_1.toInt ≤ 3) → (0 ≤ v3_1.toInt ∧ v3_1.toInt ≤ 7) → (0 ≤ (gI o_me_1 4).toInt ∧ (gI o_me_1 4).toInt ≤ 7) → ((gI o_me_1 4).toInt ≤ v3_1.toInt + 0) → (v2_1.toInt ≤ p1.toInt + 0) → (p1.toInt ≤ v2_1.toInt + 0) → (7 - v3_1.toInt).toNat < N1 → wp (lp_X1_lineUp_Q_7 o_me_isles o_me_isles_now o_pool  N1 (v1_1, v2_1, v3_1, o_me_1, o_me_machine_1)) (fun (y : Int32 × Ob × Ob) => (0 ≤ y.1.toInt ∧ y.1.toInt ≤ 7) ∧ IvX1 y.2.1 ∧ Kp [] [] [] o_me y.2.1 ∧ IvX3 y.2.2 ∧ Kp [] [] [] o_me_machine y.2.2) := by
    intro N1
    induction N1 with
    | zero =>
      intro v1_1 v2_1 v3_1 o_me_1 o_me_machine_1 hI_me_1 hkp_me_1 hI_me_machine_1 hkp_me_machine_1 po_v1_1 hh3 hh4 hh5 hh6 hh7 hh8 hN1
      exact absurd hN1 (Nat.not_lt_zero _)
    | succ N1 ihx =>
      have ih1 := ihx
      intro v1_1 v2_1 v3_1 o_me_1 o_me_machine_1 hI_me_1 hkp_me_1 hI_me_machine_1 hkp_me_machine_1 po_v1_1 hh3 hh4 hh5 hh6 hh7 hh8 hN1
      show wp (lb_X1_lineUp_Q_7 o_me_isles o_me_isles_now o_pool  (lp_X1_lineUp_Q_7 o_me_isles o_me_isles_now o_pool  N1) v1_1 v2_1 v3_1 o_me_1 o_me_machine_1) (fun (y : Int32 × Ob × Ob) => (0 ≤ y.1.toInt ∧ y.1.toInt ≤ 7) ∧ IvX1 y.2.1 ∧ Kp [] [] [] o_me y.2.1 ∧ IvX3 y.2.2 ∧ Kp [] [] [] o_me_machine y.2.2)
      unfold lb_X1_lineUp_Q_7
      have t9 := igX2_7 hI_me_isles
      refine wp_if (fun c10 => ?_) (fun c10 => ?_)
      · have c10 := cv_ge (a := v3_1.toInt) (b := (gI o_me_isles 7).toInt) rfl rfl c10
        refine wp_some ?_
        exact (show (0 ≤ (gI o_me_1 4).toInt ∧ (gI o_me_1 4).toInt ≤ 7) ∧ IvX1 o_me_1 ∧ Kp [] [] [] o_me o_me_1 ∧ IvX3 o_me_machine_1 ∧ Kp [] [] [] o_me_machine o_me_machine_1 from ⟨⟨by omega, by omega⟩, hI_me_1, hkp_me_1, hI_me_machine_1, hkp_me_machine_1⟩)
      · have c10 := cv_nge (a := v3_1.toInt) (b := (gI o_me_isles 7).toInt) rfl rfl c10
        refine wp_bd (s_X4_isIn   o_me_isles_now v3_1  hI_me_isles_now  ) (fun z11 hz11 => ?_)
        have hz11_0 := hz11
        refine wp_if (fun c12 => ?_) (fun c12 => ?_)
        · have c12 := cv_eq (a := z11.toInt) (b := 0) rfl (by decide) c12
          unfold bk_X1_lineUp_Q_129
          refine wp_lt (fun x13 ex13 => ?_)
          have tx13 : x13.toInt = v3_1.toInt + 1 := by rw [ex13]; exact i32_add rfl (by decide) (by omega) (by omega)
          exact ih1 v1_1 v2_1 x13 o_me_1 o_me_machine_1 hI_me_1 hkp_me_1 hI_me_machine_1 hkp_me_machine_1 po_v1_1 ⟨by omega, by omega⟩ ⟨by omega, by omega⟩ ⟨by omega, by omega⟩ (by omega) (by omega) (by omega) (by omega)
        · have c12z := c12
          have c12 := cv_ne (a := z11.toInt) (b := 0) rfl (by decide) c12
          refine wp_bd (s_X1_isBarred_Q   o_me_1 o_me_isles o_me_isles_now o_me_machine_1 o_pool v1_1 v3_1 v2_1  hI_me_1 hI_me_isles hI_me_isles_now hI_me_machine_1 hI_pool po_v1_1 ⟨by omega, by omega⟩ ⟨by omega, by omega⟩) (fun z14 hz14 => ?_)
          obtain ⟨hz14_0, hz14_1, hz14_2⟩ := hz14
          have hkpz14_me_machine : Kp [] [] [] o_me_machine z14.2 := hkp_me_machine_1.trans (hz14_2.mono (by decide) (by decide) (by decide))
          refine wp_if (fun c15 => ?_) (fun c15 => ?_)
          · have c15 := cv_eq (a := z14.1.toInt) (b := 0) rfl (by decide) c15
            refine wp_bd (s_X1_runsBy_Q   o_me_1 o_me_isles o_me_isles_now z14.2 o_pool v1_1 v3_1 v2_1  hI_me_1 hI_me_isles hI_me_isles_now hz14_1 hI_pool po_v1_1 ⟨by omega, by omega⟩ ⟨by omega, by omega⟩) (fun z16 hz16 => ?_)
            obtain ⟨hz16_0, hz16_1⟩ := hz16
            have hkpz16_me_machine : Kp [] [] [] o_me_machine z16.2 := hkpz14_me_machine.trans (hz16_1.mono (by decide) (by decide) (by decide))
            refine wp_gd (zin_of (m := 7) rfl (by omega) (by omega)) ?_
            refine wp_lt (fun o17 eo17 => ?_)
            have hIo17 : IvX1 o17 := by rw [eo17]; exact hI_me_1
            have ko17_k18 : (gI o17 4).toInt = (gI o_me_1 4).toInt := by rw [eo17]; rfl
            have ko17_v : (gA o17 3 v3_1.toNatClampNeg).toInt = z16.1.toInt := by rw [eo17]; exact congrArg Int32.toInt (upd_eq (g := gA o_me_1 3) (i := v3_1) (v := z16.1))
            have hkpo17 : Kp [] [] [] o_me o17 := hkp_me_1.trans (by rw [eo17]; exact Kp.tA (by decide) (by decide))
            refine wp_lt (fun x19 ex19 => ?_)
            have tx19 : x19.toInt = (gI o17 4).toInt := by rw [ex19]
            have lp2 : ∀ (N2 : Nat) (v1_2 : Option Nat) (v2_2 : Int32) (v3_2 : Int32) (v4_2 : Int32) (o_me_2 : Ob) (o_me_machine_2 : Ob), IvX1 o_me_2 → Kp [] [] [] o_me o_me_2 → IvX3 o_me_machine_2 → Kp [] [] [] o_me_machine o_me_machine_2 → zpo o_pool v1_2 = true → (0 ≤ v2_2.toInt ∧ v2_2.toInt ≤ 3) → (0 ≤ v3_2.toInt ∧ v3_2.toInt ≤ 6) → (0 ≤ v4_2.toInt ∧ v4_2.toInt ≤ 6) → (0 ≤ (gI o_me_2 4).toInt ∧ (gI o_me_2 4).toInt ≤ 6) → (v4_2.toInt ≤ v3_2.toInt + 0) → (v4_2.toInt ≤ (gI o_me_2 4).toInt + 0) → ((gI o_me_2 4).toInt ≤ v3_2.toInt + 0) → (v2_2.toInt ≤ v2_1.toInt + 0) → (v2_1.toInt ≤ v2_2.toInt + 0) → (v2_2.toInt ≤ p1.toInt + 0) → (p1.toInt ≤ v2_2.toInt + 0) → (x19.toInt ≤ v3_2.toInt + 0) → (v3_2.toInt ≤ (gI o_me_isles 7).toInt + (-1)) → (v3_2.toInt ≤ v3_1.toInt + 0) → (v3_1.toInt ≤ v3_2.toInt + 0) → (v4_2.toInt ≤ x19.toInt + 0) → (v4_2.toInt ≤ (gI o_me_isles 7).toInt + (-1)) → (v4_2.toInt ≤ v3_1.toInt + 0) → ((gI o_me_2 4).toInt ≤ x19.toInt + 0) → (x19.toInt ≤ (gI o_me_2 4).toInt + 0) → ((gI o_me_2 4).toInt ≤ (gI o_me_isles 7).toInt + (-1)) → ((gI o_me_2 4).toInt ≤ v3_1.toInt + 0) → (v4_2.toInt - 0).toNat < N2 → wp (lp_X1_lineUp_Q_61 o_me_isles o_me_isles_now o_pool (lp_X1_lineUp_Q_7 o_me_isles o_me_isles_now o_pool  N1) N2 (v1_2, v2_2, v3_2, v4_2, o_me_2, o_me_machine_2)) (fun (y : Int32 × Ob × Ob) => (0 ≤ y.1.toInt ∧ y.1.toInt ≤ 7) ∧ IvX1 y.2.1 ∧ Kp [] [] [] o_me y.2.1 ∧ IvX3 y.2.2 ∧ Kp [] [] [] o_me_machine y.2.2) := by
              intro N2
              induction N2 with
              | zero =>
                intro v1_2 v2_2 v3_2 v4_2 o_me_2 o_me_machine_2 hI_me_2 hkp_me_2 hI_me_machine_2 hkp_me_machine_2 po_v1_2 hh21 hh22 hh23 hh24 hh25 hh26 hh27 hh28 hh29 hh30 hh31 hh32 hh33 hh34 hh35 hh36 hh37 hh38 hh39 hh40 hh41 hh42 hN2
                exact absurd hN2 (Nat.not_lt_zero _)
              | succ N2 ihx =>
                have ih2 := ihx
                intro v1_2 v2_2 v3_2 v4_2 o_me_2 o_me_machine_2 hI_me_2 hkp_me_2 hI_me_machine_2 hkp_me_machine_2 po_v1_2 hh21 hh22 hh23 hh24 hh25 hh26 hh27 hh28 hh29 hh30 hh31 hh32 hh33 hh34 hh35 hh36 hh37 hh38 hh39 hh40 hh41 hh42 hN2
                show wp (lb_X1_lineUp_Q_61 o_me_isles o_me_isles_now o_pool (lp_X1_lineUp_Q_7 o_me_isles o_me_isles_now o_pool  N1) (lp_X1_lineUp_Q_61 o_me_isles o_me_isles_now o_pool (lp_X1_lineUp_Q_7 o_me_isles o_me_isles_now o_pool  N1) N2) v1_2 v2_2 v3_2 v4_2 o_me_2 o_me_machine_2) (fun (y : Int32 × Ob × Ob) => (0 ≤ y.1.toInt ∧ y.1.toInt ≤ 7) ∧ IvX1 y.2.1 ∧ Kp [] [] [] o_me y.2.1 ∧ IvX3 y.2.2 ∧ Kp [] [] [] o_me_machine y.2.2)
                unfold lb_X1_lineUp_Q_61
                refine wp_if (fun c43 => ?_) (fun c43 => ?_)
                · have c43 := cv_le (a := v4_2.toInt) (b := 0) rfl (by decide) c43
                  unfold bk_X1_lineUp_Q_111
                  refine wp_gd (zin_of (m := 7) rfl (by omega) (by omega)) ?_
                  refine wp_lt (fun o44 eo44 => ?_)
                  have hIo44 : IvX1 o44 := by rw [eo44]; exact ibX1_2 hI_me_2 (by omega) (Or.inr (Or.inr ⟨by omega, by omega⟩))
                  have ko44_k45 : (gI o44 4).toInt = (gI o_me_2 4).toInt := by rw [eo44]; rfl
                  have ko44_v : (gA o44 2 v4_2.toNatClampNeg).toInt = v3_2.toInt := by rw [eo44]; exact congrArg Int32.toInt (upd_eq (g := gA o_me_2 2) (i := v4_2) (v := v3_2))
                  have hkpo44 : Kp [] [] [] o_me o44 := hkp_me_2.trans (by rw [eo44]; exact Kp.tA (by decide) (by decide))
                  have t46 : ((gI o44 4) + (1 : Int32)).toInt = (gI o44 4).toInt + 1 := i32_add rfl (by decide) (by omega) (by omega)
                  refine wp_lt (fun o47 eo47 => ?_)
                  have hIo47 : IvX1 o47 := by rw [eo47]; exact ipX1_4 hIo44 ⟨by omega, by omega⟩
                  have ko47_k48 : (gA o47 2 v4_2.toNatClampNeg).toInt = (gA o44 2 v4_2.toNatClampNeg).toInt := by rw [eo47]; rfl
                  have ko47_v : (gI o47 4).toInt = ((gI o44 4) + (1 : Int32)).toInt := by rw [eo47]; rfl
                  have hkpo47 : Kp [] [] [] o_me o47 := hkpo44.trans (by rw [eo47]; exact Kp.sI (by decide))
                  unfold bk_X1_lineUp_Q_129
                  refine wp_lt (fun x49 ex49 => ?_)
                  have tx49 : x49.toInt = v3_2.toInt + 1 := by rw [ex49]; exact i32_add rfl (by decide) (by omega) (by omega)
                  exact ih1 v1_2 v2_2 x49 o47 o_me_machine_2 hIo47 hkpo47 hI_me_machine_2 hkp_me_machine_2 po_v1_2 ⟨by omega, by omega⟩ ⟨by omega, by omega⟩ ⟨by omega, by omega⟩ (by omega) (by omega) (by omega) (by omega)
                · have c43 := cv_nle (a := v4_2.toInt) (b := 0) rfl (by decide) c43
                  have t50 : (v4_2 - (1 : Int32)).toInt = v4_2.toInt - 1 := i32_sub rfl (by decide) (by omega) (by omega)
                  refine wp_gd (zin_of (m := 7) rfl (by omega) (by omega)) ?_
                  have t51 := iaX1_2_0 hI_me_2 (j := v4_2 - (1 : Int32)) (by omega) (by omega)
                  refine wp_gd (zin_of (m := 7) rfl (by omega) (by omega)) ?_
                  refine wp_gd (zin_of (m := 7) rfl (by omega) (by omega)) ?_
                  have rg53 := i32_rg (gA o_me_2 3 (gA o_me_2 2 (v4_2 - (1 : Int32)).toNatClampNeg).toNatClampNeg)
                  have rg54 := i32_rg (gA o_me_2 3 v3_2.toNatClampNeg)
                  refine wp_if (fun c52 => ?_) (fun c52 => ?_)
                  · have c52 := cv_ge (a := (gA o_me_2 3 (gA o_me_2 2 (v4_2 - (1 : Int32)).toNatClampNeg).toNatClampNeg).toInt) (b := (gA o_me_2 3 v3_2.toNatClampNeg).toInt) rfl rfl c52
                    unfold bk_X1_lineUp_Q_111
                    refine wp_gd (zin_of (m := 7) rfl (by omega) (by omega)) ?_
                    refine wp_lt (fun o55 eo55 => ?_)
                    have hIo55 : IvX1 o55 := by rw [eo55]; exact ibX1_2 hI_me_2 (by omega) (Or.inr (Or.inr ⟨by omega, by omega⟩))
                    have ko55_k56 : (gA o55 3 (gA o_me_2 2 (v4_2 - (1 : Int32)).toNatClampNeg).toNatClampNeg).toInt = (gA o_me_2 3 (gA o_me_2 2 (v4_2 - (1 : Int32)).toNatClampNeg).toNatClampNeg).toInt := by rw [eo55]; rfl
                    have ko55_k57 : (gA o55 3 v3_2.toNatClampNeg).toInt = (gA o_me_2 3 v3_2.toNatClampNeg).toInt := by rw [eo55]; rfl
                    have ko55_k58 : (gI o55 4).toInt = (gI o_me_2 4).toInt := by rw [eo55]; rfl
                    have ko55_v : (gA o55 2 v4_2.toNatClampNeg).toInt = v3_2.toInt := by rw [eo55]; exact congrArg Int32.toInt (upd_eq (g := gA o_me_2 2) (i := v4_2) (v := v3_2))
                    have hkpo55 : Kp [] [] [] o_me o55 := hkp_me_2.trans (by rw [eo55]; exact Kp.tA (by decide) (by decide))
                    have t59 : ((gI o55 4) + (1 : Int32)).toInt = (gI o55 4).toInt + 1 := i32_add rfl (by decide) (by omega) (by omega)
                    refine wp_lt (fun o60 eo60 => ?_)
                    have hIo60 : IvX1 o60 := by rw [eo60]; exact ipX1_4 hIo55 ⟨by omega, by omega⟩
                    have ko60_k61 : (gA o60 2 v4_2.toNatClampNeg).toInt = (gA o55 2 v4_2.toNatClampNeg).toInt := by rw [eo60]; rfl
                    have ko60_k62 : (gA o60 3 (gA o_me_2 2 (v4_2 - (1 : Int32)).toNatClampNeg).toNatClampNeg).toInt = (gA o55 3 (gA o_me_2 2 (v4_2 - (1 : Int32)).toNatClampNeg).toNatClampNeg).toInt := by rw [eo60]; rfl
                    have ko60_k63 : (gA o60 3 v3_2.toNatClampNeg).toInt = (gA o55 3 v3_2.toNatClampNeg).toInt := by rw [eo60]; rfl
                    have ko60_v : (gI o60 4).toInt = ((gI o55 4) + (1 : Int32)).toInt := by rw [eo60]; rfl
                    have hkpo60 : Kp [] [] [] o_me o60 := hkpo55.trans (by rw [eo60]; exact Kp.sI (by decide))
                    unfold bk_X1_lineUp_Q_129
                    refine wp_lt (fun x64 ex64 => ?_)
                    have tx64 : x64.toInt = v3_2.toInt + 1 := by rw [ex64]; exact i32_add rfl (by decide) (by omega) (by omega)
                    exact ih1 v1_2 v2_2 x64 o60 o_me_machine_2 hIo60 hkpo60 hI_me_machine_2 hkp_me_machine_2 po_v1_2 ⟨by omega, by omega⟩ ⟨by omega, by omega⟩ ⟨by omega, by omega⟩ (by omega) (by omega) (by omega) (by omega)
                  · have c52 := cv_nge (a := (gA o_me_2 3 (gA o_me_2 2 (v4_2 - (1 : Int32)).toNatClampNeg).toNatClampNeg).toInt) (b := (gA o_me_2 3 v3_2.toNatClampNeg).toInt) rfl rfl c52
                    refine wp_gd (zin_of (m := 7) rfl (by omega) (by omega)) ?_
                    refine wp_gd (zin_of (m := 7) rfl (by omega) (by omega)) ?_
                    refine wp_lt (fun o65 eo65 => ?_)
                    have hIo65 : IvX1 o65 := by rw [eo65]; exact ibX1_2 hI_me_2 (by omega) (Or.inr (Or.inr ⟨by omega, by omega⟩))
                    have ko65_k66 : (gA o65 3 (gA o_me_2 2 (v4_2 - (1 : Int32)).toNatClampNeg).toNatClampNeg).toInt = (gA o_me_2 3 (gA o_me_2 2 (v4_2 - (1 : Int32)).toNatClampNeg).toNatClampNeg).toInt := by rw [eo65]; rfl
                    have ko65_k67 : (gA o65 3 v3_2.toNatClampNeg).toInt = (gA o_me_2 3 v3_2.toNatClampNeg).toInt := by rw [eo65]; rfl
                    have ko65_k68 : (gI o65 4).toInt = (gI o_me_2 4).toInt := by rw [eo65]; rfl
                    have ko65_v : (gA o65 2 v4_2.toNatClampNeg).toInt = (gA o_me_2 2 (v4_2 - (1 : Int32)).toNatClampNeg).toInt := by rw [eo65]; exact congrArg Int32.toInt (upd_eq (g := gA o_me_2 2) (i := v4_2) (v := (gA o_me_2 2 (v4_2 - (1 : Int32)).toNatClampNeg)))
                    have hkpo65 : Kp [] [] [] o_me o65 := hkp_me_2.trans (by rw [eo65]; exact Kp.tA (by decide) (by decide))
                    refine wp_lt (fun x69 ex69 => ?_)
                    have tx69 : x69.toInt = v4_2.toInt + (-1) := by rw [ex69]; exact i32_add rfl (by decide) (by omega) (by omega)
                    exact ih2 v1_2 v2_2 v3_2 x69 o65 o_me_machine_2 hIo65 hkpo65 hI_me_machine_2 hkp_me_machine_2 po_v1_2 ⟨by omega, by omega⟩ ⟨by omega, by omega⟩ ⟨by omega, by omega⟩ ⟨by omega, by omega⟩ (by omega) (by omega) (by omega) (by omega) (by omega) (by omega) (by omega) (by omega) (by omega) (by omega) (by omega) (by omega) (by omega) (by omega) (by omega) (by omega) (by omega) (by omega) (by omega)
            exact lp2 zfu v1_1 v2_1 v3_1 x19 o17 z16.2 hIo17 hkpo17 hz16_0 hkpz16_me_machine po_v1_1 ⟨by omega, by omega⟩ ⟨by omega, by omega⟩ ⟨by omega, by omega⟩ ⟨by omega, by omega⟩ (by omega) (by omega) (by omega) (by omega) (by omega) (by omega) (by omega) (by omega) (by omega) (by omega) (by omega) (by omega) (by omega) (by omega) (by omega) (by omega) (by omega) (by omega) (by show _ < 100000; omega)
          · have c15z := c15
            have c15 := cv_ne (a := z14.1.toInt) (b := 0) rfl (by decide) c15
            unfold bk_X1_lineUp_Q_129
            refine wp_lt (fun x70 ex70 => ?_)
            have tx70 : x70.toInt = v3_1.toInt + 1 := by rw [ex70]; exact i32_add rfl (by decide) (by omega) (by omega)
            exact ih1 v1_1 v2_1 x70 o_me_1 z14.2 hI_me_1 hkp_me_1 hz14_1 hkpz14_me_machine po_v1_1 ⟨by omega, by omega⟩ ⟨by omega, by omega⟩ ⟨by omega, by omega⟩ (by omega) (by omega) (by omega) (by omega)
  exact lp1 zfu p0 p1 (0 : Int32) o1 o_me_machine hIo1 hkpo1 hI_me_machine Kp.rf po_p0 ⟨by omega, by omega⟩ ⟨by decide, by decide⟩ ⟨by omega, by omega⟩ (by omega) (by omega) (by omega) (by show _ < 100000; omega)

set_option maxHeartbeats 4000000 in
set_option maxRecDepth 100000 in
theorem s_X1_moved_N (o_me : Ob) (o_me_isles : Ob) (o_me_isles_now : Ob) (o_me_machine : Ob) (o_pool : List CR) (p0 : Int32) (p1 : Int32) (hI_me : IvX1 o_me) (hI_me_isles : IvX2 o_pool o_me_isles) (hI_me_isles_now : IvX4 o_me_isles_now) (hI_me_machine : IvX3 o_me_machine) (hI_pool : PLok o_pool)  : wp (f_X1_moved_N   o_me o_me_isles o_me_isles_now o_me_machine o_pool p0 p1) (fun (y : Int32 × Ob × Ob × Ob) => IvX1 y.2.1 ∧ Kp [] [] [] o_me y.2.1 ∧ IvX4 y.2.2.1 ∧ Kp [] [] [] o_me_isles_now y.2.2.1 ∧ IvX3 y.2.2.2 ∧ Kp [] [] [] o_me_machine y.2.2.2) := by
  have li0 : (-1 : Int32).toInt = (-1) := by decide
  have li1 : (-2 : Int32).toInt = (-2) := by decide
  have li2 : (-3 : Int32).toInt = (-3) := by decide
  have li3 : (0 : Int32).toInt = 0 := by decide
  have li4 : (2 : Int32).toInt = 2 := by decide
  have li5 : (3 : Int32).toInt = 3 := by decide
  have li6 : (999 : Int32).toInt = 999 := by decide
  unfold f_X1_moved_N
  refine wp_if (fun c1 => ?_) (fun c1 => ?_)
  · have c1 := cv_eq (a := p0.toInt) (b := 0) rfl (by decide) c1
    refine wp_bd (s_X8_isRace   p1    ) (fun z2 hz2 => ?_)
    obtain ⟨hz2_0, hz2_1⟩ := hz2
    refine wp_if (fun c3 => ?_) (fun c3 => ?_)
    · have c3 := cv_eq (a := z2.toInt) (b := 0) rfl (by decide) c3
      obtain ⟨w4, ew4⟩ : ∃ z : Int32, z = (-1 : Int32) := ⟨_, rfl⟩
      have tw4 : w4.toInt = (-1) := by rw [ew4]; decide
      rw [show bk_X1_moved_N_39 o_me_isles o_pool  p0 p1 (-1 : Int32) o_me o_me_isles_now o_me_machine = bk_X1_moved_N_39 o_me_isles o_pool  p0 p1 w4 o_me o_me_isles_now o_me_machine from by rw [ew4]]
      unfold bk_X1_moved_N_39
      unfold bk_X1_moved_N_118
      refine wp_if (fun c5 => ?_) (fun c5 => ?_)
      · have c5 := cv_eq (a := w4.toInt) (b := 0) rfl (by decide) c5
        exfalso; omega
      · have c5z := c5
        have c5 := cv_ne (a := w4.toInt) (b := 0) rfl (by decide) c5
        refine wp_some ?_
        exact (show IvX1 o_me ∧ Kp [] [] [] o_me o_me ∧ IvX4 o_me_isles_now ∧ Kp [] [] [] o_me_isles_now o_me_isles_now ∧ IvX3 o_me_machine ∧ Kp [] [] [] o_me_machine o_me_machine from ⟨hI_me, Kp.rf, hI_me_isles_now, Kp.rf, hI_me_machine, Kp.rf⟩)
    · have c3z := c3
      have c3i := hz2_1 c3
      have c3 := cv_ne (a := z2.toInt) (b := 0) rfl (by decide) c3
      refine wp_bd (s_X2_lawInForce   o_me_isles  hI_me_isles  ) (fun z6 hz6 => ?_)
      have hz6_0 := hz6
      refine wp_bd (s_X1_lineUp_Q   o_me o_me_isles o_me_isles_now o_me_machine o_pool z6 p1  hI_me hI_me_isles hI_me_isles_now hI_me_machine hI_pool hz6_0 ⟨by omega, by omega⟩) (fun z7 hz7 => ?_)
      obtain ⟨hz7_0, hz7_1, hz7_2, hz7_3, hz7_4⟩ := hz7
      have hkpz7_me : Kp [] [] [] o_me z7.2.1 := Kp.rf.trans (hz7_2.mono (by decide) (by decide) (by decide))
      have hkpz7_me_machine : Kp [] [] [] o_me_machine z7.2.2 := Kp.rf.trans (hz7_4.mono (by decide) (by decide) (by decide))
      refine wp_if (fun c8 => ?_) (fun c8 => ?_)
      · have c8 := cv_eq (a := z7.1.toInt) (b := 0) rfl (by decide) c8
        obtain ⟨w9, ew9⟩ : ∃ z : Int32, z = (-3 : Int32) := ⟨_, rfl⟩
        have tw9 : w9.toInt = (-3) := by rw [ew9]; decide
        rw [show bk_X1_moved_N_39 o_me_isles o_pool  p0 p1 (-3 : Int32) z7.2.1 o_me_isles_now z7.2.2 = bk_X1_moved_N_39 o_me_isles o_pool  p0 p1 w9 z7.2.1 o_me_isles_now z7.2.2 from by rw [ew9]]
        unfold bk_X1_moved_N_39
        unfold bk_X1_moved_N_118
        refine wp_if (fun c10 => ?_) (fun c10 => ?_)
        · have c10 := cv_eq (a := w9.toInt) (b := 0) rfl (by decide) c10
          exfalso; omega
        · have c10z := c10
          have c10 := cv_ne (a := w9.toInt) (b := 0) rfl (by decide) c10
          refine wp_some ?_
          exact (show IvX1 z7.2.1 ∧ Kp [] [] [] o_me z7.2.1 ∧ IvX4 o_me_isles_now ∧ Kp [] [] [] o_me_isles_now o_me_isles_now ∧ IvX3 z7.2.2 ∧ Kp [] [] [] o_me_machine z7.2.2 from ⟨hz7_1, hkpz7_me, hI_me_isles_now, Kp.rf, hz7_3, hkpz7_me_machine⟩)
      · have c8z := c8
        have c8 := cv_ne (a := z7.1.toInt) (b := 0) rfl (by decide) c8
        obtain ⟨w11, ew11⟩ : ∃ z : Int32, z = (0 : Int32) := ⟨_, rfl⟩
        have tw11 : w11.toInt = 0 := by rw [ew11]; decide
        rw [show bk_X1_moved_N_39 o_me_isles o_pool  p0 p1 (0 : Int32) z7.2.1 o_me_isles_now z7.2.2 = bk_X1_moved_N_39 o_me_isles o_pool  p0 p1 w11 z7.2.1 o_me_isles_now z7.2.2 from by rw [ew11]]
        unfold bk_X1_moved_N_39
        unfold bk_X1_moved_N_118
        refine wp_if (fun c12 => ?_) (fun c12 => ?_)
        · have c12 := cv_eq (a := w11.toInt) (b := 0) rfl (by decide) c12
          unfold bk_X1_moved_N_142
          refine wp_if (fun c13 => ?_) (fun c13 => ?_)
          · have c13 := cv_eq (a := p0.toInt) (b := 0) rfl (by decide) c13
            refine wp_bd (s_X1_heldRace   z7.2.1 o_me_isles o_me_isles_now z7.2.2 o_pool p1  hz7_1 hI_me_isles hI_me_isles_now hz7_3 hI_pool  ⟨by omega, by omega⟩) (fun z14 hz14 => ?_)
            obtain ⟨hz14_0, hz14_1, hz14_2, hz14_3, hz14_4⟩ := hz14
            have hkpz14_me_isles_now : Kp [] [] [] o_me_isles_now z14.2.1 := Kp.rf.trans (hz14_2.mono (by decide) (by decide) (by decide))
            have hkpz14_me_machine : Kp [] [] [] o_me_machine z14.2.2 := hkpz7_me_machine.trans (hz14_4.mono (by decide) (by decide) (by decide))
            refine wp_some ?_
            exact (show IvX1 z7.2.1 ∧ Kp [] [] [] o_me z7.2.1 ∧ IvX4 z14.2.1 ∧ Kp [] [] [] o_me_isles_now z14.2.1 ∧ IvX3 z14.2.2 ∧ Kp [] [] [] o_me_machine z14.2.2 from ⟨hz7_1, hkpz7_me, hz14_1, hkpz14_me_isles_now, hz14_3, hkpz14_me_machine⟩)
          have c13 := cv_ne (a := p0.toInt) (b := 0) rfl (by decide) c13
          refine wp_if (fun c15 => ?_) (fun c15 => ?_)
          · have c15 := cv_eq (a := p0.toInt) (b := 1) rfl (by decide) c15
            exfalso; omega
          have c15 := cv_ne (a := p0.toInt) (b := 1) rfl (by decide) c15
          refine wp_if (fun c16 => ?_) (fun c16 => ?_)
          · have c16 := cv_eq (a := p0.toInt) (b := 2) rfl (by decide) c16
            exfalso; omega
          have c16 := cv_ne (a := p0.toInt) (b := 2) rfl (by decide) c16
          refine wp_bd (s_X1_passedYear   z7.2.1 o_me_isles o_me_isles_now z7.2.2 o_pool  hz7_1 hI_me_isles hI_me_isles_now hz7_3 hI_pool  ) (fun z17 hz17 => ?_)
          obtain ⟨hz17_0, hz17_1, hz17_2, hz17_3, hz17_4⟩ := hz17
          have hkpz17_me_isles_now : Kp [] [] [] o_me_isles_now z17.2.1 := Kp.rf.trans (hz17_2.mono (by decide) (by decide) (by decide))
          have hkpz17_me_machine : Kp [] [] [] o_me_machine z17.2.2 := hkpz7_me_machine.trans (hz17_4.mono (by decide) (by decide) (by decide))
          refine wp_some ?_
          exact (show IvX1 z7.2.1 ∧ Kp [] [] [] o_me z7.2.1 ∧ IvX4 z17.2.1 ∧ Kp [] [] [] o_me_isles_now z17.2.1 ∧ IvX3 z17.2.2 ∧ Kp [] [] [] o_me_machine z17.2.2 from ⟨hz7_1, hkpz7_me, hz17_1, hkpz17_me_isles_now, hz17_3, hkpz17_me_machine⟩)
        · have c12z := c12
          have c12 := cv_ne (a := w11.toInt) (b := 0) rfl (by decide) c12
          exfalso; omega
  · have c1z := c1
    have c1 := cv_ne (a := p0.toInt) (b := 0) rfl (by decide) c1
    refine wp_if (fun c18 => ?_) (fun c18 => ?_)
    · have c18 := cv_eq (a := p0.toInt) (b := 3) rfl (by decide) c18
      refine wp_if (fun c19 => ?_) (fun c19 => ?_)
      · have c19 := cv_lt (a := (gI o_me_isles_now 4).toInt) (b := 999) rfl (by decide) c19
        obtain ⟨w20, ew20⟩ : ∃ z : Int32, z = (0 : Int32) := ⟨_, rfl⟩
        have tw20 : w20.toInt = 0 := by rw [ew20]; decide
        rw [show bk_X1_moved_N_71 o_me_isles o_pool  p0 p1 (0 : Int32) o_me o_me_isles_now o_me_machine = bk_X1_moved_N_71 o_me_isles o_pool  p0 p1 w20 o_me o_me_isles_now o_me_machine from by rw [ew20]]
        unfold bk_X1_moved_N_71
        unfold bk_X1_moved_N_118
        refine wp_if (fun c21 => ?_) (fun c21 => ?_)
        · have c21 := cv_eq (a := w20.toInt) (b := 0) rfl (by decide) c21
          unfold bk_X1_moved_N_142
          refine wp_if (fun c22 => ?_) (fun c22 => ?_)
          · have c22 := cv_eq (a := p0.toInt) (b := 0) rfl (by decide) c22
            exfalso; omega
          have c22 := cv_ne (a := p0.toInt) (b := 0) rfl (by decide) c22
          refine wp_if (fun c23 => ?_) (fun c23 => ?_)
          · have c23 := cv_eq (a := p0.toInt) (b := 1) rfl (by decide) c23
            exfalso; omega
          have c23 := cv_ne (a := p0.toInt) (b := 1) rfl (by decide) c23
          refine wp_if (fun c24 => ?_) (fun c24 => ?_)
          · have c24 := cv_eq (a := p0.toInt) (b := 2) rfl (by decide) c24
            exfalso; omega
          have c24 := cv_ne (a := p0.toInt) (b := 2) rfl (by decide) c24
          refine wp_bd (s_X1_passedYear   o_me o_me_isles o_me_isles_now o_me_machine o_pool  hI_me hI_me_isles hI_me_isles_now hI_me_machine hI_pool  ) (fun z25 hz25 => ?_)
          obtain ⟨hz25_0, hz25_1, hz25_2, hz25_3, hz25_4⟩ := hz25
          have hkpz25_me_isles_now : Kp [] [] [] o_me_isles_now z25.2.1 := Kp.rf.trans (hz25_2.mono (by decide) (by decide) (by decide))
          have hkpz25_me_machine : Kp [] [] [] o_me_machine z25.2.2 := Kp.rf.trans (hz25_4.mono (by decide) (by decide) (by decide))
          refine wp_some ?_
          exact (show IvX1 o_me ∧ Kp [] [] [] o_me o_me ∧ IvX4 z25.2.1 ∧ Kp [] [] [] o_me_isles_now z25.2.1 ∧ IvX3 z25.2.2 ∧ Kp [] [] [] o_me_machine z25.2.2 from ⟨hI_me, Kp.rf, hz25_1, hkpz25_me_isles_now, hz25_3, hkpz25_me_machine⟩)
        · have c21z := c21
          have c21 := cv_ne (a := w20.toInt) (b := 0) rfl (by decide) c21
          exfalso; omega
      · have c19 := cv_nlt (a := (gI o_me_isles_now 4).toInt) (b := 999) rfl (by decide) c19
        obtain ⟨w26, ew26⟩ : ∃ z : Int32, z = (-3 : Int32) := ⟨_, rfl⟩
        have tw26 : w26.toInt = (-3) := by rw [ew26]; decide
        rw [show bk_X1_moved_N_71 o_me_isles o_pool  p0 p1 (-3 : Int32) o_me o_me_isles_now o_me_machine = bk_X1_moved_N_71 o_me_isles o_pool  p0 p1 w26 o_me o_me_isles_now o_me_machine from by rw [ew26]]
        unfold bk_X1_moved_N_71
        unfold bk_X1_moved_N_118
        refine wp_if (fun c27 => ?_) (fun c27 => ?_)
        · have c27 := cv_eq (a := w26.toInt) (b := 0) rfl (by decide) c27
          exfalso; omega
        · have c27z := c27
          have c27 := cv_ne (a := w26.toInt) (b := 0) rfl (by decide) c27
          refine wp_some ?_
          exact (show IvX1 o_me ∧ Kp [] [] [] o_me o_me ∧ IvX4 o_me_isles_now ∧ Kp [] [] [] o_me_isles_now o_me_isles_now ∧ IvX3 o_me_machine ∧ Kp [] [] [] o_me_machine o_me_machine from ⟨hI_me, Kp.rf, hI_me_isles_now, Kp.rf, hI_me_machine, Kp.rf⟩)
    · have c18 := cv_ne (a := p0.toInt) (b := 3) rfl (by decide) c18
      refine wp_bd (s_X2_isPerson   o_me_isles p1  hI_me_isles  ) (fun z28 hz28 => ?_)
      obtain ⟨hz28_0, hz28_1⟩ := hz28
      refine wp_if (fun c29 => ?_) (fun c29 => ?_)
      · have c29 := cv_eq (a := z28.toInt) (b := 0) rfl (by decide) c29
        obtain ⟨w30, ew30⟩ : ∃ z : Int32, z = (-2 : Int32) := ⟨_, rfl⟩
        have tw30 : w30.toInt = (-2) := by rw [ew30]; decide
        rw [show bk_X1_moved_N_116 o_me_isles o_pool  p0 p1 (-2 : Int32) o_me o_me_isles_now o_me_machine = bk_X1_moved_N_116 o_me_isles o_pool  p0 p1 w30 o_me o_me_isles_now o_me_machine from by rw [ew30]]
        unfold bk_X1_moved_N_116
        unfold bk_X1_moved_N_118
        refine wp_if (fun c31 => ?_) (fun c31 => ?_)
        · have c31 := cv_eq (a := w30.toInt) (b := 0) rfl (by decide) c31
          exfalso; omega
        · have c31z := c31
          have c31 := cv_ne (a := w30.toInt) (b := 0) rfl (by decide) c31
          refine wp_some ?_
          exact (show IvX1 o_me ∧ Kp [] [] [] o_me o_me ∧ IvX4 o_me_isles_now ∧ Kp [] [] [] o_me_isles_now o_me_isles_now ∧ IvX3 o_me_machine ∧ Kp [] [] [] o_me_machine o_me_machine from ⟨hI_me, Kp.rf, hI_me_isles_now, Kp.rf, hI_me_machine, Kp.rf⟩)
      · have c29z := c29
        have c29i := hz28_1 c29
        have c29 := cv_ne (a := z28.toInt) (b := 0) rfl (by decide) c29
        refine wp_if (fun c32 => ?_) (fun c32 => ?_)
        · have c32 := cv_eq (a := p0.toInt) (b := 2) rfl (by decide) c32
          refine wp_if (fun c33 => ?_) (fun c33 => ?_)
          · have c33 := cv_eq (a := (gI o_me_isles_now 3).toInt) (b := 0) rfl (by decide) c33
            obtain ⟨w34, ew34⟩ : ∃ z : Int32, z = (-3 : Int32) := ⟨_, rfl⟩
            have tw34 : w34.toInt = (-3) := by rw [ew34]; decide
            rw [show bk_X1_moved_N_116 o_me_isles o_pool  p0 p1 (-3 : Int32) o_me o_me_isles_now o_me_machine = bk_X1_moved_N_116 o_me_isles o_pool  p0 p1 w34 o_me o_me_isles_now o_me_machine from by rw [ew34]]
            unfold bk_X1_moved_N_116
            unfold bk_X1_moved_N_118
            refine wp_if (fun c35 => ?_) (fun c35 => ?_)
            · have c35 := cv_eq (a := w34.toInt) (b := 0) rfl (by decide) c35
              exfalso; omega
            · have c35z := c35
              have c35 := cv_ne (a := w34.toInt) (b := 0) rfl (by decide) c35
              refine wp_some ?_
              exact (show IvX1 o_me ∧ Kp [] [] [] o_me o_me ∧ IvX4 o_me_isles_now ∧ Kp [] [] [] o_me_isles_now o_me_isles_now ∧ IvX3 o_me_machine ∧ Kp [] [] [] o_me_machine o_me_machine from ⟨hI_me, Kp.rf, hI_me_isles_now, Kp.rf, hI_me_machine, Kp.rf⟩)
          · have c33z := c33
            have c33 := cv_ne (a := (gI o_me_isles_now 3).toInt) (b := 0) rfl (by decide) c33
            unfold bk_X1_moved_N_115
            obtain ⟨w36, ew36⟩ : ∃ z : Int32, z = (0 : Int32) := ⟨_, rfl⟩
            have tw36 : w36.toInt = 0 := by rw [ew36]; decide
            rw [show bk_X1_moved_N_116 o_me_isles o_pool  p0 p1 (0 : Int32) o_me o_me_isles_now o_me_machine = bk_X1_moved_N_116 o_me_isles o_pool  p0 p1 w36 o_me o_me_isles_now o_me_machine from by rw [ew36]]
            unfold bk_X1_moved_N_116
            unfold bk_X1_moved_N_118
            refine wp_if (fun c37 => ?_) (fun c37 => ?_)
            · have c37 := cv_eq (a := w36.toInt) (b := 0) rfl (by decide) c37
              unfold bk_X1_moved_N_142
              refine wp_if (fun c38 => ?_) (fun c38 => ?_)
              · have c38 := cv_eq (a := p0.toInt) (b := 0) rfl (by decide) c38
                exfalso; omega
              have c38 := cv_ne (a := p0.toInt) (b := 0) rfl (by decide) c38
              refine wp_if (fun c39 => ?_) (fun c39 => ?_)
              · have c39 := cv_eq (a := p0.toInt) (b := 1) rfl (by decide) c39
                exfalso; omega
              have c39 := cv_ne (a := p0.toInt) (b := 1) rfl (by decide) c39
              refine wp_if (fun c40 => ?_) (fun c40 => ?_)
              · have c40 := cv_eq (a := p0.toInt) (b := 2) rfl (by decide) c40
                refine wp_bd (s_X1_takenGap   o_me o_me_isles o_me_isles_now p1  hI_me hI_me_isles hI_me_isles_now  ⟨by omega, by omega⟩) (fun z41 hz41 => ?_)
                obtain ⟨hz41_0, hz41_1⟩ := hz41
                have hkpz41_me_isles_now : Kp [] [] [] o_me_isles_now z41.2 := Kp.rf.trans (hz41_1.mono (by decide) (by decide) (by decide))
                refine wp_some ?_
                exact (show IvX1 o_me ∧ Kp [] [] [] o_me o_me ∧ IvX4 z41.2 ∧ Kp [] [] [] o_me_isles_now z41.2 ∧ IvX3 o_me_machine ∧ Kp [] [] [] o_me_machine o_me_machine from ⟨hI_me, Kp.rf, hz41_0, hkpz41_me_isles_now, hI_me_machine, Kp.rf⟩)
              have c40 := cv_ne (a := p0.toInt) (b := 2) rfl (by decide) c40
              refine wp_bd (s_X1_passedYear   o_me o_me_isles o_me_isles_now o_me_machine o_pool  hI_me hI_me_isles hI_me_isles_now hI_me_machine hI_pool  ) (fun z42 hz42 => ?_)
              obtain ⟨hz42_0, hz42_1, hz42_2, hz42_3, hz42_4⟩ := hz42
              have hkpz42_me_isles_now : Kp [] [] [] o_me_isles_now z42.2.1 := Kp.rf.trans (hz42_2.mono (by decide) (by decide) (by decide))
              have kz42_k43 : (gI z42.2.1 3).toInt = (gI o_me_isles_now 3).toInt := congrArg Int32.toInt (hz42_2.1 3 (by decide))
              have hkpz42_me_machine : Kp [] [] [] o_me_machine z42.2.2 := Kp.rf.trans (hz42_4.mono (by decide) (by decide) (by decide))
              refine wp_some ?_
              exact (show IvX1 o_me ∧ Kp [] [] [] o_me o_me ∧ IvX4 z42.2.1 ∧ Kp [] [] [] o_me_isles_now z42.2.1 ∧ IvX3 z42.2.2 ∧ Kp [] [] [] o_me_machine z42.2.2 from ⟨hI_me, Kp.rf, hz42_1, hkpz42_me_isles_now, hz42_3, hkpz42_me_machine⟩)
            · have c37z := c37
              have c37 := cv_ne (a := w36.toInt) (b := 0) rfl (by decide) c37
              exfalso; omega
        · have c32 := cv_ne (a := p0.toInt) (b := 2) rfl (by decide) c32
          unfold bk_X1_moved_N_115
          obtain ⟨w44, ew44⟩ : ∃ z : Int32, z = (0 : Int32) := ⟨_, rfl⟩
          have tw44 : w44.toInt = 0 := by rw [ew44]; decide
          rw [show bk_X1_moved_N_116 o_me_isles o_pool  p0 p1 (0 : Int32) o_me o_me_isles_now o_me_machine = bk_X1_moved_N_116 o_me_isles o_pool  p0 p1 w44 o_me o_me_isles_now o_me_machine from by rw [ew44]]
          unfold bk_X1_moved_N_116
          unfold bk_X1_moved_N_118
          refine wp_if (fun c45 => ?_) (fun c45 => ?_)
          · have c45 := cv_eq (a := w44.toInt) (b := 0) rfl (by decide) c45
            unfold bk_X1_moved_N_142
            refine wp_if (fun c46 => ?_) (fun c46 => ?_)
            · have c46 := cv_eq (a := p0.toInt) (b := 0) rfl (by decide) c46
              exfalso; omega
            have c46 := cv_ne (a := p0.toInt) (b := 0) rfl (by decide) c46
            refine wp_if (fun c47 => ?_) (fun c47 => ?_)
            · have c47 := cv_eq (a := p0.toInt) (b := 1) rfl (by decide) c47
              refine wp_bd (s_X1_changedEntry   o_me o_me_isles o_me_isles_now p1  hI_me hI_me_isles hI_me_isles_now  ⟨by omega, by omega⟩) (fun z48 hz48 => ?_)
              obtain ⟨hz48_0, hz48_1, hz48_2⟩ := hz48
              have hkpz48_me_isles_now : Kp [] [] [] o_me_isles_now z48.2 := Kp.rf.trans (hz48_2.mono (by decide) (by decide) (by decide))
              refine wp_some ?_
              exact (show IvX1 o_me ∧ Kp [] [] [] o_me o_me ∧ IvX4 z48.2 ∧ Kp [] [] [] o_me_isles_now z48.2 ∧ IvX3 o_me_machine ∧ Kp [] [] [] o_me_machine o_me_machine from ⟨hI_me, Kp.rf, hz48_1, hkpz48_me_isles_now, hI_me_machine, Kp.rf⟩)
            have c47 := cv_ne (a := p0.toInt) (b := 1) rfl (by decide) c47
            refine wp_if (fun c49 => ?_) (fun c49 => ?_)
            · have c49 := cv_eq (a := p0.toInt) (b := 2) rfl (by decide) c49
              exfalso; omega
            have c49 := cv_ne (a := p0.toInt) (b := 2) rfl (by decide) c49
            refine wp_bd (s_X1_passedYear   o_me o_me_isles o_me_isles_now o_me_machine o_pool  hI_me hI_me_isles hI_me_isles_now hI_me_machine hI_pool  ) (fun z50 hz50 => ?_)
            obtain ⟨hz50_0, hz50_1, hz50_2, hz50_3, hz50_4⟩ := hz50
            have hkpz50_me_isles_now : Kp [] [] [] o_me_isles_now z50.2.1 := Kp.rf.trans (hz50_2.mono (by decide) (by decide) (by decide))
            have hkpz50_me_machine : Kp [] [] [] o_me_machine z50.2.2 := Kp.rf.trans (hz50_4.mono (by decide) (by decide) (by decide))
            refine wp_some ?_
            exact (show IvX1 o_me ∧ Kp [] [] [] o_me o_me ∧ IvX4 z50.2.1 ∧ Kp [] [] [] o_me_isles_now z50.2.1 ∧ IvX3 z50.2.2 ∧ Kp [] [] [] o_me_machine z50.2.2 from ⟨hI_me, Kp.rf, hz50_1, hkpz50_me_isles_now, hz50_3, hkpz50_me_machine⟩)
          · have c45z := c45
            have c45 := cv_ne (a := w44.toInt) (b := 0) rfl (by decide) c45
            exfalso; omega

set_option maxHeartbeats 4000000 in
set_option maxRecDepth 100000 in
theorem s_X8_centuries {rI : Nat → Option Nat} (o_me : Ob) (o_me_machine : Ob) (o_me_isles : Ob) (o_me_isles_now : Ob) (o_me_paper : Ob) (o_me_paper_now : Ob) (o_me_paperCourt : Ob) (o_pool : List CR) (p0 : Int32) (p1 : Int32) (hI_me : IvX8 rI o_me) (hI_me_machine : IvX3 o_me_machine) (hI_me_isles : IvX2 o_pool o_me_isles) (hI_me_isles_now : IvX4 o_me_isles_now) (hI_me_paper : IvX2 o_pool o_me_paper) (hI_me_paper_now : IvX4 o_me_paper_now) (hI_me_paperCourt : IvX1 o_me_paperCourt) (hI_pool : PLok o_pool)  : wp (f_X8_centuries   o_me o_me_machine o_me_isles o_me_isles_now o_me_paper o_me_paper_now o_me_paperCourt o_pool p0 p1) (fun (y : Int32 × Ob × Ob × Ob × Ob × Ob) => IvX8 rI y.2.1 ∧ Kp [13, 14, 15, 16] [] [] o_me y.2.1 ∧ IvX3 y.2.2.1 ∧ Kp [] [] [] o_me_machine y.2.2.1 ∧ IvX2 o_pool y.2.2.2.1 ∧ Kp [] [] [] o_me_paper y.2.2.2.1 ∧ IvX4 y.2.2.2.2.1 ∧ Kp [] [] [] o_me_paper_now y.2.2.2.2.1 ∧ IvX1 y.2.2.2.2.2 ∧ Kp [] [] [] o_me_paperCourt y.2.2.2.2.2) := by
  have li0 : (-1 : Int32).toInt = (-1) := by decide
  have li1 : (-3 : Int32).toInt = (-3) := by decide
  have li2 : (0 : Int32).toInt = 0 := by decide
  have li3 : (1 : Int32).toInt = 1 := by decide
  have li4 : (1000000 : Int32).toInt = 1000000 := by decide
  have li5 : (2 : Int32).toInt = 2 := by decide
  have li6 : (3 : Int32).toInt = 3 := by decide
  have li7 : (4 : Int32).toInt = 4 := by decide
  have li8 : (60 : Int32).toInt = 60 := by decide
  have li9 : (999 : Int32).toInt = 999 := by decide
  unfold f_X8_centuries
  refine wp_if (fun c1 => ?_) (fun c1 => ?_)
  · have c1 := cv_lt (a := p0.toInt) (b := 0) rfl (by decide) c1
    unfold bk_X8_centuries_22
    refine wp_bd (s_X8_refuse   o_me (-1 : Int32)  hI_me  ) (fun z2 hz2 => ?_)
    obtain ⟨hz2_0, hz2_1⟩ := hz2
    have hkpz2_me : Kp [13, 14, 15, 16] [] [] o_me z2.2 := Kp.rf.trans (hz2_1.mono (by decide) (by decide) (by decide))
    refine wp_some ?_
    exact (show IvX8 rI z2.2 ∧ Kp [13, 14, 15, 16] [] [] o_me z2.2 ∧ IvX3 o_me_machine ∧ Kp [] [] [] o_me_machine o_me_machine ∧ IvX2 o_pool o_me_paper ∧ Kp [] [] [] o_me_paper o_me_paper ∧ IvX4 o_me_paper_now ∧ Kp [] [] [] o_me_paper_now o_me_paper_now ∧ IvX1 o_me_paperCourt ∧ Kp [] [] [] o_me_paperCourt o_me_paperCourt from ⟨hz2_0, hkpz2_me, hI_me_machine, Kp.rf, hI_me_paper, Kp.rf, hI_me_paper_now, Kp.rf, hI_me_paperCourt, Kp.rf⟩)
  · have c1 := cv_nlt (a := p0.toInt) (b := 0) rfl (by decide) c1
    refine wp_if (fun c3 => ?_) (fun c3 => ?_)
    · have c3 := cv_gt (a := p0.toInt) (b := 1000000) rfl (by decide) c3
      unfold bk_X8_centuries_22
      refine wp_bd (s_X8_refuse   o_me (-1 : Int32)  hI_me  ) (fun z4 hz4 => ?_)
      obtain ⟨hz4_0, hz4_1⟩ := hz4
      have hkpz4_me : Kp [13, 14, 15, 16] [] [] o_me z4.2 := Kp.rf.trans (hz4_1.mono (by decide) (by decide) (by decide))
      refine wp_some ?_
      exact (show IvX8 rI z4.2 ∧ Kp [13, 14, 15, 16] [] [] o_me z4.2 ∧ IvX3 o_me_machine ∧ Kp [] [] [] o_me_machine o_me_machine ∧ IvX2 o_pool o_me_paper ∧ Kp [] [] [] o_me_paper o_me_paper ∧ IvX4 o_me_paper_now ∧ Kp [] [] [] o_me_paper_now o_me_paper_now ∧ IvX1 o_me_paperCourt ∧ Kp [] [] [] o_me_paperCourt o_me_paperCourt from ⟨hz4_0, hkpz4_me, hI_me_machine, Kp.rf, hI_me_paper, Kp.rf, hI_me_paper_now, Kp.rf, hI_me_paperCourt, Kp.rf⟩)
    · have c3 := cv_ngt (a := p0.toInt) (b := 1000000) rfl (by decide) c3
      refine wp_if (fun c5 => ?_) (fun c5 => ?_)
      · have c5 := cv_lt (a := p1.toInt) (b := 1) rfl (by decide) c5
        unfold bk_X8_centuries_22
        refine wp_bd (s_X8_refuse   o_me (-1 : Int32)  hI_me  ) (fun z6 hz6 => ?_)
        obtain ⟨hz6_0, hz6_1⟩ := hz6
        have hkpz6_me : Kp [13, 14, 15, 16] [] [] o_me z6.2 := Kp.rf.trans (hz6_1.mono (by decide) (by decide) (by decide))
        refine wp_some ?_
        exact (show IvX8 rI z6.2 ∧ Kp [13, 14, 15, 16] [] [] o_me z6.2 ∧ IvX3 o_me_machine ∧ Kp [] [] [] o_me_machine o_me_machine ∧ IvX2 o_pool o_me_paper ∧ Kp [] [] [] o_me_paper o_me_paper ∧ IvX4 o_me_paper_now ∧ Kp [] [] [] o_me_paper_now o_me_paper_now ∧ IvX1 o_me_paperCourt ∧ Kp [] [] [] o_me_paperCourt o_me_paperCourt from ⟨hz6_0, hkpz6_me, hI_me_machine, Kp.rf, hI_me_paper, Kp.rf, hI_me_paper_now, Kp.rf, hI_me_paperCourt, Kp.rf⟩)
      · have c5 := cv_nlt (a := p1.toInt) (b := 1) rfl (by decide) c5
        refine wp_if (fun c7 => ?_) (fun c7 => ?_)
        · have c7 := cv_le (a := p1.toInt) (b := 60) rfl (by decide) c7
          have t8 := igX2_7 hI_me_isles
          refine wp_if (fun c9 => ?_) (fun c9 => ?_)
          · have c9 := cv_eq (a := (gI o_me_isles 7).toInt) (b := 0) rfl (by decide) c9
            refine wp_bd (s_X8_refuse   o_me (-3 : Int32)  hI_me  ) (fun z10 hz10 => ?_)
            obtain ⟨hz10_0, hz10_1⟩ := hz10
            have hkpz10_me : Kp [13, 14, 15, 16] [] [] o_me z10.2 := Kp.rf.trans (hz10_1.mono (by decide) (by decide) (by decide))
            refine wp_some ?_
            exact (show IvX8 rI z10.2 ∧ Kp [13, 14, 15, 16] [] [] o_me z10.2 ∧ IvX3 o_me_machine ∧ Kp [] [] [] o_me_machine o_me_machine ∧ IvX2 o_pool o_me_paper ∧ Kp [] [] [] o_me_paper o_me_paper ∧ IvX4 o_me_paper_now ∧ Kp [] [] [] o_me_paper_now o_me_paper_now ∧ IvX1 o_me_paperCourt ∧ Kp [] [] [] o_me_paperCourt o_me_paperCourt from ⟨hz10_0, hkpz10_me, hI_me_machine, Kp.rf, hI_me_paper, Kp.rf, hI_me_paper_now, Kp.rf, hI_me_paperCourt, Kp.rf⟩)
          · have c9z := c9
            have c9 := cv_ne (a := (gI o_me_isles 7).toInt) (b := 0) rfl (by decide) c9
            refine wp_bd (s_X2_set_O   o_me_paper o_me_paper_now o_pool o_me_isles o_me_isles_now  hI_me_paper hI_me_paper_now hI_pool hI_me_isles hI_me_isles_now  ) (fun z11 hz11 => ?_)
            obtain ⟨hz11_0, hz11_1, hz11_2, hz11_3⟩ := hz11
            have hkpz11_me_paper : Kp [] [] [] o_me_paper z11.1 := Kp.rf.trans (hz11_1.mono (by decide) (by decide) (by decide))
            have hkpz11_me_paper_now : Kp [] [] [] o_me_paper_now z11.2 := Kp.rf.trans (hz11_3.mono (by decide) (by decide) (by decide))
            have lp1 : ∀ (N1 : Nat) (v2_1 : Int32) (v3_1 : Int32) (v4_1 : Int32) (v5_1 : Int32) (o_me_1 : Ob) (o_me_machine_1 : Ob) (o_me_paper_1 : Ob) (o_me_paper_now_1 : Ob) (o_me_paperCourt_1 : Ob), IvX8 rI o_me_1 → Kp [13, 14, 15, 16] [] [] o_me o_me_1 → IvX3 o_me_machine_1 → Kp [] [] [] o_me_machine o_me_machine_1 → IvX2 o_pool o_me_paper_1 → Kp [] [] [] o_me_paper o_me_paper_1 → IvX4 o_me_paper_now_1 → Kp [] [] [] o_me_paper_now o_me_paper_now_1 → IvX1 o_me_paperCourt_1 → Kp [] [] [] o_me_paperCourt o_me_paperCourt_1 → (1 ≤ v2_1.toInt ∧ v2_1.toInt ≤ 60) → (0 ≤ v4_1.toInt ∧ v4_1.toInt ≤ 60) → (0 ≤ v5_1.toInt ∧ v5_1.toInt ≤ 60) → (v4_1.toInt ≤ v2_1.toInt + 0) → (v4_1.toInt ≤ v5_1.toInt + 0) → (v5_1.toInt ≤ v2_1.toInt + 0) → (v2_1.toInt ≤ p1.toInt + 0) → (p1.toInt ≤ v2_1.toInt + 0) → (v4_1.toInt ≤ p1.toInt + 0) → (v5_1.toInt ≤ p1.toInt + 0) → (60 - v5_1.toInt).toNat < N1 → wp (lp_X8_centuries_64 o_me_isles o_me_isles_now o_pool  N1 (v2_1, v3_1, v4_1, v5_1, o_me_1, o_me_machine_1, o_me_paper_1, o_me_paper_now_1, o_me_paperCourt_1)) (fun (y : Int32 × Ob × Ob × Ob × Ob × Ob) => IvX8 rI y.2.1 ∧ Kp [13, 14, 15, 16] [] [] o_me y.2.1 ∧ IvX3 y.2.2.1 ∧ Kp [] [] [] o_me_machine y.2.2.1 ∧ IvX2 o_pool y.2.2.2.1 ∧ Kp [] [] [] o_me_paper y.2.2.2.1 ∧ IvX4 y.2.2.2.2.1 ∧ Kp [] [] [] o_me_paper_now y.2.2.2.2.1 ∧ IvX1 y.2.2.2.2.2 ∧ Kp [] [] [] o_me_paperCourt y.2.2.2.2.2) := by
              intro N1
              induction N1 with
              | zero =>
                intro v2_1 v3_1 v4_1 v5_1 o_me_1 o_me_machine_1 o_me_paper_1 o_me_paper_now_1 o_me_paperCourt_1 hI_me_1 hkp_me_1 hI_me_machine_1 hkp_me_machine_1 hI_me_paper_1 hkp_me_paper_1 hI_me_paper_now_1 hkp_me_paper_now_1 hI_me_paperCourt_1 hkp_me_paperCourt_1 hh12 hh13 hh14 hh15 hh16 hh17 hh18 hh19 hh20 hh21 hN1
                exact absurd hN1 (Nat.not_lt_zero _)
              | succ N1 ihx =>
                have ih1 := ihx
                intro v2_1 v3_1 v4_1 v5_1 o_me_1 o_me_machine_1 o_me_paper_1 o_me_paper_now_1 o_me_paperCourt_1 hI_me_1 hkp_me_1 hI_me_machine_1 hkp_me_machine_1 hI_me_paper_1 hkp_me_paper_1 hI_me_paper_now_1 hkp_me_paper_now_1 hI_me_paperCourt_1 hkp_me_paperCourt_1 hh12 hh13 hh14 hh15 hh16 hh17 hh18 hh19 hh20 hh21 hN1
                show wp (lb_X8_centuries_64 o_me_isles o_me_isles_now o_pool  (lp_X8_centuries_64 o_me_isles o_me_isles_now o_pool  N1) v2_1 v3_1 v4_1 v5_1 o_me_1 o_me_machine_1 o_me_paper_1 o_me_paper_now_1 o_me_paperCourt_1) (fun (y : Int32 × Ob × Ob × Ob × Ob × Ob) => IvX8 rI y.2.1 ∧ Kp [13, 14, 15, 16] [] [] o_me y.2.1 ∧ IvX3 y.2.2.1 ∧ Kp [] [] [] o_me_machine y.2.2.1 ∧ IvX2 o_pool y.2.2.2.1 ∧ Kp [] [] [] o_me_paper y.2.2.2.1 ∧ IvX4 y.2.2.2.2.1 ∧ Kp [] [] [] o_me_paper_now y.2.2.2.2.1 ∧ IvX1 y.2.2.2.2.2 ∧ Kp [] [] [] o_me_paperCourt y.2.2.2.2.2)
                unfold lb_X8_centuries_64
                refine wp_if (fun c22 => ?_) (fun c22 => ?_)
                · have c22 := cv_ge (a := v5_1.toInt) (b := v2_1.toInt) rfl rfl c22
                  unfold bk_X8_centuries_194
                  refine wp_bd (s_X8_grant   o_me_1 v4_1  hI_me_1  ) (fun z23 hz23 => ?_)
                  obtain ⟨hz23_0, hz23_1⟩ := hz23
                  have hkpz23_me : Kp [13, 14, 15, 16] [] [] o_me z23.2 := hkp_me_1.trans (hz23_1.mono (by decide) (by decide) (by decide))
                  refine wp_some ?_
                  exact (show IvX8 rI z23.2 ∧ Kp [13, 14, 15, 16] [] [] o_me z23.2 ∧ IvX3 o_me_machine_1 ∧ Kp [] [] [] o_me_machine o_me_machine_1 ∧ IvX2 o_pool o_me_paper_1 ∧ Kp [] [] [] o_me_paper o_me_paper_1 ∧ IvX4 o_me_paper_now_1 ∧ Kp [] [] [] o_me_paper_now o_me_paper_now_1 ∧ IvX1 o_me_paperCourt_1 ∧ Kp [] [] [] o_me_paperCourt o_me_paperCourt_1 from ⟨hz23_0, hkpz23_me, hI_me_machine_1, hkp_me_machine_1, hI_me_paper_1, hkp_me_paper_1, hI_me_paper_now_1, hkp_me_paper_now_1, hI_me_paperCourt_1, hkp_me_paperCourt_1⟩)
                · have c22 := cv_nge (a := v5_1.toInt) (b := v2_1.toInt) rfl rfl c22
                  refine wp_if (fun c24 => ?_) (fun c24 => ?_)
                  · have c24 := cv_ge (a := (gI o_me_paper_now_1 4).toInt) (b := 999) rfl (by decide) c24
                    unfold bk_X8_centuries_194
                    refine wp_bd (s_X8_grant   o_me_1 v4_1  hI_me_1  ) (fun z25 hz25 => ?_)
                    obtain ⟨hz25_0, hz25_1⟩ := hz25
                    have hkpz25_me : Kp [13, 14, 15, 16] [] [] o_me z25.2 := hkp_me_1.trans (hz25_1.mono (by decide) (by decide) (by decide))
                    refine wp_some ?_
                    exact (show IvX8 rI z25.2 ∧ Kp [13, 14, 15, 16] [] [] o_me z25.2 ∧ IvX3 o_me_machine_1 ∧ Kp [] [] [] o_me_machine o_me_machine_1 ∧ IvX2 o_pool o_me_paper_1 ∧ Kp [] [] [] o_me_paper o_me_paper_1 ∧ IvX4 o_me_paper_now_1 ∧ Kp [] [] [] o_me_paper_now o_me_paper_now_1 ∧ IvX1 o_me_paperCourt_1 ∧ Kp [] [] [] o_me_paperCourt o_me_paperCourt_1 from ⟨hz25_0, hkpz25_me, hI_me_machine_1, hkp_me_machine_1, hI_me_paper_1, hkp_me_paper_1, hI_me_paper_now_1, hkp_me_paper_now_1, hI_me_paperCourt_1, hkp_me_paperCourt_1⟩)
                  · have c24 := cv_nge (a := (gI o_me_paper_now_1 4).toInt) (b := 999) rfl (by decide) c24
                    refine wp_bd (s_X8_nextDraw   v3_1    ) (fun z26 hz26 => ?_)
                    refine wp_bd (s_X8_nextDraw   z26    ) (fun z27 hz27 => ?_)
                    refine wp_bd (s_X8_nextDraw   z27    ) (fun z28 hz28 => ?_)
                    refine wp_if (fun c29 => ?_) (fun c29 => ?_)
                    · have c29 := cv_ge (a := (z28 - z28 / (4 : Int32) * (4 : Int32)).toInt) (b := 2) rfl (by decide) c29
                      refine wp_if (fun c30 => ?_) (fun c30 => ?_)
                      · have c30 := cv_eq (a := (z28 - z28 / (4 : Int32) * (4 : Int32)).toInt) (b := 2) rfl (by decide) c30
                        obtain ⟨w31, ew31⟩ : ∃ z : Int32, z = (0 : Int32) := ⟨_, rfl⟩
                        have tw31 : w31.toInt = 0 := by rw [ew31]; decide
                        rw [show bk_X8_centuries_128 o_me_isles o_me_isles_now o_pool (lp_X8_centuries_64 o_me_isles o_me_isles_now o_pool  N1) v2_1 z28 v4_1 v5_1 z26 z27 (0 : Int32) o_me_1 o_me_machine_1 o_me_paper_1 o_me_paper_now_1 o_me_paperCourt_1 = bk_X8_centuries_128 o_me_isles o_me_isles_now o_pool (lp_X8_centuries_64 o_me_isles o_me_isles_now o_pool  N1) v2_1 z28 v4_1 v5_1 z26 z27 w31 o_me_1 o_me_machine_1 o_me_paper_1 o_me_paper_now_1 o_me_paperCourt_1 from by rw [ew31]]
                        unfold bk_X8_centuries_128
                        refine wp_if (fun c32 => ?_) (fun c32 => ?_)
                        · have c32 := cv_eq (a := w31.toInt) (b := 0) rfl (by decide) c32
                          obtain ⟨w33, ew33⟩ : ∃ z : Int32, z = z27 - z27 / (4 : Int32) * (4 : Int32) := ⟨_, rfl⟩
                          have tw33 : w33.toInt = (z27 - z27 / (4 : Int32) * (4 : Int32)).toInt := by rw [ew33]
                          rw [show bk_X8_centuries_158 o_me_isles o_me_isles_now o_pool (lp_X8_centuries_64 o_me_isles o_me_isles_now o_pool  N1) v2_1 z28 v4_1 v5_1 w31 (z27 - z27 / (4 : Int32) * (4 : Int32)) w31 o_me_1 o_me_machine_1 o_me_paper_1 o_me_paper_now_1 o_me_paperCourt_1 = bk_X8_centuries_158 o_me_isles o_me_isles_now o_pool (lp_X8_centuries_64 o_me_isles o_me_isles_now o_pool  N1) v2_1 z28 v4_1 v5_1 w31 w33 w31 o_me_1 o_me_machine_1 o_me_paper_1 o_me_paper_now_1 o_me_paperCourt_1 from by rw [ew33]]
                          unfold bk_X8_centuries_158
                          refine wp_bd (s_X1_moved_N   o_me_paperCourt_1 o_me_paper_1 o_me_paper_now_1 o_me_machine_1 o_pool w31 w33  hI_me_paperCourt_1 hI_me_paper_1 hI_me_paper_now_1 hI_me_machine_1 hI_pool  ) (fun z34 hz34 => ?_)
                          obtain ⟨hz34_0, hz34_1, hz34_2, hz34_3, hz34_4, hz34_5⟩ := hz34
                          have hkpz34_me_paperCourt : Kp [] [] [] o_me_paperCourt z34.2.1 := hkp_me_paperCourt_1.trans (hz34_1.mono (by decide) (by decide) (by decide))
                          have hkpz34_me_paper_now : Kp [] [] [] o_me_paper_now z34.2.2.1 := hkp_me_paper_now_1.trans (hz34_3.mono (by decide) (by decide) (by decide))
                          have hkpz34_me_machine : Kp [] [] [] o_me_machine z34.2.2.2 := hkp_me_machine_1.trans (hz34_5.mono (by decide) (by decide) (by decide))
                          refine wp_if (fun c35 => ?_) (fun c35 => ?_)
                          · have c35 := cv_eq (a := w31.toInt) (b := 0) rfl (by decide) c35
                            refine wp_if (fun c36 => ?_) (fun c36 => ?_)
                            · have c36 := cv_lt (a := z34.1.toInt) (b := 0) rfl (by decide) c36
                              unfold bk_X8_centuries_177
                              refine wp_bd (s_X1_moved_N   z34.2.1 o_me_paper_1 z34.2.2.1 z34.2.2.2 o_pool (3 : Int32) (0 : Int32)  hz34_0 hI_me_paper_1 hz34_2 hz34_4 hI_pool  ) (fun z37 hz37 => ?_)
                              obtain ⟨hz37_0, hz37_1, hz37_2, hz37_3, hz37_4, hz37_5⟩ := hz37
                              have hkpz37_me_paperCourt : Kp [] [] [] o_me_paperCourt z37.2.1 := hkpz34_me_paperCourt.trans (hz37_1.mono (by decide) (by decide) (by decide))
                              have hkpz37_me_paper_now : Kp [] [] [] o_me_paper_now z37.2.2.1 := hkpz34_me_paper_now.trans (hz37_3.mono (by decide) (by decide) (by decide))
                              have hkpz37_me_machine : Kp [] [] [] o_me_machine z37.2.2.2 := hkpz34_me_machine.trans (hz37_5.mono (by decide) (by decide) (by decide))
                              refine wp_lt (fun x38 ex38 => ?_)
                              have tx38 : x38.toInt = v5_1.toInt + 1 := by rw [ex38]; exact i32_add rfl (by decide) (by omega) (by omega)
                              exact ih1 v2_1 z28 v4_1 x38 o_me_1 z37.2.2.2 o_me_paper_1 z37.2.2.1 z37.2.1 hI_me_1 hkp_me_1 hz37_4 hkpz37_me_machine hI_me_paper_1 hkp_me_paper_1 hz37_2 hkpz37_me_paper_now hz37_0 hkpz37_me_paperCourt ⟨by omega, by omega⟩ ⟨by omega, by omega⟩ ⟨by omega, by omega⟩ (by omega) (by omega) (by omega) (by omega) (by omega) (by omega) (by omega) (by omega)
                            · have c36 := cv_nlt (a := z34.1.toInt) (b := 0) rfl (by decide) c36
                              refine wp_lt (fun x39 ex39 => ?_)
                              have tx39 : x39.toInt = v4_1.toInt + 1 := by rw [ex39]; exact i32_add rfl (by decide) (by omega) (by omega)
                              unfold bk_X8_centuries_177
                              refine wp_bd (s_X1_moved_N   z34.2.1 o_me_paper_1 z34.2.2.1 z34.2.2.2 o_pool (3 : Int32) (0 : Int32)  hz34_0 hI_me_paper_1 hz34_2 hz34_4 hI_pool  ) (fun z40 hz40 => ?_)
                              obtain ⟨hz40_0, hz40_1, hz40_2, hz40_3, hz40_4, hz40_5⟩ := hz40
                              have hkpz40_me_paperCourt : Kp [] [] [] o_me_paperCourt z40.2.1 := hkpz34_me_paperCourt.trans (hz40_1.mono (by decide) (by decide) (by decide))
                              have hkpz40_me_paper_now : Kp [] [] [] o_me_paper_now z40.2.2.1 := hkpz34_me_paper_now.trans (hz40_3.mono (by decide) (by decide) (by decide))
                              have hkpz40_me_machine : Kp [] [] [] o_me_machine z40.2.2.2 := hkpz34_me_machine.trans (hz40_5.mono (by decide) (by decide) (by decide))
                              refine wp_lt (fun x41 ex41 => ?_)
                              have tx41 : x41.toInt = v5_1.toInt + 1 := by rw [ex41]; exact i32_add rfl (by decide) (by omega) (by omega)
                              exact ih1 v2_1 z28 x39 x41 o_me_1 z40.2.2.2 o_me_paper_1 z40.2.2.1 z40.2.1 hI_me_1 hkp_me_1 hz40_4 hkpz40_me_machine hI_me_paper_1 hkp_me_paper_1 hz40_2 hkpz40_me_paper_now hz40_0 hkpz40_me_paperCourt ⟨by omega, by omega⟩ ⟨by omega, by omega⟩ ⟨by omega, by omega⟩ (by omega) (by omega) (by omega) (by omega) (by omega) (by omega) (by omega) (by omega)
                          · have c35z := c35
                            have c35 := cv_ne (a := w31.toInt) (b := 0) rfl (by decide) c35
                            exfalso; omega
                        · have c32z := c32
                          have c32 := cv_ne (a := w31.toInt) (b := 0) rfl (by decide) c32
                          exfalso; omega
                      · have c30 := cv_ne (a := (z28 - z28 / (4 : Int32) * (4 : Int32)).toInt) (b := 2) rfl (by decide) c30
                        obtain ⟨w42, ew42⟩ : ∃ z : Int32, z = (2 : Int32) := ⟨_, rfl⟩
                        have tw42 : w42.toInt = 2 := by rw [ew42]; decide
                        rw [show bk_X8_centuries_128 o_me_isles o_me_isles_now o_pool (lp_X8_centuries_64 o_me_isles o_me_isles_now o_pool  N1) v2_1 z28 v4_1 v5_1 z26 z27 (2 : Int32) o_me_1 o_me_machine_1 o_me_paper_1 o_me_paper_now_1 o_me_paperCourt_1 = bk_X8_centuries_128 o_me_isles o_me_isles_now o_pool (lp_X8_centuries_64 o_me_isles o_me_isles_now o_pool  N1) v2_1 z28 v4_1 v5_1 z26 z27 w42 o_me_1 o_me_machine_1 o_me_paper_1 o_me_paper_now_1 o_me_paperCourt_1 from by rw [ew42]]
                        unfold bk_X8_centuries_128
                        refine wp_if (fun c43 => ?_) (fun c43 => ?_)
                        · have c43 := cv_eq (a := w42.toInt) (b := 0) rfl (by decide) c43
                          exfalso; omega
                        · have c43z := c43
                          have c43 := cv_ne (a := w42.toInt) (b := 0) rfl (by decide) c43
                          refine wp_gd (decide_eq_true (fun e9 => by have e8 := congrArg Int32.toInt e9; have e7 : (0 : Int32).toInt = 0 := (by decide); omega)) ?_
                          obtain ⟨w44, ew44⟩ : ∃ z : Int32, z = z26 - z26 / (gI o_me_isles 7) * (gI o_me_isles 7) := ⟨_, rfl⟩
                          have tw44 : w44.toInt = (z26 - z26 / (gI o_me_isles 7) * (gI o_me_isles 7)).toInt := by rw [ew44]
                          rw [show bk_X8_centuries_158 o_me_isles o_me_isles_now o_pool (lp_X8_centuries_64 o_me_isles o_me_isles_now o_pool  N1) v2_1 z28 v4_1 v5_1 w42 (z26 - z26 / (gI o_me_isles 7) * (gI o_me_isles 7)) w42 o_me_1 o_me_machine_1 o_me_paper_1 o_me_paper_now_1 o_me_paperCourt_1 = bk_X8_centuries_158 o_me_isles o_me_isles_now o_pool (lp_X8_centuries_64 o_me_isles o_me_isles_now o_pool  N1) v2_1 z28 v4_1 v5_1 w42 w44 w42 o_me_1 o_me_machine_1 o_me_paper_1 o_me_paper_now_1 o_me_paperCourt_1 from by rw [ew44]]
                          unfold bk_X8_centuries_158
                          refine wp_bd (s_X1_moved_N   o_me_paperCourt_1 o_me_paper_1 o_me_paper_now_1 o_me_machine_1 o_pool w42 w44  hI_me_paperCourt_1 hI_me_paper_1 hI_me_paper_now_1 hI_me_machine_1 hI_pool  ) (fun z45 hz45 => ?_)
                          obtain ⟨hz45_0, hz45_1, hz45_2, hz45_3, hz45_4, hz45_5⟩ := hz45
                          have hkpz45_me_paperCourt : Kp [] [] [] o_me_paperCourt z45.2.1 := hkp_me_paperCourt_1.trans (hz45_1.mono (by decide) (by decide) (by decide))
                          have hkpz45_me_paper_now : Kp [] [] [] o_me_paper_now z45.2.2.1 := hkp_me_paper_now_1.trans (hz45_3.mono (by decide) (by decide) (by decide))
                          have hkpz45_me_machine : Kp [] [] [] o_me_machine z45.2.2.2 := hkp_me_machine_1.trans (hz45_5.mono (by decide) (by decide) (by decide))
                          refine wp_if (fun c46 => ?_) (fun c46 => ?_)
                          · have c46 := cv_eq (a := w42.toInt) (b := 0) rfl (by decide) c46
                            exfalso; omega
                          · have c46z := c46
                            have c46 := cv_ne (a := w42.toInt) (b := 0) rfl (by decide) c46
                            unfold bk_X8_centuries_177
                            refine wp_bd (s_X1_moved_N   z45.2.1 o_me_paper_1 z45.2.2.1 z45.2.2.2 o_pool (3 : Int32) (0 : Int32)  hz45_0 hI_me_paper_1 hz45_2 hz45_4 hI_pool  ) (fun z47 hz47 => ?_)
                            obtain ⟨hz47_0, hz47_1, hz47_2, hz47_3, hz47_4, hz47_5⟩ := hz47
                            have hkpz47_me_paperCourt : Kp [] [] [] o_me_paperCourt z47.2.1 := hkpz45_me_paperCourt.trans (hz47_1.mono (by decide) (by decide) (by decide))
                            have hkpz47_me_paper_now : Kp [] [] [] o_me_paper_now z47.2.2.1 := hkpz45_me_paper_now.trans (hz47_3.mono (by decide) (by decide) (by decide))
                            have hkpz47_me_machine : Kp [] [] [] o_me_machine z47.2.2.2 := hkpz45_me_machine.trans (hz47_5.mono (by decide) (by decide) (by decide))
                            refine wp_lt (fun x48 ex48 => ?_)
                            have tx48 : x48.toInt = v5_1.toInt + 1 := by rw [ex48]; exact i32_add rfl (by decide) (by omega) (by omega)
                            exact ih1 v2_1 z28 v4_1 x48 o_me_1 z47.2.2.2 o_me_paper_1 z47.2.2.1 z47.2.1 hI_me_1 hkp_me_1 hz47_4 hkpz47_me_machine hI_me_paper_1 hkp_me_paper_1 hz47_2 hkpz47_me_paper_now hz47_0 hkpz47_me_paperCourt ⟨by omega, by omega⟩ ⟨by omega, by omega⟩ ⟨by omega, by omega⟩ (by omega) (by omega) (by omega) (by omega) (by omega) (by omega) (by omega) (by omega)
                    · have c29 := cv_nge (a := (z28 - z28 / (4 : Int32) * (4 : Int32)).toInt) (b := 2) rfl (by decide) c29
                      obtain ⟨w49, ew49⟩ : ∃ z : Int32, z = (1 : Int32) := ⟨_, rfl⟩
                      have tw49 : w49.toInt = 1 := by rw [ew49]; decide
                      rw [show bk_X8_centuries_128 o_me_isles o_me_isles_now o_pool (lp_X8_centuries_64 o_me_isles o_me_isles_now o_pool  N1) v2_1 z28 v4_1 v5_1 z26 z27 (1 : Int32) o_me_1 o_me_machine_1 o_me_paper_1 o_me_paper_now_1 o_me_paperCourt_1 = bk_X8_centuries_128 o_me_isles o_me_isles_now o_pool (lp_X8_centuries_64 o_me_isles o_me_isles_now o_pool  N1) v2_1 z28 v4_1 v5_1 z26 z27 w49 o_me_1 o_me_machine_1 o_me_paper_1 o_me_paper_now_1 o_me_paperCourt_1 from by rw [ew49]]
                      unfold bk_X8_centuries_128
                      refine wp_if (fun c50 => ?_) (fun c50 => ?_)
                      · have c50 := cv_eq (a := w49.toInt) (b := 0) rfl (by decide) c50
                        exfalso; omega
                      · have c50z := c50
                        have c50 := cv_ne (a := w49.toInt) (b := 0) rfl (by decide) c50
                        refine wp_gd (decide_eq_true (fun e9 => by have e8 := congrArg Int32.toInt e9; have e7 : (0 : Int32).toInt = 0 := (by decide); omega)) ?_
                        obtain ⟨w51, ew51⟩ : ∃ z : Int32, z = z26 - z26 / (gI o_me_isles 7) * (gI o_me_isles 7) := ⟨_, rfl⟩
                        have tw51 : w51.toInt = (z26 - z26 / (gI o_me_isles 7) * (gI o_me_isles 7)).toInt := by rw [ew51]
                        rw [show bk_X8_centuries_158 o_me_isles o_me_isles_now o_pool (lp_X8_centuries_64 o_me_isles o_me_isles_now o_pool  N1) v2_1 z28 v4_1 v5_1 w49 (z26 - z26 / (gI o_me_isles 7) * (gI o_me_isles 7)) w49 o_me_1 o_me_machine_1 o_me_paper_1 o_me_paper_now_1 o_me_paperCourt_1 = bk_X8_centuries_158 o_me_isles o_me_isles_now o_pool (lp_X8_centuries_64 o_me_isles o_me_isles_now o_pool  N1) v2_1 z28 v4_1 v5_1 w49 w51 w49 o_me_1 o_me_machine_1 o_me_paper_1 o_me_paper_now_1 o_me_paperCourt_1 from by rw [ew51]]
                        unfold bk_X8_centuries_158
                        refine wp_bd (s_X1_moved_N   o_me_paperCourt_1 o_me_paper_1 o_me_paper_now_1 o_me_machine_1 o_pool w49 w51  hI_me_paperCourt_1 hI_me_paper_1 hI_me_paper_now_1 hI_me_machine_1 hI_pool  ) (fun z52 hz52 => ?_)
                        obtain ⟨hz52_0, hz52_1, hz52_2, hz52_3, hz52_4, hz52_5⟩ := hz52
                        have hkpz52_me_paperCourt : Kp [] [] [] o_me_paperCourt z52.2.1 := hkp_me_paperCourt_1.trans (hz52_1.mono (by decide) (by decide) (by decide))
                        have hkpz52_me_paper_now : Kp [] [] [] o_me_paper_now z52.2.2.1 := hkp_me_paper_now_1.trans (hz52_3.mono (by decide) (by decide) (by decide))
                        have hkpz52_me_machine : Kp [] [] [] o_me_machine z52.2.2.2 := hkp_me_machine_1.trans (hz52_5.mono (by decide) (by decide) (by decide))
                        refine wp_if (fun c53 => ?_) (fun c53 => ?_)
                        · have c53 := cv_eq (a := w49.toInt) (b := 0) rfl (by decide) c53
                          exfalso; omega
                        · have c53z := c53
                          have c53 := cv_ne (a := w49.toInt) (b := 0) rfl (by decide) c53
                          unfold bk_X8_centuries_177
                          refine wp_bd (s_X1_moved_N   z52.2.1 o_me_paper_1 z52.2.2.1 z52.2.2.2 o_pool (3 : Int32) (0 : Int32)  hz52_0 hI_me_paper_1 hz52_2 hz52_4 hI_pool  ) (fun z54 hz54 => ?_)
                          obtain ⟨hz54_0, hz54_1, hz54_2, hz54_3, hz54_4, hz54_5⟩ := hz54
                          have hkpz54_me_paperCourt : Kp [] [] [] o_me_paperCourt z54.2.1 := hkpz52_me_paperCourt.trans (hz54_1.mono (by decide) (by decide) (by decide))
                          have hkpz54_me_paper_now : Kp [] [] [] o_me_paper_now z54.2.2.1 := hkpz52_me_paper_now.trans (hz54_3.mono (by decide) (by decide) (by decide))
                          have hkpz54_me_machine : Kp [] [] [] o_me_machine z54.2.2.2 := hkpz52_me_machine.trans (hz54_5.mono (by decide) (by decide) (by decide))
                          refine wp_lt (fun x55 ex55 => ?_)
                          have tx55 : x55.toInt = v5_1.toInt + 1 := by rw [ex55]; exact i32_add rfl (by decide) (by omega) (by omega)
                          exact ih1 v2_1 z28 v4_1 x55 o_me_1 z54.2.2.2 o_me_paper_1 z54.2.2.1 z54.2.1 hI_me_1 hkp_me_1 hz54_4 hkpz54_me_machine hI_me_paper_1 hkp_me_paper_1 hz54_2 hkpz54_me_paper_now hz54_0 hkpz54_me_paperCourt ⟨by omega, by omega⟩ ⟨by omega, by omega⟩ ⟨by omega, by omega⟩ (by omega) (by omega) (by omega) (by omega) (by omega) (by omega) (by omega) (by omega)
            exact lp1 zfu p1 p0 (0 : Int32) (0 : Int32) o_me o_me_machine z11.1 z11.2 o_me_paperCourt hI_me Kp.rf hI_me_machine Kp.rf hz11_0 hkpz11_me_paper hz11_2 hkpz11_me_paper_now hI_me_paperCourt Kp.rf ⟨by omega, by omega⟩ ⟨by decide, by decide⟩ ⟨by decide, by decide⟩ (by omega) (by omega) (by omega) (by omega) (by omega) (by omega) (by omega) (by show _ < 100000; omega)
        · have c7 := cv_nle (a := p1.toInt) (b := 60) rfl (by decide) c7
          unfold bk_X8_centuries_22
          refine wp_bd (s_X8_refuse   o_me (-1 : Int32)  hI_me  ) (fun z56 hz56 => ?_)
          obtain ⟨hz56_0, hz56_1⟩ := hz56
          have hkpz56_me : Kp [13, 14, 15, 16] [] [] o_me z56.2 := Kp.rf.trans (hz56_1.mono (by decide) (by decide) (by decide))
          refine wp_some ?_
          exact (show IvX8 rI z56.2 ∧ Kp [13, 14, 15, 16] [] [] o_me z56.2 ∧ IvX3 o_me_machine ∧ Kp [] [] [] o_me_machine o_me_machine ∧ IvX2 o_pool o_me_paper ∧ Kp [] [] [] o_me_paper o_me_paper ∧ IvX4 o_me_paper_now ∧ Kp [] [] [] o_me_paper_now o_me_paper_now ∧ IvX1 o_me_paperCourt ∧ Kp [] [] [] o_me_paperCourt o_me_paperCourt from ⟨hz56_0, hkpz56_me, hI_me_machine, Kp.rf, hI_me_paper, Kp.rf, hI_me_paper_now, Kp.rf, hI_me_paperCourt, Kp.rf⟩)

set_option maxHeartbeats 4000000 in
set_option maxRecDepth 100000 in
theorem s_X7_isCircle {pl : List CR} (o_me : Ob) (o_me_court_isles : Ob) (p0 : Int32) (p1 : Int32) (p2 : Int32) (hI_me : IvX7 o_me) (hI_me_court_isles : IvX2 pl o_me_court_isles) (q0 : 0 ≤ p0.toInt ∧ p0.toInt ≤ 6) (q1 : 0 ≤ p1.toInt ∧ p1.toInt ≤ 6) (q2 : 0 ≤ p2.toInt ∧ p2.toInt ≤ 6) : wp (f_X7_isCircle   o_me o_me_court_isles p0 p1 p2) (fun (y : Int32) => (0 ≤ y.toInt ∧ y.toInt ≤ 1)) := by
  have li0 : (0 : Int32).toInt = 0 := by decide
  have li1 : (1 : Int32).toInt = 1 := by decide
  unfold f_X7_isCircle
  refine wp_gd (zin_of (m := 7) rfl (by omega) (by omega)) ?_
  refine wp_gd (zin_of (m := 7) rfl (by omega) (by omega)) ?_
  refine wp_gd (zin_of (m := 7) rfl (by omega) (by omega)) ?_
  have t1 := i32_and (x := (((gA o_me_court_isles 3 p0.toNatClampNeg) >>> (p1 &&& 31)) &&& ((gA o_me_court_isles 3 p1.toNatClampNeg) >>> (p2 &&& 31))) &&& ((gA o_me_court_isles 3 p2.toNatClampNeg) >>> (p0 &&& 31))) (y := (1 : Int32)) (m := 1) ⟨by decide, by decide⟩
  refine wp_if (fun c2 => ?_) (fun c2 => ?_)
  · have c2 := cv_eq (a := (((((gA o_me_court_isles 3 p0.toNatClampNeg) >>> (p1 &&& 31)) &&& ((gA o_me_court_isles 3 p1.toNatClampNeg) >>> (p2 &&& 31))) &&& ((gA o_me_court_isles 3 p2.toNatClampNeg) >>> (p0 &&& 31))) &&& (1 : Int32)).toInt) (b := 1) rfl (by decide) c2
    refine wp_some ?_
    exact (show (0 ≤ (1 : Int32).toInt ∧ (1 : Int32).toInt ≤ 1) from ⟨by decide, by decide⟩)
  · have c2 := cv_ne (a := (((((gA o_me_court_isles 3 p0.toNatClampNeg) >>> (p1 &&& 31)) &&& ((gA o_me_court_isles 3 p1.toNatClampNeg) >>> (p2 &&& 31))) &&& ((gA o_me_court_isles 3 p2.toNatClampNeg) >>> (p0 &&& 31))) &&& (1 : Int32)).toInt) (b := 1) rfl (by decide) c2
    refine wp_some ?_
    exact (show (0 ≤ (0 : Int32).toInt ∧ (0 : Int32).toInt ≤ 1) from ⟨by decide, by decide⟩)

set_option maxHeartbeats 4000000 in
set_option maxRecDepth 100000 in
theorem s_X7_circleCount {pl : List CR} (o_me : Ob) (o_me_court_isles : Ob) (hI_me : IvX7 o_me) (hI_me_court_isles : IvX2 pl o_me_court_isles)  : wp (f_X7_circleCount   o_me o_me_court_isles) (fun (y : Int32) => True) := by
  have li0 : (0 : Int32).toInt = 0 := by decide
  have li1 : (1 : Int32).toInt = 1 := by decide
  unfold f_X7_circleCount
  have lp1 : ∀ (N1 : Nat) (v1_1 : Int32) (v2_1 : Int32), (0 ≤ v2_1.toInt ∧ v2_1.toInt ≤ 7) → (7 - v2_1.toInt).toNat < N1 → wp (lp_X7_circleCount_4 o_me o_me_court_isles  N1 (v1_1, v2_1)) (fun (y : Int32) => True) := by
    intro N1
    induction N1 with
    | zero =>
      intro v1_1 v2_1 hh1 hN1
      exact absurd hN1 (Nat.not_lt_zero _)
    | succ N1 ihx =>
      have ih1 := ihx
      intro v1_1 v2_1 hh1 hN1
      show wp (lb_X7_circleCount_4 o_me o_me_court_isles  (lp_X7_circleCount_4 o_me o_me_court_isles  N1) v1_1 v2_1) (fun (y : Int32) => True)
      unfold lb_X7_circleCount_4
      have t2 := igX2_7 hI_me_court_isles
      refine wp_if (fun c3 => ?_) (fun c3 => ?_)
      · have c3 := cv_ge (a := v2_1.toInt) (b := (gI o_me_court_isles 7).toInt) rfl rfl c3
        refine wp_some ?_
        exact trivial
      · have c3 := cv_nge (a := v2_1.toInt) (b := (gI o_me_court_isles 7).toInt) rfl rfl c3
        have t4 : (v2_1 + (1 : Int32)).toInt = v2_1.toInt + 1 := i32_add rfl (by decide) (by omega) (by omega)
        refine wp_lt (fun x5 ex5 => ?_)
        have tx5 : x5.toInt = (v2_1 + (1 : Int32)).toInt := by rw [ex5]
        have lp2 : ∀ (N2 : Nat) (v1_2 : Int32) (v2_2 : Int32) (v3_2 : Int32), (0 ≤ v2_2.toInt ∧ v2_2.toInt ≤ 6) → (1 ≤ v3_2.toInt ∧ v3_2.toInt ≤ 7) → (v2_2.toInt ≤ v3_2.toInt + (-1)) → (v2_2.toInt ≤ (gI o_me_court_isles 7).toInt + (-1)) → (v2_2.toInt ≤ x5.toInt + (-1)) → (x5.toInt ≤ v2_2.toInt + 1) → (v2_2.toInt ≤ v2_1.toInt + 0) → (v2_1.toInt ≤ v2_2.toInt + 0) → (v3_2.toInt ≤ (gI o_me_court_isles 7).toInt + 0) → (x5.toInt ≤ v3_2.toInt + 0) → (v2_1.toInt ≤ v3_2.toInt + (-1)) → (7 - v3_2.toInt).toNat < N2 → wp (lp_X7_circleCount_19 o_me o_me_court_isles (lp_X7_circleCount_4 o_me o_me_court_isles  N1) N2 (v1_2, v2_2, v3_2)) (fun (y : Int32) => True) := by
          intro N2
          induction N2 with
          | zero =>
            intro v1_2 v2_2 v3_2 hh6 hh7 hh8 hh9 hh10 hh11 hh12 hh13 hh14 hh15 hh16 hN2
            exact absurd hN2 (Nat.not_lt_zero _)
          | succ N2 ihx =>
            have ih2 := ihx
            intro v1_2 v2_2 v3_2 hh6 hh7 hh8 hh9 hh10 hh11 hh12 hh13 hh14 hh15 hh16 hN2
            show wp (lb_X7_circleCount_19 o_me o_me_court_isles (lp_X7_circleCount_4 o_me o_me_court_isles  N1) (lp_X7_circleCount_19 o_me o_me_court_isles (lp_X7_circleCount_4 o_me o_me_court_isles  N1) N2) v1_2 v2_2 v3_2) (fun (y : Int32) => True)
            unfold lb_X7_circleCount_19
            refine wp_if (fun c17 => ?_) (fun c17 => ?_)
            · have c17 := cv_ge (a := v3_2.toInt) (b := (gI o_me_court_isles 7).toInt) rfl rfl c17
              refine wp_lt (fun x18 ex18 => ?_)
              have tx18 : x18.toInt = v2_2.toInt + 1 := by rw [ex18]; exact i32_add rfl (by decide) (by omega) (by omega)
              exact ih1 v1_2 x18  ⟨by omega, by omega⟩ (by omega)
            · have c17 := cv_nge (a := v3_2.toInt) (b := (gI o_me_court_isles 7).toInt) rfl rfl c17
              have t19 : (v3_2 + (1 : Int32)).toInt = v3_2.toInt + 1 := i32_add rfl (by decide) (by omega) (by omega)
              refine wp_lt (fun x20 ex20 => ?_)
              have tx20 : x20.toInt = (v3_2 + (1 : Int32)).toInt := by rw [ex20]
              have lp3 : ∀ (N3 : Nat) (v1_3 : Int32) (v2_3 : Int32) (v3_3 : Int32) (v4_3 : Int32), (0 ≤ v2_3.toInt ∧ v2_3.toInt ≤ 5) → (1 ≤ v3_3.toInt ∧ v3_3.toInt ≤ 6) → (2 ≤ v4_3.toInt ∧ v4_3.toInt ≤ 7) → (v2_3.toInt ≤ v3_3.toInt + (-1)) → (v2_3.toInt ≤ v4_3.toInt + (-2)) → (v3_3.toInt ≤ v4_3.toInt + (-1)) → (v2_3.toInt ≤ v3_2.toInt + (-1)) → (v2_3.toInt ≤ v2_2.toInt + 0) → (v2_2.toInt ≤ v2_3.toInt + 0) → (v2_3.toInt ≤ v2_1.toInt + 0) → (v2_1.toInt ≤ v2_3.toInt + 0) → (v2_3.toInt ≤ (gI o_me_court_isles 7).toInt + (-2)) → (v2_3.toInt ≤ x5.toInt + (-1)) → (x5.toInt ≤ v2_3.toInt + 1) → (v2_3.toInt ≤ x20.toInt + (-2)) → (v3_3.toInt ≤ v3_2.toInt + 0) → (v3_2.toInt ≤ v3_3.toInt + 0) → (v2_2.toInt ≤ v3_3.toInt + (-1)) → (v2_1.toInt ≤ v3_3.toInt + (-1)) → (v3_3.toInt ≤ (gI o_me_court_isles 7).toInt + (-1)) → (x5.toInt ≤ v3_3.toInt + 0) → (v3_3.toInt ≤ x20.toInt + (-1)) → (x20.toInt ≤ v3_3.toInt + 1) → (v3_2.toInt ≤ v4_3.toInt + (-1)) → (v2_2.toInt ≤ v4_3.toInt + (-2)) → (v2_1.toInt ≤ v4_3.toInt + (-2)) → (v4_3.toInt ≤ (gI o_me_court_isles 7).toInt + 0) → (x5.toInt ≤ v4_3.toInt + (-1)) → (x20.toInt ≤ v4_3.toInt + 0) → (7 - v4_3.toInt).toNat < N3 → wp (lp_X7_circleCount_35 o_me o_me_court_isles (lp_X7_circleCount_4 o_me o_me_court_isles  N1) (lp_X7_circleCount_19 o_me o_me_court_isles (lp_X7_circleCount_4 o_me o_me_court_isles  N1) N2) N3 (v1_3, v2_3, v3_3, v4_3)) (fun (y : Int32) => True) := by
                intro N3
                induction N3 with
                | zero =>
                  intro v1_3 v2_3 v3_3 v4_3 hh21 hh22 hh23 hh24 hh25 hh26 hh27 hh28 hh29 hh30 hh31 hh32 hh33 hh34 hh35 hh36 hh37 hh38 hh39 hh40 hh41 hh42 hh43 hh44 hh45 hh46 hh47 hh48 hh49 hN3
                  exact absurd hN3 (Nat.not_lt_zero _)
                | succ N3 ihx =>
                  have ih3 := ihx
                  intro v1_3 v2_3 v3_3 v4_3 hh21 hh22 hh23 hh24 hh25 hh26 hh27 hh28 hh29 hh30 hh31 hh32 hh33 hh34 hh35 hh36 hh37 hh38 hh39 hh40 hh41 hh42 hh43 hh44 hh45 hh46 hh47 hh48 hh49 hN3
                  show wp (lb_X7_circleCount_35 o_me o_me_court_isles (lp_X7_circleCount_4 o_me o_me_court_isles  N1) (lp_X7_circleCount_19 o_me o_me_court_isles (lp_X7_circleCount_4 o_me o_me_court_isles  N1) N2) (lp_X7_circleCount_35 o_me o_me_court_isles (lp_X7_circleCount_4 o_me o_me_court_isles  N1) (lp_X7_circleCount_19 o_me o_me_court_isles (lp_X7_circleCount_4 o_me o_me_court_isles  N1) N2) N3) v1_3 v2_3 v3_3 v4_3) (fun (y : Int32) => True)
                  unfold lb_X7_circleCount_35
                  refine wp_if (fun c50 => ?_) (fun c50 => ?_)
                  · have c50 := cv_ge (a := v4_3.toInt) (b := (gI o_me_court_isles 7).toInt) rfl rfl c50
                    refine wp_lt (fun x51 ex51 => ?_)
                    have tx51 : x51.toInt = v3_3.toInt + 1 := by rw [ex51]; exact i32_add rfl (by decide) (by omega) (by omega)
                    exact ih2 v1_3 v2_3 x51  ⟨by omega, by omega⟩ ⟨by omega, by omega⟩ (by omega) (by omega) (by omega) (by omega) (by omega) (by omega) (by omega) (by omega) (by omega) (by omega)
                  · have c50 := cv_nge (a := v4_3.toInt) (b := (gI o_me_court_isles 7).toInt) rfl rfl c50
                    refine wp_bd (s_X7_isCircle   o_me o_me_court_isles v2_3 v3_3 v4_3  hI_me hI_me_court_isles  ⟨by omega, by omega⟩ ⟨by omega, by omega⟩ ⟨by omega, by omega⟩) (fun z52 hz52 => ?_)
                    have hz52_0 := hz52
                    refine wp_if (fun c53 => ?_) (fun c53 => ?_)
                    · have c53 := cv_eq (a := z52.toInt) (b := 0) rfl (by decide) c53
                      refine wp_bd (s_X7_isCircle   o_me o_me_court_isles v2_3 v4_3 v3_3  hI_me hI_me_court_isles  ⟨by omega, by omega⟩ ⟨by omega, by omega⟩ ⟨by omega, by omega⟩) (fun z54 hz54 => ?_)
                      have hz54_0 := hz54
                      refine wp_if (fun c55 => ?_) (fun c55 => ?_)
                      · have c55 := cv_eq (a := z54.toInt) (b := 0) rfl (by decide) c55
                        unfold bk_X7_circleCount_72
                        refine wp_lt (fun x56 ex56 => ?_)
                        have tx56 : x56.toInt = v4_3.toInt + 1 := by rw [ex56]; exact i32_add rfl (by decide) (by omega) (by omega)
                        exact ih3 v1_3 v2_3 v3_3 x56  ⟨by omega, by omega⟩ ⟨by omega, by omega⟩ ⟨by omega, by omega⟩ (by omega) (by omega) (by omega) (by omega) (by omega) (by omega) (by omega) (by omega) (by omega) (by omega) (by omega) (by omega) (by omega) (by omega) (by omega) (by omega) (by omega) (by omega) (by omega) (by omega) (by omega) (by omega) (by omega) (by omega) (by omega) (by omega) (by omega)
                      · have c55z := c55
                        have c55 := cv_ne (a := z54.toInt) (b := 0) rfl (by decide) c55
                        unfold bk_X7_circleCount_69
                        refine wp_lt (fun x57 ex57 => ?_)
                        unfold bk_X7_circleCount_72
                        refine wp_lt (fun x58 ex58 => ?_)
                        have tx58 : x58.toInt = v4_3.toInt + 1 := by rw [ex58]; exact i32_add rfl (by decide) (by omega) (by omega)
                        exact ih3 x57 v2_3 v3_3 x58  ⟨by omega, by omega⟩ ⟨by omega, by omega⟩ ⟨by omega, by omega⟩ (by omega) (by omega) (by omega) (by omega) (by omega) (by omega) (by omega) (by omega) (by omega) (by omega) (by omega) (by omega) (by omega) (by omega) (by omega) (by omega) (by omega) (by omega) (by omega) (by omega) (by omega) (by omega) (by omega) (by omega) (by omega) (by omega) (by omega)
                    · have c53z := c53
                      have c53 := cv_ne (a := z52.toInt) (b := 0) rfl (by decide) c53
                      unfold bk_X7_circleCount_69
                      refine wp_lt (fun x59 ex59 => ?_)
                      unfold bk_X7_circleCount_72
                      refine wp_lt (fun x60 ex60 => ?_)
                      have tx60 : x60.toInt = v4_3.toInt + 1 := by rw [ex60]; exact i32_add rfl (by decide) (by omega) (by omega)
                      exact ih3 x59 v2_3 v3_3 x60  ⟨by omega, by omega⟩ ⟨by omega, by omega⟩ ⟨by omega, by omega⟩ (by omega) (by omega) (by omega) (by omega) (by omega) (by omega) (by omega) (by omega) (by omega) (by omega) (by omega) (by omega) (by omega) (by omega) (by omega) (by omega) (by omega) (by omega) (by omega) (by omega) (by omega) (by omega) (by omega) (by omega) (by omega) (by omega) (by omega)
              exact lp3 zfu v1_2 v2_2 v3_2 x20  ⟨by omega, by omega⟩ ⟨by omega, by omega⟩ ⟨by omega, by omega⟩ (by omega) (by omega) (by omega) (by omega) (by omega) (by omega) (by omega) (by omega) (by omega) (by omega) (by omega) (by omega) (by omega) (by omega) (by omega) (by omega) (by omega) (by omega) (by omega) (by omega) (by omega) (by omega) (by omega) (by omega) (by omega) (by omega) (by show _ < 100000; omega)
        exact lp2 zfu v1_1 v2_1 x5  ⟨by omega, by omega⟩ ⟨by omega, by omega⟩ (by omega) (by omega) (by omega) (by omega) (by omega) (by omega) (by omega) (by omega) (by omega) (by show _ < 100000; omega)
  exact lp1 zfu (0 : Int32) (0 : Int32)  ⟨by decide, by decide⟩ (by show _ < 100000; omega)

set_option maxHeartbeats 4000000 in
set_option maxRecDepth 100000 in
theorem s_X8_circles {pl : List CR} {rI : Nat → Option Nat} (o_me : Ob) (o_me_isles : Ob) (o_me_study : Ob) (hI_me : IvX8 rI o_me) (hI_me_isles : IvX2 pl o_me_isles) (hI_me_study : IvX7 o_me_study)  : wp (f_X8_circles   o_me o_me_isles o_me_study) (fun (y : Int32) => True) := by
  unfold f_X8_circles
  refine wp_bd (s_X7_circleCount   o_me_study o_me_isles  hI_me_study hI_me_isles  ) (fun z1 hz1 => ?_)
  refine wp_some ?_
  exact trivial

set_option maxHeartbeats 4000000 in
set_option maxRecDepth 100000 in
theorem s_X8_compare {rI : Nat → Option Nat} (o_me : Ob) (o_me_machine : Ob) (o_me_isles : Ob) (o_me_isles_now : Ob) (o_me_court : Ob) (o_pool : List CR) (p0 : Int32) (p1 : Int32) (hI_me : IvX8 rI o_me) (hI_me_machine : IvX3 o_me_machine) (hI_me_isles : IvX2 o_pool o_me_isles) (hI_me_isles_now : IvX4 o_me_isles_now) (hI_me_court : IvX1 o_me_court) (hI_pool : PLok o_pool)  : wp (f_X8_compare   o_me o_me_machine o_me_isles o_me_isles_now o_me_court o_pool p0 p1) (fun (y : Int32 × Ob × Ob) => ((-1) ≤ y.1.toInt ∧ y.1.toInt ≤ 6) ∧ IvX3 y.2.1 ∧ Kp [] [] [] o_me_machine y.2.1 ∧ IvX1 y.2.2 ∧ Kp [] [] [] o_me_court y.2.2) := by
  have li0 : (-1 : Int32).toInt = (-1) := by decide
  have li1 : (1 : Int32).toInt = 1 := by decide
  unfold f_X8_compare
  refine wp_if (fun c1 => ?_) (fun c1 => ?_)
  · have c1 := cv_eq (a := p0.toInt) (b := (-1)) rfl (by decide) c1
    unfold bk_X8_compare_16
    refine wp_bd (s_X8_isRace   p1    ) (fun z2 hz2 => ?_)
    obtain ⟨hz2_0, hz2_1⟩ := hz2
    refine wp_if (fun c3 => ?_) (fun c3 => ?_)
    · have c3 := cv_eq (a := z2.toInt) (b := 0) rfl (by decide) c3
      refine wp_some ?_
      exact (show ((-1) ≤ (-1 : Int32).toInt ∧ (-1 : Int32).toInt ≤ 6) ∧ IvX3 o_me_machine ∧ Kp [] [] [] o_me_machine o_me_machine ∧ IvX1 o_me_court ∧ Kp [] [] [] o_me_court o_me_court from ⟨⟨by decide, by decide⟩, hI_me_machine, Kp.rf, hI_me_court, Kp.rf⟩)
    · have c3z := c3
      have c3i := hz2_1 c3
      have c3 := cv_ne (a := z2.toInt) (b := 0) rfl (by decide) c3
      refine wp_bd (s_X2_lawAt   o_me_isles p0  hI_me_isles  ) (fun z4 hz4 => ?_)
      have hz4_0 := hz4
      refine wp_bd (s_X1_lineUp_Q   o_me_court o_me_isles o_me_isles_now o_me_machine o_pool z4 p1  hI_me_court hI_me_isles hI_me_isles_now hI_me_machine hI_pool hz4_0 ⟨by omega, by omega⟩) (fun z5 hz5 => ?_)
      obtain ⟨hz5_0, hz5_1, hz5_2, hz5_3, hz5_4⟩ := hz5
      have hkpz5_me_court : Kp [] [] [] o_me_court z5.2.1 := Kp.rf.trans (hz5_2.mono (by decide) (by decide) (by decide))
      have hkpz5_me_machine : Kp [] [] [] o_me_machine z5.2.2 := Kp.rf.trans (hz5_4.mono (by decide) (by decide) (by decide))
      refine wp_bd (s_X1_at   z5.2.1 (1 : Int32)  hz5_1  ) (fun z6 hz6 => ?_)
      have hz6_0 := hz6
      refine wp_some ?_
      exact (show ((-1) ≤ z6.toInt ∧ z6.toInt ≤ 6) ∧ IvX3 z5.2.2 ∧ Kp [] [] [] o_me_machine z5.2.2 ∧ IvX1 z5.2.1 ∧ Kp [] [] [] o_me_court z5.2.1 from ⟨⟨by omega, by omega⟩, hz5_3, hkpz5_me_machine, hz5_1, hkpz5_me_court⟩)
  · have c1 := cv_ne (a := p0.toInt) (b := (-1)) rfl (by decide) c1
    refine wp_bd (s_X2_isLaw   o_me_isles p0  hI_me_isles  ) (fun z7 hz7 => ?_)
    obtain ⟨hz7_0, hz7_1⟩ := hz7
    refine wp_if (fun c8 => ?_) (fun c8 => ?_)
    · have c8 := cv_eq (a := z7.toInt) (b := 0) rfl (by decide) c8
      refine wp_some ?_
      exact (show ((-1) ≤ (-1 : Int32).toInt ∧ (-1 : Int32).toInt ≤ 6) ∧ IvX3 o_me_machine ∧ Kp [] [] [] o_me_machine o_me_machine ∧ IvX1 o_me_court ∧ Kp [] [] [] o_me_court o_me_court from ⟨⟨by decide, by decide⟩, hI_me_machine, Kp.rf, hI_me_court, Kp.rf⟩)
    · have c8z := c8
      have c8i := hz7_1 c8
      have c8 := cv_ne (a := z7.toInt) (b := 0) rfl (by decide) c8
      unfold bk_X8_compare_16
      refine wp_bd (s_X8_isRace   p1    ) (fun z9 hz9 => ?_)
      obtain ⟨hz9_0, hz9_1⟩ := hz9
      refine wp_if (fun c10 => ?_) (fun c10 => ?_)
      · have c10 := cv_eq (a := z9.toInt) (b := 0) rfl (by decide) c10
        refine wp_some ?_
        exact (show ((-1) ≤ (-1 : Int32).toInt ∧ (-1 : Int32).toInt ≤ 6) ∧ IvX3 o_me_machine ∧ Kp [] [] [] o_me_machine o_me_machine ∧ IvX1 o_me_court ∧ Kp [] [] [] o_me_court o_me_court from ⟨⟨by decide, by decide⟩, hI_me_machine, Kp.rf, hI_me_court, Kp.rf⟩)
      · have c10z := c10
        have c10i := hz9_1 c10
        have c10 := cv_ne (a := z9.toInt) (b := 0) rfl (by decide) c10
        refine wp_bd (s_X2_lawAt   o_me_isles p0  hI_me_isles  ) (fun z11 hz11 => ?_)
        have hz11_0 := hz11
        refine wp_bd (s_X1_lineUp_Q   o_me_court o_me_isles o_me_isles_now o_me_machine o_pool z11 p1  hI_me_court hI_me_isles hI_me_isles_now hI_me_machine hI_pool hz11_0 ⟨by omega, by omega⟩) (fun z12 hz12 => ?_)
        obtain ⟨hz12_0, hz12_1, hz12_2, hz12_3, hz12_4⟩ := hz12
        have hkpz12_me_court : Kp [] [] [] o_me_court z12.2.1 := Kp.rf.trans (hz12_2.mono (by decide) (by decide) (by decide))
        have hkpz12_me_machine : Kp [] [] [] o_me_machine z12.2.2 := Kp.rf.trans (hz12_4.mono (by decide) (by decide) (by decide))
        refine wp_bd (s_X1_at   z12.2.1 (1 : Int32)  hz12_1  ) (fun z13 hz13 => ?_)
        have hz13_0 := hz13
        refine wp_some ?_
        exact (show ((-1) ≤ z13.toInt ∧ z13.toInt ≤ 6) ∧ IvX3 z12.2.2 ∧ Kp [] [] [] o_me_machine z12.2.2 ∧ IvX1 z12.2.1 ∧ Kp [] [] [] o_me_court z12.2.1 from ⟨⟨by omega, by omega⟩, hz12_3, hkpz12_me_machine, hz12_1, hkpz12_me_court⟩)

set_option maxHeartbeats 4000000 in
set_option maxRecDepth 100000 in
theorem s_X2_allPrizes {pl : List CR} (o_me : Ob) (o_me_now : Ob) (hI_me : IvX2 pl o_me) (hI_me_now : IvX4 o_me_now)  : wp (f_X2_allPrizes   o_me o_me_now) (fun (y : Int32) => True) := by
  have li0 : (0 : Int32).toInt = 0 := by decide
  unfold f_X2_allPrizes
  have lp1 : ∀ (N1 : Nat) (v1_1 : Int32) (v2_1 : Int32), (0 ≤ v2_1.toInt ∧ v2_1.toInt ≤ 7) → (7 - v2_1.toInt).toNat < N1 → wp (lp_X2_allPrizes_4 o_me o_me_now  N1 (v1_1, v2_1)) (fun (y : Int32) => True) := by
    intro N1
    induction N1 with
    | zero =>
      intro v1_1 v2_1 hh1 hN1
      exact absurd hN1 (Nat.not_lt_zero _)
    | succ N1 ihx =>
      have ih1 := ihx
      intro v1_1 v2_1 hh1 hN1
      show wp (lb_X2_allPrizes_4 o_me o_me_now  (lp_X2_allPrizes_4 o_me o_me_now  N1) v1_1 v2_1) (fun (y : Int32) => True)
      unfold lb_X2_allPrizes_4
      have t2 := igX2_7 hI_me
      refine wp_if (fun c3 => ?_) (fun c3 => ?_)
      · have c3 := cv_ge (a := v2_1.toInt) (b := (gI o_me 7).toInt) rfl rfl c3
        refine wp_some ?_
        exact trivial
      · have c3 := cv_nge (a := v2_1.toInt) (b := (gI o_me 7).toInt) rfl rfl c3
        refine wp_gd (zin_of (m := 7) rfl (by omega) (by omega)) ?_
        refine wp_lt (fun x4 ex4 => ?_)
        have tx4 : x4.toInt = (v1_1 + (gA o_me_now 1 v2_1.toNatClampNeg)).toInt := by rw [ex4]
        refine wp_lt (fun x5 ex5 => ?_)
        have tx5 : x5.toInt = v2_1.toInt + 1 := by rw [ex5]; exact i32_add rfl (by decide) (by omega) (by omega)
        exact ih1 x4 x5  ⟨by omega, by omega⟩ (by omega)
  exact lp1 zfu (0 : Int32) (0 : Int32)  ⟨by decide, by decide⟩ (by show _ < 100000; omega)

set_option maxHeartbeats 4000000 in
set_option maxRecDepth 100000 in
theorem s_X2_term {pl : List CR} (o_me : Ob) (o_me_now : Ob) (p0 : Int32) (hI_me : IvX2 pl o_me) (hI_me_now : IvX4 o_me_now)  : wp (f_X2_term   o_me o_me_now p0) (fun (y : Int32) => True) := by
  have li0 : (1 : Int32).toInt = 1 := by decide
  unfold f_X2_term
  refine wp_if (fun c1 => ?_) (fun c1 => ?_)
  · have c1 := cv_eq (a := p0.toInt) (b := 0) rfl (by decide) c1
    refine wp_some ?_
    exact trivial
  · have c1z := c1
    have c1 := cv_ne (a := p0.toInt) (b := 0) rfl (by decide) c1
    refine wp_if (fun c2 => ?_) (fun c2 => ?_)
    · have c2 := cv_eq (a := p0.toInt) (b := 1) rfl (by decide) c2
      refine wp_some ?_
      exact trivial
    · have c2 := cv_ne (a := p0.toInt) (b := 1) rfl (by decide) c2
      refine wp_some ?_
      exact trivial

set_option maxHeartbeats 4000000 in
set_option maxRecDepth 100000 in
theorem s_X8_count {pl : List CR} {rI : Nat → Option Nat} (o_me : Ob) (o_me_reader : Ob) (o_me_isles : Ob) (o_me_isles_now : Ob) (o_me_past : Ob) (p0 : Int32) (hI_me : IvX8 rI o_me) (hI_me_reader : IvX6 o_me_reader) (hI_me_isles : IvX2 pl o_me_isles) (hI_me_isles_now : IvX4 o_me_isles_now) (hI_me_past : IvX5 o_me_past)  : wp (f_X8_count   o_me o_me_reader o_me_isles o_me_isles_now o_me_past p0) (fun (y : Int32) => True) := by
  have li0 : (-1 : Int32).toInt = (-1) := by decide
  have li1 : (0 : Int32).toInt = 0 := by decide
  have li2 : (1 : Int32).toInt = 1 := by decide
  have li3 : (2 : Int32).toInt = 2 := by decide
  have li4 : (3 : Int32).toInt = 3 := by decide
  have li5 : (5 : Int32).toInt = 5 := by decide
  have li6 : (6 : Int32).toInt = 6 := by decide
  unfold f_X8_count
  refine wp_if (fun c1 => ?_) (fun c1 => ?_)
  · have c1 := cv_eq (a := p0.toInt) (b := 0) rfl (by decide) c1
    have t2 := igX2_7 hI_me_isles
    refine wp_some ?_
    exact trivial
  have c1 := cv_ne (a := p0.toInt) (b := 0) rfl (by decide) c1
  refine wp_if (fun c3 => ?_) (fun c3 => ?_)
  · have c3 := cv_eq (a := p0.toInt) (b := 1) rfl (by decide) c3
    refine wp_bd (s_J6_bitCount_0f7a4   (gI o_me_isles_now 2)    ) (fun z4 hz4 => ?_)
    have hz4_0 := hz4
    refine wp_some ?_
    exact trivial
  have c3 := cv_ne (a := p0.toInt) (b := 1) rfl (by decide) c3
  refine wp_if (fun c5 => ?_) (fun c5 => ?_)
  · have c5 := cv_eq (a := p0.toInt) (b := 2) rfl (by decide) c5
    refine wp_some ?_
    exact trivial
  have c5 := cv_ne (a := p0.toInt) (b := 2) rfl (by decide) c5
  refine wp_if (fun c6 => ?_) (fun c6 => ?_)
  · have c6 := cv_eq (a := p0.toInt) (b := 3) rfl (by decide) c6
    refine wp_bd (s_X2_allPrizes   o_me_isles o_me_isles_now  hI_me_isles hI_me_isles_now  ) (fun z7 hz7 => ?_)
    refine wp_some ?_
    exact trivial
  have c6 := cv_ne (a := p0.toInt) (b := 3) rfl (by decide) c6
  refine wp_if (fun c8 => ?_) (fun c8 => ?_)
  · have c8 := cv_eq (a := p0.toInt) (b := 4) rfl (by decide) c8
    have t9 := igX2_8 hI_me_isles
    refine wp_some ?_
    exact trivial
  have c8 := cv_ne (a := p0.toInt) (b := 4) rfl (by decide) c8
  refine wp_if (fun c10 => ?_) (fun c10 => ?_)
  · have c10 := cv_eq (a := p0.toInt) (b := 5) rfl (by decide) c10
    have t11 := igX2_9 hI_me_isles
    refine wp_some ?_
    exact trivial
  have c10 := cv_ne (a := p0.toInt) (b := 5) rfl (by decide) c10
  refine wp_if (fun c12 => ?_) (fun c12 => ?_)
  · have c12 := cv_eq (a := p0.toInt) (b := 6) rfl (by decide) c12
    have t13 := igX5_3 hI_me_past
    refine wp_some ?_
    exact trivial
  have c12 := cv_ne (a := p0.toInt) (b := 6) rfl (by decide) c12
  refine wp_if (fun c14 => ?_) (fun c14 => ?_)
  · have c14 := cv_eq (a := p0.toInt) (b := 7) rfl (by decide) c14
    have t15 := igX6_2 hI_me_reader
    refine wp_some ?_
    exact trivial
  have c14 := cv_ne (a := p0.toInt) (b := 7) rfl (by decide) c14
  refine wp_if (fun c16 => ?_) (fun c16 => ?_)
  · have c16 := cv_eq (a := p0.toInt) (b := 8) rfl (by decide) c16
    refine wp_some ?_
    exact trivial
  have c16 := cv_ne (a := p0.toInt) (b := 8) rfl (by decide) c16
  refine wp_if (fun c17 => ?_) (fun c17 => ?_)
  · have c17 := cv_eq (a := p0.toInt) (b := 9) rfl (by decide) c17
    refine wp_some ?_
    exact trivial
  have c17 := cv_ne (a := p0.toInt) (b := 9) rfl (by decide) c17
  refine wp_if (fun c18 => ?_) (fun c18 => ?_)
  · have c18 := cv_eq (a := p0.toInt) (b := 10) rfl (by decide) c18
    refine wp_some ?_
    exact trivial
  have c18 := cv_ne (a := p0.toInt) (b := 10) rfl (by decide) c18
  refine wp_if (fun c19 => ?_) (fun c19 => ?_)
  · have c19 := cv_eq (a := p0.toInt) (b := 11) rfl (by decide) c19
    refine wp_some ?_
    exact trivial
  have c19 := cv_ne (a := p0.toInt) (b := 11) rfl (by decide) c19
  refine wp_if (fun c20 => ?_) (fun c20 => ?_)
  · have c20 := cv_eq (a := p0.toInt) (b := 12) rfl (by decide) c20
    refine wp_some ?_
    exact trivial
  have c20 := cv_ne (a := p0.toInt) (b := 12) rfl (by decide) c20
  refine wp_if (fun c21 => ?_) (fun c21 => ?_)
  · have c21 := cv_eq (a := p0.toInt) (b := 13) rfl (by decide) c21
    have t22 := igX2_10 hI_me_isles
    refine wp_some ?_
    exact trivial
  have c21 := cv_ne (a := p0.toInt) (b := 13) rfl (by decide) c21
  refine wp_if (fun c23 => ?_) (fun c23 => ?_)
  · have c23 := cv_eq (a := p0.toInt) (b := 14) rfl (by decide) c23
    refine wp_bd (s_X2_term   o_me_isles o_me_isles_now (0 : Int32)  hI_me_isles hI_me_isles_now  ) (fun z24 hz24 => ?_)
    refine wp_some ?_
    exact trivial
  have c23 := cv_ne (a := p0.toInt) (b := 14) rfl (by decide) c23
  refine wp_if (fun c25 => ?_) (fun c25 => ?_)
  · have c25 := cv_eq (a := p0.toInt) (b := 15) rfl (by decide) c25
    refine wp_bd (s_X2_term   o_me_isles o_me_isles_now (1 : Int32)  hI_me_isles hI_me_isles_now  ) (fun z26 hz26 => ?_)
    refine wp_some ?_
    exact trivial
  have c25 := cv_ne (a := p0.toInt) (b := 15) rfl (by decide) c25
  refine wp_if (fun c27 => ?_) (fun c27 => ?_)
  · have c27 := cv_eq (a := p0.toInt) (b := 16) rfl (by decide) c27
    refine wp_bd (s_X2_term   o_me_isles o_me_isles_now (2 : Int32)  hI_me_isles hI_me_isles_now  ) (fun z28 hz28 => ?_)
    refine wp_some ?_
    exact trivial
  have c27 := cv_ne (a := p0.toInt) (b := 16) rfl (by decide) c27
  refine wp_some ?_
  exact trivial

set_option maxHeartbeats 4000000 in
set_option maxRecDepth 100000 in
theorem s_X7_scoreWith (o_me : Ob) (p0 : Int32) (p1 : Int32) (p2 : Int32) (hI_me : IvX7 o_me) (q0 : 0 ≤ p0.toInt ∧ p0.toInt ≤ 6) (q1 : 0 ≤ p1.toInt ∧ p1.toInt ≤ 3) (q2 : 0 ≤ p2.toInt ∧ p2.toInt ≤ 127) : wp (f_X7_scoreWith   o_me p0 p1 p2) (fun (y : Int32) => True) := by
  have li0 : (-1 : Int32).toInt = (-1) := by decide
  have li1 : (1 : Int32).toInt = 1 := by decide
  have li2 : (128 : Int32).toInt = 128 := by decide
  have li3 : (7 : Int32).toInt = 7 := by decide
  unfold f_X7_scoreWith
  have t1 : (p1 * (7 : Int32)).toInt = p1.toInt * 7 := i32_mul rfl (by decide) (by omega) (by omega)
  have t2 : ((p1 * (7 : Int32)) + p0).toInt = (p1 * (7 : Int32)).toInt + p0.toInt := i32_add rfl rfl (by omega) (by omega)
  refine wp_gd (zin_of (m := 28) rfl (by omega) (by omega)) ?_
  refine wp_lt (fun x3 ex3 => ?_)
  have tx3 : x3.toInt = (gA o_me 5 ((p1 * (7 : Int32)) + p0).toNatClampNeg).toInt := by rw [ex3]
  refine wp_if (fun c4 => ?_) (fun c4 => ?_)
  · have c4 := cv_eq (a := x3.toInt) (b := (-1)) rfl (by decide) c4
    refine wp_some ?_
    exact trivial
  · have c4 := cv_ne (a := x3.toInt) (b := (-1)) rfl (by decide) c4
    have t5 := i32_and (x := p2 >>> (p0 &&& 31)) (y := (1 : Int32)) (m := 1) ⟨by decide, by decide⟩
    refine wp_if (fun c6 => ?_) (fun c6 => ?_)
    · have c6 := cv_eq (a := ((p2 >>> (p0 &&& 31)) &&& (1 : Int32)).toInt) (b := 1) rfl (by decide) c6
      refine wp_some ?_
      exact trivial
    · have c6 := cv_ne (a := ((p2 >>> (p0 &&& 31)) &&& (1 : Int32)).toInt) (b := 1) rfl (by decide) c6
      have t7 : (p1 + (1 : Int32)).toInt = p1.toInt + 1 := i32_add rfl (by decide) (by omega) (by omega)
      have t8 : ((p1 + (1 : Int32)) * (128 : Int32)).toInt = (p1 + (1 : Int32)).toInt * 128 := i32_mul rfl (by decide) (by omega) (by omega)
      have t9 : 1 ≤ ((1 : Int32) <<< (p0 &&& 31)).toInt ∧ ((1 : Int32) <<< (p0 &&& 31)).toInt ≤ 64 := i32_shl6 (p := p0) (by omega) (by omega)
      have t10 := i32_or7 (x := p2) (y := (1 : Int32) <<< (p0 &&& 31)) ⟨by omega, by omega⟩ ⟨by omega, by omega⟩
      have t11 : (((p1 + (1 : Int32)) * (128 : Int32)) + (p2 ||| ((1 : Int32) <<< (p0 &&& 31)))).toInt = ((p1 + (1 : Int32)) * (128 : Int32)).toInt + (p2 ||| ((1 : Int32) <<< (p0 &&& 31))).toInt := i32_add rfl rfl (by omega) (by omega)
      refine wp_gd (zin_of (m := 640) rfl (by omega) (by omega)) ?_
      refine wp_some ?_
      exact trivial

set_option maxHeartbeats 4000000 in
set_option maxRecDepth 100000 in
theorem s_X7_firstCrowned {pl : List CR} (o_me : Ob) (o_me_court_isles : Ob) (p0 : Int32) (p1 : Int32) (hI_me : IvX7 o_me) (hI_me_court_isles : IvX2 pl o_me_court_isles) (q0 : 0 ≤ p0.toInt ∧ p0.toInt ≤ 3) (q1 : 0 ≤ p1.toInt ∧ p1.toInt ≤ 127) : wp (f_X7_firstCrowned   o_me o_me_court_isles p0 p1) (fun (y : Int32) => (0 ≤ y.toInt ∧ y.toInt ≤ 7)) := by
  have li0 : (0 : Int32).toInt = 0 := by decide
  have li1 : (128 : Int32).toInt = 128 := by decide
  have li2 : (7 : Int32).toInt = 7 := by decide
  unfold f_X7_firstCrowned
  have lp1 : ∀ (N1 : Nat) (v1_1 : Int32) (v2_1 : Int32) (v3_1 : Int32), (0 ≤ v1_1.toInt ∧ v1_1.toInt ≤ 3) → (0 ≤ v2_1.toInt ∧ v2_1.toInt ≤ 127) → (0 ≤ v3_1.toInt ∧ v3_1.toInt ≤ 7) → (v1_1.toInt ≤ p0.toInt + 0) → (p0.toInt ≤ v1_1.toInt + 0) → (v2_1.toInt ≤ p1.toInt + 0) → (p1.toInt ≤ v2_1.toInt + 0) → (7 - v3_1.toInt).toNat < N1 → wp (lp_X7_firstCrowned_2 o_me o_me_court_isles  N1 (v1_1, v2_1, v3_1)) (fun (y : Int32) => (0 ≤ y.toInt ∧ y.toInt ≤ 7)) := by
    intro N1
    induction N1 with
    | zero =>
      intro v1_1 v2_1 v3_1 hh1 hh2 hh3 hh4 hh5 hh6 hh7 hN1
      exact absurd hN1 (Nat.not_lt_zero _)
    | succ N1 ihx =>
      have ih1 := ihx
      intro v1_1 v2_1 v3_1 hh1 hh2 hh3 hh4 hh5 hh6 hh7 hN1
      show wp (lb_X7_firstCrowned_2 o_me o_me_court_isles  (lp_X7_firstCrowned_2 o_me o_me_court_isles  N1) v1_1 v2_1 v3_1) (fun (y : Int32) => (0 ≤ y.toInt ∧ y.toInt ≤ 7))
      unfold lb_X7_firstCrowned_2
      have t8 := igX2_7 hI_me_court_isles
      refine wp_if (fun c9 => ?_) (fun c9 => ?_)
      · have c9 := cv_ge (a := v3_1.toInt) (b := (gI o_me_court_isles 7).toInt) rfl rfl c9
        refine wp_some ?_
        exact (show (0 ≤ (7 : Int32).toInt ∧ (7 : Int32).toInt ≤ 7) from ⟨by decide, by decide⟩)
      · have c9 := cv_nge (a := v3_1.toInt) (b := (gI o_me_court_isles 7).toInt) rfl rfl c9
        refine wp_bd (s_X7_scoreWith   o_me v3_1 v1_1 v2_1  hI_me  ⟨by omega, by omega⟩ ⟨by omega, by omega⟩ ⟨by omega, by omega⟩) (fun z10 hz10 => ?_)
        have t11 : (v1_1 * (128 : Int32)).toInt = v1_1.toInt * 128 := i32_mul rfl (by decide) (by omega) (by omega)
        have t12 : ((v1_1 * (128 : Int32)) + v2_1).toInt = (v1_1 * (128 : Int32)).toInt + v2_1.toInt := i32_add rfl rfl (by omega) (by omega)
        refine wp_gd (zin_of (m := 640) rfl (by omega) (by omega)) ?_
        have rg14 := i32_rg z10
        have rg15 := i32_rg (gA o_me 4 ((v1_1 * (128 : Int32)) + v2_1).toNatClampNeg)
        refine wp_if (fun c13 => ?_) (fun c13 => ?_)
        · have c13 := cv_eq (a := z10.toInt) (b := (gA o_me 4 ((v1_1 * (128 : Int32)) + v2_1).toNatClampNeg).toInt) rfl rfl c13
          refine wp_some ?_
          exact (show (0 ≤ v3_1.toInt ∧ v3_1.toInt ≤ 7) from ⟨by omega, by omega⟩)
        · have c13 := cv_ne (a := z10.toInt) (b := (gA o_me 4 ((v1_1 * (128 : Int32)) + v2_1).toNatClampNeg).toInt) rfl rfl c13
          refine wp_lt (fun x16 ex16 => ?_)
          have tx16 : x16.toInt = v3_1.toInt + 1 := by rw [ex16]; exact i32_add rfl (by decide) (by omega) (by omega)
          exact ih1 v1_1 v2_1 x16  ⟨by omega, by omega⟩ ⟨by omega, by omega⟩ ⟨by omega, by omega⟩ (by omega) (by omega) (by omega) (by omega) (by omega)
  exact lp1 zfu p0 p1 (0 : Int32)  ⟨by omega, by omega⟩ ⟨by omega, by omega⟩ ⟨by decide, by decide⟩ (by omega) (by omega) (by omega) (by omega) (by show _ < 100000; omega)

set_option maxHeartbeats 4000000 in
set_option maxRecDepth 100000 in
theorem s_X7_bestFrom {pl : List CR} (o_me : Ob) (o_me_court_isles : Ob) (p0 : Int32) (p1 : Int32) (hI_me : IvX7 o_me) (hI_me_court_isles : IvX2 pl o_me_court_isles) (q0 : 0 ≤ p0.toInt ∧ p0.toInt ≤ 3) (q1 : 0 ≤ p1.toInt ∧ p1.toInt ≤ 127) : wp (f_X7_bestFrom   o_me o_me_court_isles p0 p1) (fun (y : Int32) => True) := by
  have li0 : (0 : Int32).toInt = 0 := by decide
  have li1 : (1 : Int32).toInt = 1 := by decide
  have li2 : (128 : Int32).toInt = 128 := by decide
  unfold f_X7_bestFrom
  have t1 : (p0 + (1 : Int32)).toInt = p0.toInt + 1 := i32_add rfl (by decide) (by omega) (by omega)
  have t2 : ((p0 + (1 : Int32)) * (128 : Int32)).toInt = (p0 + (1 : Int32)).toInt * 128 := i32_mul rfl (by decide) (by omega) (by omega)
  have t3 : (((p0 + (1 : Int32)) * (128 : Int32)) + p1).toInt = ((p0 + (1 : Int32)) * (128 : Int32)).toInt + p1.toInt := i32_add rfl rfl (by omega) (by omega)
  refine wp_gd (zin_of (m := 640) rfl (by omega) (by omega)) ?_
  refine wp_lt (fun x4 ex4 => ?_)
  have tx4 : x4.toInt = (gA o_me 4 (((p0 + (1 : Int32)) * (128 : Int32)) + p1).toNatClampNeg).toInt := by rw [ex4]
  have lp1 : ∀ (N1 : Nat) (v1_1 : Int32) (v2_1 : Int32) (v3_1 : Int32) (v4_1 : Int32), (0 ≤ v1_1.toInt ∧ v1_1.toInt ≤ 3) → (0 ≤ v2_1.toInt ∧ v2_1.toInt ≤ 127) → (0 ≤ v4_1.toInt ∧ v4_1.toInt ≤ 7) → (v1_1.toInt ≤ p0.toInt + 0) → (p0.toInt ≤ v1_1.toInt + 0) → (v2_1.toInt ≤ p1.toInt + 0) → (p1.toInt ≤ v2_1.toInt + 0) → (x4.toInt ≤ v3_1.toInt + 0) → (7 - v4_1.toInt).toNat < N1 → wp (lp_X7_bestFrom_18 o_me o_me_court_isles  N1 (v1_1, v2_1, v3_1, v4_1)) (fun (y : Int32) => True) := by
    intro N1
    induction N1 with
    | zero =>
      intro v1_1 v2_1 v3_1 v4_1 hh5 hh6 hh7 hh8 hh9 hh10 hh11 hh12 hN1
      exact absurd hN1 (Nat.not_lt_zero _)
    | succ N1 ihx =>
      have ih1 := ihx
      intro v1_1 v2_1 v3_1 v4_1 hh5 hh6 hh7 hh8 hh9 hh10 hh11 hh12 hN1
      show wp (lb_X7_bestFrom_18 o_me o_me_court_isles  (lp_X7_bestFrom_18 o_me o_me_court_isles  N1) v1_1 v2_1 v3_1 v4_1) (fun (y : Int32) => True)
      unfold lb_X7_bestFrom_18
      have t13 := igX2_7 hI_me_court_isles
      refine wp_if (fun c14 => ?_) (fun c14 => ?_)
      · have c14 := cv_ge (a := v4_1.toInt) (b := (gI o_me_court_isles 7).toInt) rfl rfl c14
        refine wp_some ?_
        exact trivial
      · have c14 := cv_nge (a := v4_1.toInt) (b := (gI o_me_court_isles 7).toInt) rfl rfl c14
        refine wp_bd (s_X7_scoreWith   o_me v4_1 v1_1 v2_1  hI_me  ⟨by omega, by omega⟩ ⟨by omega, by omega⟩ ⟨by omega, by omega⟩) (fun z15 hz15 => ?_)
        have rg17 := i32_rg v3_1
        have rg18 := i32_rg z15
        skip
        have t19 := z_mxg v3_1 z15
        refine wp_lt (fun x20 ex20 => ?_)
        have tx20 : x20.toInt = (if v3_1 < z15 then z15 else v3_1).toInt := by rw [ex20]
        refine wp_lt (fun x21 ex21 => ?_)
        have tx21 : x21.toInt = v4_1.toInt + 1 := by rw [ex21]; exact i32_add rfl (by decide) (by omega) (by omega)
        exact ih1 v1_1 v2_1 x20 x21  ⟨by omega, by omega⟩ ⟨by omega, by omega⟩ ⟨by omega, by omega⟩ (by omega) (by omega) (by omega) (by omega) (by omega) (by omega)
  exact lp1 zfu p0 p1 x4 (0 : Int32)  ⟨by omega, by omega⟩ ⟨by omega, by omega⟩ ⟨by decide, by decide⟩ (by omega) (by omega) (by omega) (by omega) (by omega) (by show _ < 100000; omega)

set_option maxHeartbeats 4000000 in
set_option maxRecDepth 100000 in
theorem s_X7_crownAll (o_me : Ob) (o_me_court : Ob) (o_me_court_isles : Ob) (o_me_court_isles_now : Ob) (o_me_court_machine : Ob) (o_pool : List CR) (hI_me : IvX7 o_me) (hI_me_court : IvX1 o_me_court) (hI_me_court_isles : IvX2 o_pool o_me_court_isles) (hI_me_court_isles_now : IvX4 o_me_court_isles_now) (hI_me_court_machine : IvX3 o_me_court_machine) (hI_pool : PLok o_pool)  : wp (f_X7_crownAll   o_me o_me_court o_me_court_isles o_me_court_isles_now o_me_court_machine o_pool) (fun (y : Int32 × Ob × Ob) => IvX7 y.2.1 ∧ Kp [] [3] [] o_me y.2.1 ∧ IvX3 y.2.2 ∧ Kp [] [] [] o_me_court_machine y.2.2) := by
  have li0 : (0 : Int32).toInt = 0 := by decide
  have li1 : (1 : Int32).toInt = 1 := by decide
  have li2 : (128 : Int32).toInt = 128 := by decide
  have li3 : (4 : Int32).toInt = 4 := by decide
  have li4 : (7 : Int32).toInt = 7 := by decide
  unfold f_X7_crownAll
  have lp1 : ∀ (N1 : Nat) (v1_1 : Int32) (o_me_1 : Ob) (o_me_court_machine_1 : Ob), IvX7 o_me_1 → Kp [] [3] [] o_me o_me_1 → IvX3 o_me_court_machine_1 → Kp [] [] [] o_me_court_machine o_me_court_machine_1 → (0 ≤ v1_1.toInt ∧ v1_1.toInt ≤ 4) → (4 - v1_1.toInt).toNat < N1 → wp (lp_X7_crownAll_2 o_me_court o_me_court_isles o_me_court_isles_now o_pool  N1 (v1_1, o_me_1, o_me_court_machine_1)) (fun (y : Int32 × Ob × Ob) => IvX7 y.2.1 ∧ Kp [] [3] [] o_me y.2.1 ∧ IvX3 y.2.2 ∧ Kp [] [] [] o_me_court_machine y.2.2) := by
    intro N1
    induction N1 with
    | zero =>
      intro v1_1 o_me_1 o_me_court_machine_1 hI_me_1 hkp_me_1 hI_me_court_machine_1 hkp_me_court_machine_1 hh1 hN1
      exact absurd hN1 (Nat.not_lt_zero _)
    | succ N1 ihx =>
      have ih1 := ihx
      intro v1_1 o_me_1 o_me_court_machine_1 hI_me_1 hkp_me_1 hI_me_court_machine_1 hkp_me_court_machine_1 hh1 hN1
      show wp (lb_X7_crownAll_2 o_me_court o_me_court_isles o_me_court_isles_now o_pool  (lp_X7_crownAll_2 o_me_court o_me_court_isles o_me_court_isles_now o_pool  N1) v1_1 o_me_1 o_me_court_machine_1) (fun (y : Int32 × Ob × Ob) => IvX7 y.2.1 ∧ Kp [] [3] [] o_me y.2.1 ∧ IvX3 y.2.2 ∧ Kp [] [] [] o_me_court_machine y.2.2)
      unfold lb_X7_crownAll_2
      refine wp_if (fun c2 => ?_) (fun c2 => ?_)
      · have c2 := cv_ge (a := v1_1.toInt) (b := 4) rfl (by decide) c2
        have t3 := igX2_7 hI_me_court_isles
        have t4 : 1 ≤ ((1 : Int32) <<< ((gI o_me_court_isles 7) &&& 31)).toInt ∧ ((1 : Int32) <<< ((gI o_me_court_isles 7) &&& 31)).toInt ≤ 128 := i32_shl7 (p := gI o_me_court_isles 7) (by omega) (by omega)
        refine wp_lt (fun x5 ex5 => ?_)
        have tx5 : x5.toInt = ((1 : Int32) <<< ((gI o_me_court_isles 7) &&& 31)).toInt := by rw [ex5]
        have lp2 : ∀ (N2 : Nat) (v1_2 : Int32) (v2_2 : Int32) (o_me_2 : Ob) (o_me_court_machine_2 : Ob), IvX7 o_me_2 → Kp [] [3] [] o_me o_me_2 → IvX3 o_me_court_machine_2 → Kp [] [] [] o_me_court_machine o_me_court_machine_2 → (1 ≤ v1_2.toInt ∧ v1_2.toInt ≤ 128) → ((-1) ≤ v2_2.toInt ∧ v2_2.toInt ≤ 4) → (v1_2.toInt ≤ x5.toInt + 0) → (x5.toInt ≤ v1_2.toInt + 0) → (v2_2.toInt - (-1)).toNat < N2 → wp (lp_X7_crownAll_30 o_me_court o_me_court_isles o_me_court_isles_now o_pool  N2 (v1_2, v2_2, o_me_2, o_me_court_machine_2)) (fun (y : Int32 × Ob × Ob) => IvX7 y.2.1 ∧ Kp [] [3] [] o_me y.2.1 ∧ IvX3 y.2.2 ∧ Kp [] [] [] o_me_court_machine y.2.2) := by
          intro N2
          induction N2 with
          | zero =>
            intro v1_2 v2_2 o_me_2 o_me_court_machine_2 hI_me_2 hkp_me_2 hI_me_court_machine_2 hkp_me_court_machine_2 hh6 hh7 hh8 hh9 hN2
            exact absurd hN2 (Nat.not_lt_zero _)
          | succ N2 ihx =>
            have ih2 := ihx
            intro v1_2 v2_2 o_me_2 o_me_court_machine_2 hI_me_2 hkp_me_2 hI_me_court_machine_2 hkp_me_court_machine_2 hh6 hh7 hh8 hh9 hN2
            show wp (lb_X7_crownAll_30 o_me_court o_me_court_isles o_me_court_isles_now o_pool  (lp_X7_crownAll_30 o_me_court o_me_court_isles o_me_court_isles_now o_pool  N2) v1_2 v2_2 o_me_2 o_me_court_machine_2) (fun (y : Int32 × Ob × Ob) => IvX7 y.2.1 ∧ Kp [] [3] [] o_me y.2.1 ∧ IvX3 y.2.2 ∧ Kp [] [] [] o_me_court_machine y.2.2)
            unfold lb_X7_crownAll_30
            refine wp_if (fun c10 => ?_) (fun c10 => ?_)
            · have c10 := cv_lt (a := v2_2.toInt) (b := 0) rfl (by decide) c10
              have lp3 : ∀ (N3 : Nat) (v2_3 : Int32) (v3_3 : Int32) (o_me_3 : Ob) (o_me_court_machine_3 : Ob), IvX7 o_me_3 → Kp [] [3] [] o_me o_me_3 → IvX3 o_me_court_machine_3 → Kp [] [] [] o_me_court_machine o_me_court_machine_3 → (0 ≤ v2_3.toInt ∧ v2_3.toInt ≤ 127) → (0 ≤ v3_3.toInt ∧ v3_3.toInt ≤ 4) → (4 - v3_3.toInt).toNat < N3 → wp (lp_X7_crownAll_92 o_me_court o_me_court_isles o_me_court_isles_now o_pool  N3 (v2_3, v3_3, o_me_3, o_me_court_machine_3)) (fun (y : Int32 × Ob × Ob) => IvX7 y.2.1 ∧ Kp [] [3] [] o_me y.2.1 ∧ IvX3 y.2.2 ∧ Kp [] [] [] o_me_court_machine y.2.2) := by
                intro N3
                induction N3 with
                | zero =>
                  intro v2_3 v3_3 o_me_3 o_me_court_machine_3 hI_me_3 hkp_me_3 hI_me_court_machine_3 hkp_me_court_machine_3 hh11 hh12 hN3
                  exact absurd hN3 (Nat.not_lt_zero _)
                | succ N3 ihx =>
                  have ih3 := ihx
                  intro v2_3 v3_3 o_me_3 o_me_court_machine_3 hI_me_3 hkp_me_3 hI_me_court_machine_3 hkp_me_court_machine_3 hh11 hh12 hN3
                  show wp (lb_X7_crownAll_92 o_me_court o_me_court_isles o_me_court_isles_now o_pool  (lp_X7_crownAll_92 o_me_court o_me_court_isles o_me_court_isles_now o_pool  N3) v2_3 v3_3 o_me_3 o_me_court_machine_3) (fun (y : Int32 × Ob × Ob) => IvX7 y.2.1 ∧ Kp [] [3] [] o_me y.2.1 ∧ IvX3 y.2.2 ∧ Kp [] [] [] o_me_court_machine y.2.2)
                  unfold lb_X7_crownAll_92
                  refine wp_if (fun c13 => ?_) (fun c13 => ?_)
                  · have c13 := cv_ge (a := v3_3.toInt) (b := 4) rfl (by decide) c13
                    refine wp_some ?_
                    exact (show IvX7 o_me_3 ∧ Kp [] [3] [] o_me o_me_3 ∧ IvX3 o_me_court_machine_3 ∧ Kp [] [] [] o_me_court_machine o_me_court_machine_3 from ⟨hI_me_3, hkp_me_3, hI_me_court_machine_3, hkp_me_court_machine_3⟩)
                  · have c13 := cv_nge (a := v3_3.toInt) (b := 4) rfl (by decide) c13
                    refine wp_bd (s_X7_firstCrowned   o_me_3 o_me_court_isles v3_3 v2_3  hI_me_3 hI_me_court_isles  ⟨by omega, by omega⟩ ⟨by omega, by omega⟩) (fun z14 hz14 => ?_)
                    have hz14_0 := hz14
                    refine wp_gd (zin_of (m := 7) rfl (by omega) (by omega)) ?_
                    refine wp_lt (fun o15 eo15 => ?_)
                    have hIo15 : IvX7 o15 := by rw [eo15]; exact ibX7_2 hI_me_3 (by omega) (Or.inr (Or.inr ⟨by omega, by omega⟩))
                    have ko15_v : (gA o15 2 v3_3.toNatClampNeg).toInt = z14.toInt := by rw [eo15]; exact congrArg Int32.toInt (upd_eq (g := gA o_me_3 2) (i := v3_3) (v := z14))
                    have hkpo15 : Kp [] [3] [] o_me o15 := hkp_me_3.trans (by rw [eo15]; exact Kp.tA (by decide) (by decide))
                    refine wp_gd (zin_of (m := 7) rfl (by omega) (by omega)) ?_
                    refine wp_if (fun c16 => ?_) (fun c16 => ?_)
                    · have c16 := cv_eq (a := (gA o15 2 v3_3.toNatClampNeg).toInt) (b := 7) rfl (by decide) c16
                      obtain ⟨w17, ew17⟩ : ∃ z : Int32, z = (0 : Int32) := ⟨_, rfl⟩
                      have tw17 : w17.toInt = 0 := by rw [ew17]; decide
                      rw [show bk_X7_crownAll_133 o_me_court o_me_court_isles o_me_court_isles_now o_pool (lp_X7_crownAll_92 o_me_court o_me_court_isles o_me_court_isles_now o_pool  N3) v3_3 (0 : Int32) v2_3 o15 o_me_court_machine_3 = bk_X7_crownAll_133 o_me_court o_me_court_isles o_me_court_isles_now o_pool (lp_X7_crownAll_92 o_me_court o_me_court_isles o_me_court_isles_now o_pool  N3) v3_3 w17 v2_3 o15 o_me_court_machine_3 from by rw [ew17]]
                      unfold bk_X7_crownAll_133
                      have t18 := i32_or7 (x := v2_3) (y := w17) ⟨by omega, by omega⟩ ⟨by omega, by omega⟩
                      refine wp_lt (fun x19 ex19 => ?_)
                      have tx19 : x19.toInt = (v2_3 ||| w17).toInt := by rw [ex19]
                      refine wp_lt (fun x20 ex20 => ?_)
                      have tx20 : x20.toInt = v3_3.toInt + 1 := by rw [ex20]; exact i32_add rfl (by decide) (by omega) (by omega)
                      exact ih3 x19 x20 o15 o_me_court_machine_3 hIo15 hkpo15 hI_me_court_machine_3 hkp_me_court_machine_3 ⟨by omega, by omega⟩ ⟨by omega, by omega⟩ (by omega)
                    · have c16 := cv_ne (a := (gA o15 2 v3_3.toNatClampNeg).toInt) (b := 7) rfl (by decide) c16
                      refine wp_gd (zin_of (m := 7) rfl (by omega) (by omega)) ?_
                      have t21 : 1 ≤ ((1 : Int32) <<< ((gA o15 2 v3_3.toNatClampNeg) &&& 31)).toInt ∧ ((1 : Int32) <<< ((gA o15 2 v3_3.toNatClampNeg) &&& 31)).toInt ≤ 64 := i32_shl6 (p := gA o15 2 v3_3.toNatClampNeg) (by omega) (by omega)
                      obtain ⟨w22, ew22⟩ : ∃ z : Int32, z = (1 : Int32) <<< ((gA o15 2 v3_3.toNatClampNeg) &&& 31) := ⟨_, rfl⟩
                      have tw22 : w22.toInt = ((1 : Int32) <<< ((gA o15 2 v3_3.toNatClampNeg) &&& 31)).toInt := by rw [ew22]
                      rw [show bk_X7_crownAll_133 o_me_court o_me_court_isles o_me_court_isles_now o_pool (lp_X7_crownAll_92 o_me_court o_me_court_isles o_me_court_isles_now o_pool  N3) v3_3 ((1 : Int32) <<< ((gA o15 2 v3_3.toNatClampNeg) &&& 31)) v2_3 o15 o_me_court_machine_3 = bk_X7_crownAll_133 o_me_court o_me_court_isles o_me_court_isles_now o_pool (lp_X7_crownAll_92 o_me_court o_me_court_isles o_me_court_isles_now o_pool  N3) v3_3 w22 v2_3 o15 o_me_court_machine_3 from by rw [ew22]]
                      unfold bk_X7_crownAll_133
                      have t23 := i32_or7 (x := v2_3) (y := w22) ⟨by omega, by omega⟩ ⟨by omega, by omega⟩
                      refine wp_lt (fun x24 ex24 => ?_)
                      have tx24 : x24.toInt = (v2_3 ||| w22).toInt := by rw [ex24]
                      refine wp_lt (fun x25 ex25 => ?_)
                      have tx25 : x25.toInt = v3_3.toInt + 1 := by rw [ex25]; exact i32_add rfl (by decide) (by omega) (by omega)
                      exact ih3 x24 x25 o15 o_me_court_machine_3 hIo15 hkpo15 hI_me_court_machine_3 hkp_me_court_machine_3 ⟨by omega, by omega⟩ ⟨by omega, by omega⟩ (by omega)
              exact lp3 zfu (0 : Int32) (0 : Int32) o_me_2 o_me_court_machine_2 hI_me_2 hkp_me_2 hI_me_court_machine_2 hkp_me_court_machine_2 ⟨by decide, by decide⟩ ⟨by decide, by decide⟩ (by show _ < 100000; omega)
            · have c10 := cv_nlt (a := v2_2.toInt) (b := 0) rfl (by decide) c10
              have lp4 : ∀ (N4 : Nat) (v1_4 : Int32) (v2_4 : Int32) (v3_4 : Int32) (o_me_4 : Ob) (o_me_court_machine_4 : Ob), IvX7 o_me_4 → Kp [] [3] [] o_me o_me_4 → IvX3 o_me_court_machine_4 → Kp [] [] [] o_me_court_machine o_me_court_machine_4 → (1 ≤ v1_4.toInt ∧ v1_4.toInt ≤ 128) → (0 ≤ v2_4.toInt ∧ v2_4.toInt ≤ 4) → (0 ≤ v3_4.toInt ∧ v3_4.toInt ≤ 128) → (v3_4.toInt ≤ v1_4.toInt + 0) → (v1_4.toInt ≤ x5.toInt + 0) → (x5.toInt ≤ v1_4.toInt + 0) → (v1_4.toInt ≤ v1_2.toInt + 0) → (v1_2.toInt ≤ v1_4.toInt + 0) → (v2_4.toInt ≤ v2_2.toInt + 0) → (v2_2.toInt ≤ v2_4.toInt + 0) → (v3_4.toInt ≤ x5.toInt + 0) → (v3_4.toInt ≤ v1_2.toInt + 0) → (128 - v3_4.toInt).toNat < N4 → wp (lp_X7_crownAll_36 o_me_court o_me_court_isles o_me_court_isles_now o_pool (lp_X7_crownAll_30 o_me_court o_me_court_isles o_me_court_isles_now o_pool  N2) N4 (v1_4, v2_4, v3_4, o_me_4, o_me_court_machine_4)) (fun (y : Int32 × Ob × Ob) => IvX7 y.2.1 ∧ Kp [] [3] [] o_me y.2.1 ∧ IvX3 y.2.2 ∧ Kp [] [] [] o_me_court_machine y.2.2) := by
                intro N4
                induction N4 with
                | zero =>
                  intro v1_4 v2_4 v3_4 o_me_4 o_me_court_machine_4 hI_me_4 hkp_me_4 hI_me_court_machine_4 hkp_me_court_machine_4 hh26 hh27 hh28 hh29 hh30 hh31 hh32 hh33 hh34 hh35 hh36 hh37 hN4
                  exact absurd hN4 (Nat.not_lt_zero _)
                | succ N4 ihx =>
                  have ih4 := ihx
                  intro v1_4 v2_4 v3_4 o_me_4 o_me_court_machine_4 hI_me_4 hkp_me_4 hI_me_court_machine_4 hkp_me_court_machine_4 hh26 hh27 hh28 hh29 hh30 hh31 hh32 hh33 hh34 hh35 hh36 hh37 hN4
                  show wp (lb_X7_crownAll_36 o_me_court o_me_court_isles o_me_court_isles_now o_pool (lp_X7_crownAll_30 o_me_court o_me_court_isles o_me_court_isles_now o_pool  N2) (lp_X7_crownAll_36 o_me_court o_me_court_isles o_me_court_isles_now o_pool (lp_X7_crownAll_30 o_me_court o_me_court_isles o_me_court_isles_now o_pool  N2) N4) v1_4 v2_4 v3_4 o_me_4 o_me_court_machine_4) (fun (y : Int32 × Ob × Ob) => IvX7 y.2.1 ∧ Kp [] [3] [] o_me y.2.1 ∧ IvX3 y.2.2 ∧ Kp [] [] [] o_me_court_machine y.2.2)
                  unfold lb_X7_crownAll_36
                  refine wp_if (fun c38 => ?_) (fun c38 => ?_)
                  · have c38 := cv_ge (a := v3_4.toInt) (b := v1_4.toInt) rfl rfl c38
                    refine wp_lt (fun x39 ex39 => ?_)
                    have tx39 : x39.toInt = v2_4.toInt + (-1) := by rw [ex39]; exact i32_add rfl (by decide) (by omega) (by omega)
                    exact ih2 v1_4 x39 o_me_4 o_me_court_machine_4 hI_me_4 hkp_me_4 hI_me_court_machine_4 hkp_me_court_machine_4 ⟨by omega, by omega⟩ ⟨by omega, by omega⟩ (by omega) (by omega) (by omega)
                  · have c38 := cv_nge (a := v3_4.toInt) (b := v1_4.toInt) rfl rfl c38
                    refine wp_bd (s_J6_bitCount_0f7a4   v3_4    ) (fun z40 hz40 => ?_)
                    have hz40_0 := hz40
                    refine wp_if (fun c41 => ?_) (fun c41 => ?_)
                    · have c41 := cv_gt (a := z40.toInt) (b := v2_4.toInt) rfl rfl c41
                      unfold bk_X7_crownAll_76
                      refine wp_lt (fun x42 ex42 => ?_)
                      have tx42 : x42.toInt = v3_4.toInt + 1 := by rw [ex42]; exact i32_add rfl (by decide) (by omega) (by omega)
                      exact ih4 v1_4 v2_4 x42 o_me_4 o_me_court_machine_4 hI_me_4 hkp_me_4 hI_me_court_machine_4 hkp_me_court_machine_4 ⟨by omega, by omega⟩ ⟨by omega, by omega⟩ ⟨by omega, by omega⟩ (by omega) (by omega) (by omega) (by omega) (by omega) (by omega) (by omega) (by omega) (by omega) (by omega)
                    · have c41 := cv_ngt (a := z40.toInt) (b := v2_4.toInt) rfl rfl c41
                      have t43 : (v2_4 * (128 : Int32)).toInt = v2_4.toInt * 128 := i32_mul rfl (by decide) (by omega) (by omega)
                      have t44 : ((v2_4 * (128 : Int32)) + v3_4).toInt = (v2_4 * (128 : Int32)).toInt + v3_4.toInt := i32_add rfl rfl (by omega) (by omega)
                      refine wp_if (fun c45 => ?_) (fun c45 => ?_)
                      · have c45 := cv_eq (a := v2_4.toInt) (b := 4) rfl (by decide) c45
                        obtain ⟨w46, ew46⟩ : ∃ z : Int32, z = (0 : Int32) := ⟨_, rfl⟩
                        have tw46 : w46.toInt = 0 := by rw [ew46]; decide
                        obtain ⟨w47, ew47⟩ : ∃ z : Int32, z = (v2_4 * (128 : Int32)) + v3_4 := ⟨_, rfl⟩
                        have tw47 : w47.toInt = ((v2_4 * (128 : Int32)) + v3_4).toInt := by rw [ew47]
                        rw [show bk_X7_crownAll_75 o_me_court o_me_court_isles o_me_court_isles_now o_pool (lp_X7_crownAll_30 o_me_court o_me_court_isles o_me_court_isles_now o_pool  N2) (lp_X7_crownAll_36 o_me_court o_me_court_isles o_me_court_isles_now o_pool (lp_X7_crownAll_30 o_me_court o_me_court_isles o_me_court_isles_now o_pool  N2) N4) v1_4 v2_4 v3_4 (0 : Int32) ((v2_4 * (128 : Int32)) + v3_4) o_me_4 o_me_court_machine_4 = bk_X7_crownAll_75 o_me_court o_me_court_isles o_me_court_isles_now o_pool (lp_X7_crownAll_30 o_me_court o_me_court_isles o_me_court_isles_now o_pool  N2) (lp_X7_crownAll_36 o_me_court o_me_court_isles o_me_court_isles_now o_pool (lp_X7_crownAll_30 o_me_court o_me_court_isles o_me_court_isles_now o_pool  N2) N4) v1_4 v2_4 v3_4 w46 w47 o_me_4 o_me_court_machine_4 from by rw [ew46, ew47]]
                        unfold bk_X7_crownAll_75
                        refine wp_gd (zin_of (m := 640) rfl (by omega) (by omega)) ?_
                        refine wp_lt (fun o48 eo48 => ?_)
                        have hIo48 : IvX7 o48 := by rw [eo48]; exact hI_me_4
                        have ko48_v : (gA o48 4 w47.toNatClampNeg).toInt = w46.toInt := by rw [eo48]; exact congrArg Int32.toInt (upd_eq (g := gA o_me_4 4) (i := w47) (v := w46))
                        have hkpo48 : Kp [] [3] [] o_me o48 := hkp_me_4.trans (by rw [eo48]; exact Kp.tA (by decide) (by decide))
                        unfold bk_X7_crownAll_76
                        refine wp_lt (fun x49 ex49 => ?_)
                        have tx49 : x49.toInt = v3_4.toInt + 1 := by rw [ex49]; exact i32_add rfl (by decide) (by omega) (by omega)
                        exact ih4 v1_4 v2_4 x49 o48 o_me_court_machine_4 hIo48 hkpo48 hI_me_court_machine_4 hkp_me_court_machine_4 ⟨by omega, by omega⟩ ⟨by omega, by omega⟩ ⟨by omega, by omega⟩ (by omega) (by omega) (by omega) (by omega) (by omega) (by omega) (by omega) (by omega) (by omega) (by omega)
                      · have c45 := cv_ne (a := v2_4.toInt) (b := 4) rfl (by decide) c45
                        refine wp_bd (s_X7_bestFrom   o_me_4 o_me_court_isles v2_4 v3_4  hI_me_4 hI_me_court_isles  ⟨by omega, by omega⟩ ⟨by omega, by omega⟩) (fun z50 hz50 => ?_)
                        obtain ⟨w51, ew51⟩ : ∃ z : Int32, z = (v2_4 * (128 : Int32)) + v3_4 := ⟨_, rfl⟩
                        have tw51 : w51.toInt = ((v2_4 * (128 : Int32)) + v3_4).toInt := by rw [ew51]
                        rw [show bk_X7_crownAll_75 o_me_court o_me_court_isles o_me_court_isles_now o_pool (lp_X7_crownAll_30 o_me_court o_me_court_isles o_me_court_isles_now o_pool  N2) (lp_X7_crownAll_36 o_me_court o_me_court_isles o_me_court_isles_now o_pool (lp_X7_crownAll_30 o_me_court o_me_court_isles o_me_court_isles_now o_pool  N2) N4) v1_4 v2_4 v3_4 z50 ((v2_4 * (128 : Int32)) + v3_4) o_me_4 o_me_court_machine_4 = bk_X7_crownAll_75 o_me_court o_me_court_isles o_me_court_isles_now o_pool (lp_X7_crownAll_30 o_me_court o_me_court_isles o_me_court_isles_now o_pool  N2) (lp_X7_crownAll_36 o_me_court o_me_court_isles o_me_court_isles_now o_pool (lp_X7_crownAll_30 o_me_court o_me_court_isles o_me_court_isles_now o_pool  N2) N4) v1_4 v2_4 v3_4 z50 w51 o_me_4 o_me_court_machine_4 from by rw [ew51]]
                        unfold bk_X7_crownAll_75
                        refine wp_gd (zin_of (m := 640) rfl (by omega) (by omega)) ?_
                        refine wp_lt (fun o52 eo52 => ?_)
                        have hIo52 : IvX7 o52 := by rw [eo52]; exact hI_me_4
                        have ko52_v : (gA o52 4 w51.toNatClampNeg).toInt = z50.toInt := by rw [eo52]; exact congrArg Int32.toInt (upd_eq (g := gA o_me_4 4) (i := w51) (v := z50))
                        have hkpo52 : Kp [] [3] [] o_me o52 := hkp_me_4.trans (by rw [eo52]; exact Kp.tA (by decide) (by decide))
                        unfold bk_X7_crownAll_76
                        refine wp_lt (fun x53 ex53 => ?_)
                        have tx53 : x53.toInt = v3_4.toInt + 1 := by rw [ex53]; exact i32_add rfl (by decide) (by omega) (by omega)
                        exact ih4 v1_4 v2_4 x53 o52 o_me_court_machine_4 hIo52 hkpo52 hI_me_court_machine_4 hkp_me_court_machine_4 ⟨by omega, by omega⟩ ⟨by omega, by omega⟩ ⟨by omega, by omega⟩ (by omega) (by omega) (by omega) (by omega) (by omega) (by omega) (by omega) (by omega) (by omega) (by omega)
              exact lp4 zfu v1_2 v2_2 (0 : Int32) o_me_2 o_me_court_machine_2 hI_me_2 hkp_me_2 hI_me_court_machine_2 hkp_me_court_machine_2 ⟨by omega, by omega⟩ ⟨by omega, by omega⟩ ⟨by decide, by decide⟩ (by omega) (by omega) (by omega) (by omega) (by omega) (by omega) (by omega) (by omega) (by omega) (by show _ < 100000; omega)
        exact lp2 zfu x5 (4 : Int32) o_me_1 o_me_court_machine_1 hI_me_1 hkp_me_1 hI_me_court_machine_1 hkp_me_court_machine_1 ⟨by omega, by omega⟩ ⟨by decide, by decide⟩ (by omega) (by omega) (by show _ < 100000; omega)
      · have c2 := cv_nge (a := v1_1.toInt) (b := 4) rfl (by decide) c2
        refine wp_bd (s_X7_setScores   o_me_1 o_me_court o_me_court_isles o_me_court_isles_now o_me_court_machine_1 o_pool v1_1  hI_me_1 hI_me_court hI_me_court_isles hI_me_court_isles_now hI_me_court_machine_1 hI_pool  ⟨by omega, by omega⟩) (fun z54 hz54 => ?_)
        obtain ⟨hz54_0, hz54_1, hz54_2, hz54_3⟩ := hz54
        have hkpz54_me : Kp [] [3] [] o_me z54.1 := hkp_me_1.trans (hz54_1.mono (by decide) (by decide) (by decide))
        have hkpz54_me_court_machine : Kp [] [] [] o_me_court_machine z54.2 := hkp_me_court_machine_1.trans (hz54_3.mono (by decide) (by decide) (by decide))
        refine wp_lt (fun x55 ex55 => ?_)
        have tx55 : x55.toInt = v1_1.toInt + 1 := by rw [ex55]; exact i32_add rfl (by decide) (by omega) (by omega)
        exact ih1 x55 z54.1 z54.2 hz54_0 hkpz54_me hz54_2 hkpz54_me_court_machine ⟨by omega, by omega⟩ (by omega)
  exact lp1 zfu (0 : Int32) o_me o_me_court_machine hI_me Kp.rf hI_me_court_machine Kp.rf ⟨by decide, by decide⟩ (by show _ < 100000; omega)

set_option maxHeartbeats 4000000 in
set_option maxRecDepth 100000 in
theorem s_X8_crowned {rI : Nat → Option Nat} (o_me : Ob) (o_me_machine : Ob) (o_me_isles : Ob) (o_me_isles_now : Ob) (o_me_court : Ob) (o_me_study : Ob) (o_pool : List CR) (p0 : Int32) (hI_me : IvX8 rI o_me) (hI_me_machine : IvX3 o_me_machine) (hI_me_isles : IvX2 o_pool o_me_isles) (hI_me_isles_now : IvX4 o_me_isles_now) (hI_me_court : IvX1 o_me_court) (hI_me_study : IvX7 o_me_study) (hI_pool : PLok o_pool)  : wp (f_X8_crowned   o_me o_me_machine o_me_isles o_me_isles_now o_me_court o_me_study o_pool p0) (fun (y : Int32 × Ob × Ob) => IvX3 y.2.1 ∧ Kp [] [] [] o_me_machine y.2.1 ∧ IvX7 y.2.2 ∧ Kp [] [3] [] o_me_study y.2.2) := by
  have li0 : (-1 : Int32).toInt = (-1) := by decide
  have li1 : (1 : Int32).toInt = 1 := by decide
  have li2 : (4 : Int32).toInt = 4 := by decide
  unfold f_X8_crowned
  refine wp_if (fun c1 => ?_) (fun c1 => ?_)
  · have c1 := cv_lt (a := p0.toInt) (b := 0) rfl (by decide) c1
    refine wp_some ?_
    exact (show IvX3 o_me_machine ∧ Kp [] [] [] o_me_machine o_me_machine ∧ IvX7 o_me_study ∧ Kp [] [3] [] o_me_study o_me_study from ⟨hI_me_machine, Kp.rf, hI_me_study, Kp.rf⟩)
  · have c1 := cv_nlt (a := p0.toInt) (b := 0) rfl (by decide) c1
    refine wp_if (fun c2 => ?_) (fun c2 => ?_)
    · have c2 := cv_le (a := p0.toInt) (b := 4) rfl (by decide) c2
      refine wp_bd (s_X7_crownAll   o_me_study o_me_court o_me_isles o_me_isles_now o_me_machine o_pool  hI_me_study hI_me_court hI_me_isles hI_me_isles_now hI_me_machine hI_pool  ) (fun z3 hz3 => ?_)
      obtain ⟨hz3_0, hz3_1, hz3_2, hz3_3⟩ := hz3
      have hkpz3_me_study : Kp [] [3] [] o_me_study z3.2.1 := Kp.rf.trans (hz3_1.mono (by decide) (by decide) (by decide))
      have hkpz3_me_machine : Kp [] [] [] o_me_machine z3.2.2 := Kp.rf.trans (hz3_3.mono (by decide) (by decide) (by decide))
      refine wp_if (fun c4 => ?_) (fun c4 => ?_)
      · have c4 := cv_eq (a := p0.toInt) (b := 0) rfl (by decide) c4
        refine wp_some ?_
        exact (show IvX3 z3.2.2 ∧ Kp [] [] [] o_me_machine z3.2.2 ∧ IvX7 z3.2.1 ∧ Kp [] [3] [] o_me_study z3.2.1 from ⟨hz3_2, hkpz3_me_machine, hz3_0, hkpz3_me_study⟩)
      · have c4z := c4
        have c4 := cv_ne (a := p0.toInt) (b := 0) rfl (by decide) c4
        have t5 : (p0 - (1 : Int32)).toInt = p0.toInt - 1 := i32_sub rfl (by decide) (by omega) (by omega)
        refine wp_gd (zin_of (m := 7) rfl (by omega) (by omega)) ?_
        have t6 := iaX7_2_0 hz3_0 (j := p0 - (1 : Int32)) (by omega) (by omega)
        refine wp_some ?_
        exact (show IvX3 z3.2.2 ∧ Kp [] [] [] o_me_machine z3.2.2 ∧ IvX7 z3.2.1 ∧ Kp [] [3] [] o_me_study z3.2.1 from ⟨hz3_2, hkpz3_me_machine, hz3_0, hkpz3_me_study⟩)
    · have c2 := cv_nle (a := p0.toInt) (b := 4) rfl (by decide) c2
      refine wp_some ?_
      exact (show IvX3 o_me_machine ∧ Kp [] [] [] o_me_machine o_me_machine ∧ IvX7 o_me_study ∧ Kp [] [3] [] o_me_study o_me_study from ⟨hI_me_machine, Kp.rf, hI_me_study, Kp.rf⟩)

set_option maxHeartbeats 4000000 in
set_option maxRecDepth 100000 in
theorem s_X4_told (o_me : Ob) (p0 : Int32) (p1 : Int32) (hI_me : IvX4 o_me) (q0 : 0 ≤ p0.toInt ∧ p0.toInt ≤ 6) : wp (f_X4_told   o_me p0 p1) (fun (y : Int32) => True) := by
  have li0 : (-1 : Int32).toInt = (-1) := by decide
  have li1 : (1 : Int32).toInt = 1 := by decide
  have li2 : (2 : Int32).toInt = 2 := by decide
  unfold f_X4_told
  refine wp_if (fun c1 => ?_) (fun c1 => ?_)
  · have c1 := cv_eq (a := p1.toInt) (b := 0) rfl (by decide) c1
    refine wp_gd (zin_of (m := 7) rfl (by omega) (by omega)) ?_
    have t2 := iaX4_0_0 hI_me (j := p0) (by omega) (by omega)
    refine wp_some ?_
    exact trivial
  · have c1z := c1
    have c1 := cv_ne (a := p1.toInt) (b := 0) rfl (by decide) c1
    refine wp_if (fun c3 => ?_) (fun c3 => ?_)
    · have c3 := cv_eq (a := p1.toInt) (b := 1) rfl (by decide) c3
      refine wp_gd (zin_of (m := 7) rfl (by omega) (by omega)) ?_
      refine wp_some ?_
      exact trivial
    · have c3 := cv_ne (a := p1.toInt) (b := 1) rfl (by decide) c3
      refine wp_if (fun c4 => ?_) (fun c4 => ?_)
      · have c4 := cv_eq (a := p1.toInt) (b := 2) rfl (by decide) c4
        have t5 := i32_and (x := (gI o_me 2) >>> (p0 &&& 31)) (y := (1 : Int32)) (m := 1) ⟨by decide, by decide⟩
        refine wp_some ?_
        exact trivial
      · have c4 := cv_ne (a := p1.toInt) (b := 2) rfl (by decide) c4
        refine wp_some ?_
        exact trivial

set_option maxHeartbeats 4000000 in
set_option maxRecDepth 100000 in
theorem s_X8_drawn {pl : List CR} {rI : Nat → Option Nat} (o_me : Ob) (o_me_paper : Ob) (o_me_paper_now : Ob) (p0 : Int32) (p1 : Int32) (hI_me : IvX8 rI o_me) (hI_me_paper : IvX2 pl o_me_paper) (hI_me_paper_now : IvX4 o_me_paper_now)  : wp (f_X8_drawn   o_me o_me_paper o_me_paper_now p0 p1) (fun (y : Int32) => True) := by
  have li0 : (-1 : Int32).toInt = (-1) := by decide
  unfold f_X8_drawn
  refine wp_bd (s_X2_isPerson   o_me_paper p0  hI_me_paper  ) (fun z1 hz1 => ?_)
  obtain ⟨hz1_0, hz1_1⟩ := hz1
  refine wp_if (fun c2 => ?_) (fun c2 => ?_)
  · have c2 := cv_eq (a := z1.toInt) (b := 0) rfl (by decide) c2
    refine wp_some ?_
    exact trivial
  · have c2z := c2
    have c2i := hz1_1 c2
    have c2 := cv_ne (a := z1.toInt) (b := 0) rfl (by decide) c2
    refine wp_bd (s_X4_told   o_me_paper_now p0 p1  hI_me_paper_now  ⟨by omega, by omega⟩) (fun z3 hz3 => ?_)
    refine wp_some ?_
    exact trivial

set_option maxHeartbeats 4000000 in
set_option maxRecDepth 100000 in
theorem s_X8_end {rI : Nat → Option Nat} (o_me : Ob) (o_me_reader : Ob) (p0 : Int32) (hI_me : IvX8 rI o_me) (hI_me_reader : IvX6 o_me_reader)  : wp (f_X8_end   o_me o_me_reader p0) (fun (y : Int32 × Ob) => ((-1) ≤ y.1.toInt ∧ y.1.toInt ≤ 400) ∧ IvX6 y.2 ∧ Kp [3, 4, 5, 6, 7, 8] [0] [] o_me_reader y.2) := by
  have li0 : (-1 : Int32).toInt = (-1) := by decide
  unfold f_X8_end
  refine wp_if (fun c1 => ?_) (fun c1 => ?_)
  · have c1 := cv_lt (a := p0.toInt) (b := 0) rfl (by decide) c1
    refine wp_some ?_
    exact (show ((-1) ≤ (-1 : Int32).toInt ∧ (-1 : Int32).toInt ≤ 400) ∧ IvX6 o_me_reader ∧ Kp [3, 4, 5, 6, 7, 8] [0] [] o_me_reader o_me_reader from ⟨⟨by decide, by decide⟩, hI_me_reader, Kp.rf⟩)
  · have c1 := cv_nlt (a := p0.toInt) (b := 0) rfl (by decide) c1
    have t2 := igX6_2 hI_me_reader
    have rg4 := i32_rg p0
    refine wp_if (fun c3 => ?_) (fun c3 => ?_)
    · have c3 := cv_le (a := p0.toInt) (b := (gI o_me_reader 2).toInt) rfl rfl c3
      refine wp_lt (fun o5 eo5 => ?_)
      have hIo5 : IvX6 o5 := by rw [eo5]; exact ipX6_2 hI_me_reader ⟨by omega, by omega⟩
      have ko5_v : (gI o5 2).toInt = p0.toInt := by rw [eo5]; rfl
      have hkpo5 : Kp [3, 4, 5, 6, 7, 8] [0] [] o_me_reader o5 := Kp.rf.trans (by rw [eo5]; exact Kp.sI (by decide))
      refine wp_some ?_
      exact (show ((-1) ≤ p0.toInt ∧ p0.toInt ≤ 400) ∧ IvX6 o5 ∧ Kp [3, 4, 5, 6, 7, 8] [0] [] o_me_reader o5 from ⟨⟨by omega, by omega⟩, hIo5, hkpo5⟩)
    · have c3 := cv_nle (a := p0.toInt) (b := (gI o_me_reader 2).toInt) rfl rfl c3
      refine wp_some ?_
      exact (show ((-1) ≤ (-1 : Int32).toInt ∧ (-1 : Int32).toInt ≤ 400) ∧ IvX6 o_me_reader ∧ Kp [3, 4, 5, 6, 7, 8] [0] [] o_me_reader o_me_reader from ⟨⟨by decide, by decide⟩, hI_me_reader, Kp.rf⟩)

theorem AHok.up {g : Nat → Int32} {i : Nat} {v : Int32} (h : AHok g) (hi : ∀ k j : Nat, k < 16 → j < 7 → 17 * k + j ≠ i) : AHok (upd g i v) := by
  intro k j hk hj
  have e : upd g i v (17 * k + j) = g (17 * k + j) := if_neg (hi k j hk hj)
  rw [e]; exact h k j hk hj
theorem h_writeTo (oa o3 : Ob) (x : Int32) (h0 : 0 ≤ x.toInt) (h1 : x.toInt ≤ 15) (ha : IvX4 oa) (hg : AHok (gA o3 1)) : wp (f_X4_writeTo_AX5_1 oa o3 (x * (17 : Int32))) (fun y => AHok (gA y 1) ∧ gI y 2 = gI o3 2 ∧ gI y 3 = gI o3 3) := by
  have t : (x * (17 : Int32)).toInt = x.toInt * 17 := i32_mul rfl (by decide) (by omega) (by omega)
  generalize x * (17 : Int32) = q at t
  have t7 : (q + (7 : Int32)).toInt = q.toInt + 7 := i32_add rfl (by decide) (by omega) (by omega)
  have t17 : (q + (17 : Int32)).toInt = q.toInt + 17 := i32_add rfl (by decide) (by omega) (by omega)
  have u3 : ((q + (17 : Int32)) - (3 : Int32)).toInt = q.toInt + 17 - 3 := i32_sub t17 (by decide) (by omega) (by omega)
  have u2 : ((q + (17 : Int32)) - (2 : Int32)).toInt = q.toInt + 17 - 2 := i32_sub t17 (by decide) (by omega) (by omega)
  have u1 : ((q + (17 : Int32)) - (1 : Int32)).toInt = q.toInt + 17 - 1 := i32_sub t17 (by decide) (by omega) (by omega)
  obtain ⟨n, en⟩ : ∃ n : Nat, x.toInt = (n : Int) := ⟨x.toInt.toNat, by omega⟩
  have eq : q.toNatClampNeg = 17 * n := tnc_eq (by omega)
  have e7 : (q + (7 : Int32)).toNatClampNeg = 17 * n + 7 := tnc_eq (by omega)
  have f3 : ((q + (17 : Int32)) - (3 : Int32)).toNatClampNeg = 17 * n + 14 := tnc_eq (by omega)
  have f2 : ((q + (17 : Int32)) - (2 : Int32)).toNatClampNeg = 17 * n + 15 := tnc_eq (by omega)
  have f1 : ((q + (17 : Int32)) - (1 : Int32)).toNatClampNeg = 17 * n + 16 := tnc_eq (by omega)
  have n0 : (0 : Int32).toNatClampNeg = 0 := by decide
  have n7 : (7 : Int32).toNatClampNeg = 7 := by decide
  have z0 : (0 : Int32).toInt = 0 := by decide
  have z7 : (7 : Int32).toInt = 7 := by decide
  unfold f_X4_writeTo_AX5_1
  refine wp_if (fun c => ?_) (fun c => ?_)
  · exfalso; have c := cv_lt (a := q.toInt) (b := 0) rfl (by decide) c; omega
  refine wp_if (fun c => ?_) (fun c => ?_)
  rotate_left
  · exfalso; have c := cv_nle (a := q.toInt) (b := 255) rfl (by decide) c; omega
  refine wp_gd (zcp_of (m0 := 7) (m1 := 272) rfl rfl (by omega) (by omega) (by omega) (by omega) (by omega)) ?_
  refine wp_lt (fun o2 e2 => ?_)
  have g2 : AHok (gA o2 1) := by
    intro k j hk hj
    rw [e2]
    show 0 ≤ (va_cpy (gA oa 0) (gA o3 1) (0 : Int32).toNatClampNeg q.toNatClampNeg (7 : Int32).toNatClampNeg (17 * k + j)).toInt ∧ (va_cpy (gA oa 0) (gA o3 1) (0 : Int32).toNatClampNeg q.toNatClampNeg (7 : Int32).toNatClampNeg (17 * k + j)).toInt ≤ 9
    rw [n0, n7, eq]
    unfold va_cpy
    split
    · exact ha.1.1 _ (Nat.zero_le _) (by omega)
    · exact hg k j hk hj
  have i2 : gI o2 2 = gI o3 2 ∧ gI o2 3 = gI o3 3 := by rw [e2]; exact ⟨rfl, rfl⟩
  refine wp_gd (zcp_of (m0 := 7) (m1 := 272) rfl rfl (by omega) (by omega) (by omega) (by omega) (by omega)) ?_
  refine wp_lt (fun o4 e4 => ?_)
  have g4 : AHok (gA o4 1) := by
    intro k j hk hj
    rw [e4]
    show 0 ≤ (va_cpy (gA oa 1) (gA o2 1) (0 : Int32).toNatClampNeg (q + (7 : Int32)).toNatClampNeg (7 : Int32).toNatClampNeg (17 * k + j)).toInt ∧ (va_cpy (gA oa 1) (gA o2 1) (0 : Int32).toNatClampNeg (q + (7 : Int32)).toNatClampNeg (7 : Int32).toNatClampNeg (17 * k + j)).toInt ≤ 9
    rw [n0, n7, e7]
    unfold va_cpy
    rw [if_neg (by omega)]
    exact g2 k j hk hj
  have i4 : gI o4 2 = gI o3 2 ∧ gI o4 3 = gI o3 3 := by rw [e4]; exact i2
  refine wp_gd (zin_of (m := 272) rfl (by omega) (by omega)) ?_
  refine wp_lt (fun o6 e6 => ?_)
  have g6 : AHok (gA o6 1) := by rw [e6]; exact g4.up (fun k j hk hj => by rw [f3]; omega)
  have i6 : gI o6 2 = gI o3 2 ∧ gI o6 3 = gI o3 3 := by rw [e6]; exact i4
  refine wp_gd (zin_of (m := 272) rfl (by omega) (by omega)) ?_
  refine wp_lt (fun o8 e8 => ?_)
  have g8 : AHok (gA o8 1) := by rw [e8]; exact g6.up (fun k j hk hj => by rw [f2]; omega)
  have i8 : gI o8 2 = gI o3 2 ∧ gI o8 3 = gI o3 3 := by rw [e8]; exact i6
  refine wp_gd (zin_of (m := 272) rfl (by omega) (by omega)) ?_
  refine wp_lt (fun o10 e10 => ?_)
  refine wp_some ⟨by rw [e10]; exact g8.up (fun k j hk hj => by rw [f1]; omega), by rw [e10]; exact i8.1, by rw [e10]; exact i8.2⟩
theorem h_keep32 (oa o : Ob) (v1 : Int32) (ha : IvX4 oa) (hI : IvX5 o) (hs : (gI o 3).toInt ≤ 15) : wp (bk_X5_keep_O_32 oa v1 o) (fun y => IvX5 y) := by
  have h2 := hI.1
  have h3 := hI.2.1
  unfold bk_X5_keep_O_32
  have t : ((gI o 2) + (gI o 3)).toInt = (gI o 2).toInt + (gI o 3).toInt := i32_add rfl rfl (by omega) (by omega)
  have r := i32_rem (x := (gI o 2) + (gI o 3)) (y := 16) (m := 16) (by decide) (by decide) (by omega)
  refine wp_lt (fun x1 e1 => ?_)
  rw [← e1] at r
  refine wp_gd (zin_of (m := 16) rfl (by omega) (by omega)) ?_
  refine wp_lt (fun o3 e3 => ?_)
  have g3 : AHok (gA o3 1) := by rw [e3]; exact hI.2.2
  have i3 : gI o3 2 = gI o 2 ∧ gI o3 3 = gI o 3 := by rw [e3]; exact ⟨rfl, rfl⟩
  refine wp_bd (h_writeTo oa o3 x1 r.1 (by omega) ha g3) (fun z hz => ?_)
  refine wp_lt (fun o5 e5 => ?_)
  have k2 : gI z 2 = gI o 2 := hz.2.1.trans i3.1
  have k3 : gI z 3 = gI o 3 := hz.2.2.trans i3.2
  have t5 : ((gI z 3) + (1 : Int32)).toInt = (gI o 3).toInt + 1 := i32_add (by rw [k3]) (by decide) (by omega) (by omega)
  refine wp_some ?_
  rw [e5]
  refine ⟨?_, ?_, hz.1⟩
  · show 0 ≤ (gI z 2).toInt ∧ (gI z 2).toInt ≤ 15
    rw [k2]; exact h2
  · show 0 ≤ ((gI z 3) + (1 : Int32)).toInt ∧ ((gI z 3) + (1 : Int32)).toInt ≤ 16
    omega
set_option maxHeartbeats 4000000 in
set_option maxRecDepth 100000 in
theorem s_X5_keep_O (o_me : Ob) (o_a1 : Ob) (p0 : Int32) (hI_me : IvX5 o_me) (hI_a1 : IvX4 o_a1)  : wp (f_X5_keep_O   o_me o_a1 p0) (fun (y : Ob) => IvX5 y ∧ Kp [] [] [] o_me y) := by
  have h2 := hI_me.1
  have h3 := hI_me.2.1
  unfold f_X5_keep_O
  refine wp_if (fun c => ?_) (fun c => ?_)
  · have c := cv_eq (a := (gI o_me 3).toInt) (b := 16) rfl (by decide) c
    have t : ((gI o_me 2) + (1 : Int32)).toInt = (gI o_me 2).toInt + 1 := i32_add rfl (by decide) (by omega) (by omega)
    have r := i32_rem (x := (gI o_me 2) + (1 : Int32)) (y := 16) (m := 16) (by decide) (by decide) (by omega)
    refine wp_lt (fun o6 e6 => ?_)
    refine wp_lt (fun o7 e7 => ?_)
    have k3 : gI o6 3 = gI o_me 3 := by rw [e6]; rfl
    have t7 : ((gI o6 3) - (1 : Int32)).toInt = (gI o_me 3).toInt - 1 := i32_sub (by rw [k3]) (by decide) (by omega) (by omega)
    have q3 : (gI o7 3).toInt = (gI o_me 3).toInt - 1 := by rw [e7]; exact t7
    have q2 : 0 ≤ (gI o7 2).toInt ∧ (gI o7 2).toInt ≤ 15 := by
      rw [e7, e6]
      exact ⟨r.1, by have r2 := r.2; exact r2⟩
    have hI7 : IvX5 o7 := ⟨q2, ⟨by omega, by omega⟩, by rw [e7, e6]; exact hI_me.2.2⟩
    exact wp_mono (h_keep32 o_a1 o7 p0 hI_a1 hI7 (by omega)) (fun y hy => ⟨hy, Kp.nil⟩)
  · have c := cv_ne (a := (gI o_me 3).toInt) (b := 16) rfl (by decide) c
    exact wp_mono (h_keep32 o_a1 o_me p0 hI_a1 hI_me (by omega)) (fun y hy => ⟨hy, Kp.nil⟩)

set_option maxHeartbeats 4000000 in
set_option maxRecDepth 100000 in
theorem s_X1_moved_O (o_me : Ob) (o_me_isles : Ob) (o_me_isles_now : Ob) (o_me_machine : Ob) (o_pool : List CR) (o_a2 : Ob) (p0 : Int32) (p1 : Int32) (hI_me : IvX1 o_me) (hI_me_isles : IvX2 o_pool o_me_isles) (hI_me_isles_now : IvX4 o_me_isles_now) (hI_me_machine : IvX3 o_me_machine) (hI_pool : PLok o_pool) (hI_a2 : IvX5 o_a2)  : wp (f_X1_moved_O   o_me o_me_isles o_me_isles_now o_me_machine o_pool o_a2 p0 p1) (fun (y : Int32 × Ob × Ob × Ob × Ob) => IvX1 y.2.1 ∧ Kp [] [] [] o_me y.2.1 ∧ IvX4 y.2.2.1 ∧ Kp [] [] [] o_me_isles_now y.2.2.1 ∧ IvX3 y.2.2.2.1 ∧ Kp [] [] [] o_me_machine y.2.2.2.1 ∧ IvX5 y.2.2.2.2 ∧ Kp [] [] [] o_a2 y.2.2.2.2) := by
  have li0 : (-1 : Int32).toInt = (-1) := by decide
  have li1 : (-2 : Int32).toInt = (-2) := by decide
  have li2 : (-3 : Int32).toInt = (-3) := by decide
  have li3 : (0 : Int32).toInt = 0 := by decide
  have li4 : (2 : Int32).toInt = 2 := by decide
  have li5 : (3 : Int32).toInt = 3 := by decide
  have li6 : (999 : Int32).toInt = 999 := by decide
  unfold f_X1_moved_O
  refine wp_if (fun c1 => ?_) (fun c1 => ?_)
  · have c1 := cv_eq (a := p0.toInt) (b := 0) rfl (by decide) c1
    refine wp_bd (s_X8_isRace   p1    ) (fun z2 hz2 => ?_)
    obtain ⟨hz2_0, hz2_1⟩ := hz2
    refine wp_if (fun c3 => ?_) (fun c3 => ?_)
    · have c3 := cv_eq (a := z2.toInt) (b := 0) rfl (by decide) c3
      obtain ⟨w4, ew4⟩ : ∃ z : Int32, z = (-1 : Int32) := ⟨_, rfl⟩
      have tw4 : w4.toInt = (-1) := by rw [ew4]; decide
      rw [show bk_X1_moved_O_39 o_me_isles o_pool  p0 p1 (-1 : Int32) o_me o_me_isles_now o_me_machine o_a2 = bk_X1_moved_O_39 o_me_isles o_pool  p0 p1 w4 o_me o_me_isles_now o_me_machine o_a2 from by rw [ew4]]
      unfold bk_X1_moved_O_39
      unfold bk_X1_moved_O_118
      refine wp_if (fun c5 => ?_) (fun c5 => ?_)
      · have c5 := cv_eq (a := w4.toInt) (b := 0) rfl (by decide) c5
        exfalso; omega
      · have c5z := c5
        have c5 := cv_ne (a := w4.toInt) (b := 0) rfl (by decide) c5
        refine wp_some ?_
        exact (show IvX1 o_me ∧ Kp [] [] [] o_me o_me ∧ IvX4 o_me_isles_now ∧ Kp [] [] [] o_me_isles_now o_me_isles_now ∧ IvX3 o_me_machine ∧ Kp [] [] [] o_me_machine o_me_machine ∧ IvX5 o_a2 ∧ Kp [] [] [] o_a2 o_a2 from ⟨hI_me, Kp.rf, hI_me_isles_now, Kp.rf, hI_me_machine, Kp.rf, hI_a2, Kp.rf⟩)
    · have c3z := c3
      have c3i := hz2_1 c3
      have c3 := cv_ne (a := z2.toInt) (b := 0) rfl (by decide) c3
      refine wp_bd (s_X2_lawInForce   o_me_isles  hI_me_isles  ) (fun z6 hz6 => ?_)
      have hz6_0 := hz6
      refine wp_bd (s_X1_lineUp_Q   o_me o_me_isles o_me_isles_now o_me_machine o_pool z6 p1  hI_me hI_me_isles hI_me_isles_now hI_me_machine hI_pool hz6_0 ⟨by omega, by omega⟩) (fun z7 hz7 => ?_)
      obtain ⟨hz7_0, hz7_1, hz7_2, hz7_3, hz7_4⟩ := hz7
      have hkpz7_me : Kp [] [] [] o_me z7.2.1 := Kp.rf.trans (hz7_2.mono (by decide) (by decide) (by decide))
      have hkpz7_me_machine : Kp [] [] [] o_me_machine z7.2.2 := Kp.rf.trans (hz7_4.mono (by decide) (by decide) (by decide))
      refine wp_if (fun c8 => ?_) (fun c8 => ?_)
      · have c8 := cv_eq (a := z7.1.toInt) (b := 0) rfl (by decide) c8
        obtain ⟨w9, ew9⟩ : ∃ z : Int32, z = (-3 : Int32) := ⟨_, rfl⟩
        have tw9 : w9.toInt = (-3) := by rw [ew9]; decide
        rw [show bk_X1_moved_O_39 o_me_isles o_pool  p0 p1 (-3 : Int32) z7.2.1 o_me_isles_now z7.2.2 o_a2 = bk_X1_moved_O_39 o_me_isles o_pool  p0 p1 w9 z7.2.1 o_me_isles_now z7.2.2 o_a2 from by rw [ew9]]
        unfold bk_X1_moved_O_39
        unfold bk_X1_moved_O_118
        refine wp_if (fun c10 => ?_) (fun c10 => ?_)
        · have c10 := cv_eq (a := w9.toInt) (b := 0) rfl (by decide) c10
          exfalso; omega
        · have c10z := c10
          have c10 := cv_ne (a := w9.toInt) (b := 0) rfl (by decide) c10
          refine wp_some ?_
          exact (show IvX1 z7.2.1 ∧ Kp [] [] [] o_me z7.2.1 ∧ IvX4 o_me_isles_now ∧ Kp [] [] [] o_me_isles_now o_me_isles_now ∧ IvX3 z7.2.2 ∧ Kp [] [] [] o_me_machine z7.2.2 ∧ IvX5 o_a2 ∧ Kp [] [] [] o_a2 o_a2 from ⟨hz7_1, hkpz7_me, hI_me_isles_now, Kp.rf, hz7_3, hkpz7_me_machine, hI_a2, Kp.rf⟩)
      · have c8z := c8
        have c8 := cv_ne (a := z7.1.toInt) (b := 0) rfl (by decide) c8
        obtain ⟨w11, ew11⟩ : ∃ z : Int32, z = (0 : Int32) := ⟨_, rfl⟩
        have tw11 : w11.toInt = 0 := by rw [ew11]; decide
        rw [show bk_X1_moved_O_39 o_me_isles o_pool  p0 p1 (0 : Int32) z7.2.1 o_me_isles_now z7.2.2 o_a2 = bk_X1_moved_O_39 o_me_isles o_pool  p0 p1 w11 z7.2.1 o_me_isles_now z7.2.2 o_a2 from by rw [ew11]]
        unfold bk_X1_moved_O_39
        unfold bk_X1_moved_O_118
        refine wp_if (fun c12 => ?_) (fun c12 => ?_)
        · have c12 := cv_eq (a := w11.toInt) (b := 0) rfl (by decide) c12
          refine wp_bd (s_X5_keep_O   o_a2 o_me_isles_now p0  hI_a2 hI_me_isles_now  ) (fun z13 hz13 => ?_)
          obtain ⟨hz13_0, hz13_1⟩ := hz13
          have hkpz13_a2 : Kp [] [] [] o_a2 z13 := Kp.rf.trans (hz13_1.mono (by decide) (by decide) (by decide))
          unfold bk_X1_moved_O_142
          refine wp_if (fun c14 => ?_) (fun c14 => ?_)
          · have c14 := cv_eq (a := p0.toInt) (b := 0) rfl (by decide) c14
            refine wp_bd (s_X1_heldRace   z7.2.1 o_me_isles o_me_isles_now z7.2.2 o_pool p1  hz7_1 hI_me_isles hI_me_isles_now hz7_3 hI_pool  ⟨by omega, by omega⟩) (fun z15 hz15 => ?_)
            obtain ⟨hz15_0, hz15_1, hz15_2, hz15_3, hz15_4⟩ := hz15
            have hkpz15_me_isles_now : Kp [] [] [] o_me_isles_now z15.2.1 := Kp.rf.trans (hz15_2.mono (by decide) (by decide) (by decide))
            have hkpz15_me_machine : Kp [] [] [] o_me_machine z15.2.2 := hkpz7_me_machine.trans (hz15_4.mono (by decide) (by decide) (by decide))
            refine wp_some ?_
            exact (show IvX1 z7.2.1 ∧ Kp [] [] [] o_me z7.2.1 ∧ IvX4 z15.2.1 ∧ Kp [] [] [] o_me_isles_now z15.2.1 ∧ IvX3 z15.2.2 ∧ Kp [] [] [] o_me_machine z15.2.2 ∧ IvX5 z13 ∧ Kp [] [] [] o_a2 z13 from ⟨hz7_1, hkpz7_me, hz15_1, hkpz15_me_isles_now, hz15_3, hkpz15_me_machine, hz13_0, hkpz13_a2⟩)
          have c14 := cv_ne (a := p0.toInt) (b := 0) rfl (by decide) c14
          refine wp_if (fun c16 => ?_) (fun c16 => ?_)
          · have c16 := cv_eq (a := p0.toInt) (b := 1) rfl (by decide) c16
            exfalso; omega
          have c16 := cv_ne (a := p0.toInt) (b := 1) rfl (by decide) c16
          refine wp_if (fun c17 => ?_) (fun c17 => ?_)
          · have c17 := cv_eq (a := p0.toInt) (b := 2) rfl (by decide) c17
            exfalso; omega
          have c17 := cv_ne (a := p0.toInt) (b := 2) rfl (by decide) c17
          refine wp_bd (s_X1_passedYear   z7.2.1 o_me_isles o_me_isles_now z7.2.2 o_pool  hz7_1 hI_me_isles hI_me_isles_now hz7_3 hI_pool  ) (fun z18 hz18 => ?_)
          obtain ⟨hz18_0, hz18_1, hz18_2, hz18_3, hz18_4⟩ := hz18
          have hkpz18_me_isles_now : Kp [] [] [] o_me_isles_now z18.2.1 := Kp.rf.trans (hz18_2.mono (by decide) (by decide) (by decide))
          have hkpz18_me_machine : Kp [] [] [] o_me_machine z18.2.2 := hkpz7_me_machine.trans (hz18_4.mono (by decide) (by decide) (by decide))
          refine wp_some ?_
          exact (show IvX1 z7.2.1 ∧ Kp [] [] [] o_me z7.2.1 ∧ IvX4 z18.2.1 ∧ Kp [] [] [] o_me_isles_now z18.2.1 ∧ IvX3 z18.2.2 ∧ Kp [] [] [] o_me_machine z18.2.2 ∧ IvX5 z13 ∧ Kp [] [] [] o_a2 z13 from ⟨hz7_1, hkpz7_me, hz18_1, hkpz18_me_isles_now, hz18_3, hkpz18_me_machine, hz13_0, hkpz13_a2⟩)
        · have c12z := c12
          have c12 := cv_ne (a := w11.toInt) (b := 0) rfl (by decide) c12
          exfalso; omega
  · have c1z := c1
    have c1 := cv_ne (a := p0.toInt) (b := 0) rfl (by decide) c1
    refine wp_if (fun c19 => ?_) (fun c19 => ?_)
    · have c19 := cv_eq (a := p0.toInt) (b := 3) rfl (by decide) c19
      refine wp_if (fun c20 => ?_) (fun c20 => ?_)
      · have c20 := cv_lt (a := (gI o_me_isles_now 4).toInt) (b := 999) rfl (by decide) c20
        obtain ⟨w21, ew21⟩ : ∃ z : Int32, z = (0 : Int32) := ⟨_, rfl⟩
        have tw21 : w21.toInt = 0 := by rw [ew21]; decide
        rw [show bk_X1_moved_O_71 o_me_isles o_pool  p0 p1 (0 : Int32) o_me o_me_isles_now o_me_machine o_a2 = bk_X1_moved_O_71 o_me_isles o_pool  p0 p1 w21 o_me o_me_isles_now o_me_machine o_a2 from by rw [ew21]]
        unfold bk_X1_moved_O_71
        unfold bk_X1_moved_O_118
        refine wp_if (fun c22 => ?_) (fun c22 => ?_)
        · have c22 := cv_eq (a := w21.toInt) (b := 0) rfl (by decide) c22
          refine wp_bd (s_X5_keep_O   o_a2 o_me_isles_now p0  hI_a2 hI_me_isles_now  ) (fun z23 hz23 => ?_)
          obtain ⟨hz23_0, hz23_1⟩ := hz23
          have hkpz23_a2 : Kp [] [] [] o_a2 z23 := Kp.rf.trans (hz23_1.mono (by decide) (by decide) (by decide))
          unfold bk_X1_moved_O_142
          refine wp_if (fun c24 => ?_) (fun c24 => ?_)
          · have c24 := cv_eq (a := p0.toInt) (b := 0) rfl (by decide) c24
            exfalso; omega
          have c24 := cv_ne (a := p0.toInt) (b := 0) rfl (by decide) c24
          refine wp_if (fun c25 => ?_) (fun c25 => ?_)
          · have c25 := cv_eq (a := p0.toInt) (b := 1) rfl (by decide) c25
            exfalso; omega
          have c25 := cv_ne (a := p0.toInt) (b := 1) rfl (by decide) c25
          refine wp_if (fun c26 => ?_) (fun c26 => ?_)
          · have c26 := cv_eq (a := p0.toInt) (b := 2) rfl (by decide) c26
            exfalso; omega
          have c26 := cv_ne (a := p0.toInt) (b := 2) rfl (by decide) c26
          refine wp_bd (s_X1_passedYear   o_me o_me_isles o_me_isles_now o_me_machine o_pool  hI_me hI_me_isles hI_me_isles_now hI_me_machine hI_pool  ) (fun z27 hz27 => ?_)
          obtain ⟨hz27_0, hz27_1, hz27_2, hz27_3, hz27_4⟩ := hz27
          have hkpz27_me_isles_now : Kp [] [] [] o_me_isles_now z27.2.1 := Kp.rf.trans (hz27_2.mono (by decide) (by decide) (by decide))
          have hkpz27_me_machine : Kp [] [] [] o_me_machine z27.2.2 := Kp.rf.trans (hz27_4.mono (by decide) (by decide) (by decide))
          refine wp_some ?_
          exact (show IvX1 o_me ∧ Kp [] [] [] o_me o_me ∧ IvX4 z27.2.1 ∧ Kp [] [] [] o_me_isles_now z27.2.1 ∧ IvX3 z27.2.2 ∧ Kp [] [] [] o_me_machine z27.2.2 ∧ IvX5 z23 ∧ Kp [] [] [] o_a2 z23 from ⟨hI_me, Kp.rf, hz27_1, hkpz27_me_isles_now, hz27_3, hkpz27_me_machine, hz23_0, hkpz23_a2⟩)
        · have c22z := c22
          have c22 := cv_ne (a := w21.toInt) (b := 0) rfl (by decide) c22
          exfalso; omega
      · have c20 := cv_nlt (a := (gI o_me_isles_now 4).toInt) (b := 999) rfl (by decide) c20
        obtain ⟨w28, ew28⟩ : ∃ z : Int32, z = (-3 : Int32) := ⟨_, rfl⟩
        have tw28 : w28.toInt = (-3) := by rw [ew28]; decide
        rw [show bk_X1_moved_O_71 o_me_isles o_pool  p0 p1 (-3 : Int32) o_me o_me_isles_now o_me_machine o_a2 = bk_X1_moved_O_71 o_me_isles o_pool  p0 p1 w28 o_me o_me_isles_now o_me_machine o_a2 from by rw [ew28]]
        unfold bk_X1_moved_O_71
        unfold bk_X1_moved_O_118
        refine wp_if (fun c29 => ?_) (fun c29 => ?_)
        · have c29 := cv_eq (a := w28.toInt) (b := 0) rfl (by decide) c29
          exfalso; omega
        · have c29z := c29
          have c29 := cv_ne (a := w28.toInt) (b := 0) rfl (by decide) c29
          refine wp_some ?_
          exact (show IvX1 o_me ∧ Kp [] [] [] o_me o_me ∧ IvX4 o_me_isles_now ∧ Kp [] [] [] o_me_isles_now o_me_isles_now ∧ IvX3 o_me_machine ∧ Kp [] [] [] o_me_machine o_me_machine ∧ IvX5 o_a2 ∧ Kp [] [] [] o_a2 o_a2 from ⟨hI_me, Kp.rf, hI_me_isles_now, Kp.rf, hI_me_machine, Kp.rf, hI_a2, Kp.rf⟩)
    · have c19 := cv_ne (a := p0.toInt) (b := 3) rfl (by decide) c19
      refine wp_bd (s_X2_isPerson   o_me_isles p1  hI_me_isles  ) (fun z30 hz30 => ?_)
      obtain ⟨hz30_0, hz30_1⟩ := hz30
      refine wp_if (fun c31 => ?_) (fun c31 => ?_)
      · have c31 := cv_eq (a := z30.toInt) (b := 0) rfl (by decide) c31
        obtain ⟨w32, ew32⟩ : ∃ z : Int32, z = (-2 : Int32) := ⟨_, rfl⟩
        have tw32 : w32.toInt = (-2) := by rw [ew32]; decide
        rw [show bk_X1_moved_O_116 o_me_isles o_pool  p0 p1 (-2 : Int32) o_me o_me_isles_now o_me_machine o_a2 = bk_X1_moved_O_116 o_me_isles o_pool  p0 p1 w32 o_me o_me_isles_now o_me_machine o_a2 from by rw [ew32]]
        unfold bk_X1_moved_O_116
        unfold bk_X1_moved_O_118
        refine wp_if (fun c33 => ?_) (fun c33 => ?_)
        · have c33 := cv_eq (a := w32.toInt) (b := 0) rfl (by decide) c33
          exfalso; omega
        · have c33z := c33
          have c33 := cv_ne (a := w32.toInt) (b := 0) rfl (by decide) c33
          refine wp_some ?_
          exact (show IvX1 o_me ∧ Kp [] [] [] o_me o_me ∧ IvX4 o_me_isles_now ∧ Kp [] [] [] o_me_isles_now o_me_isles_now ∧ IvX3 o_me_machine ∧ Kp [] [] [] o_me_machine o_me_machine ∧ IvX5 o_a2 ∧ Kp [] [] [] o_a2 o_a2 from ⟨hI_me, Kp.rf, hI_me_isles_now, Kp.rf, hI_me_machine, Kp.rf, hI_a2, Kp.rf⟩)
      · have c31z := c31
        have c31i := hz30_1 c31
        have c31 := cv_ne (a := z30.toInt) (b := 0) rfl (by decide) c31
        refine wp_if (fun c34 => ?_) (fun c34 => ?_)
        · have c34 := cv_eq (a := p0.toInt) (b := 2) rfl (by decide) c34
          refine wp_if (fun c35 => ?_) (fun c35 => ?_)
          · have c35 := cv_eq (a := (gI o_me_isles_now 3).toInt) (b := 0) rfl (by decide) c35
            obtain ⟨w36, ew36⟩ : ∃ z : Int32, z = (-3 : Int32) := ⟨_, rfl⟩
            have tw36 : w36.toInt = (-3) := by rw [ew36]; decide
            rw [show bk_X1_moved_O_116 o_me_isles o_pool  p0 p1 (-3 : Int32) o_me o_me_isles_now o_me_machine o_a2 = bk_X1_moved_O_116 o_me_isles o_pool  p0 p1 w36 o_me o_me_isles_now o_me_machine o_a2 from by rw [ew36]]
            unfold bk_X1_moved_O_116
            unfold bk_X1_moved_O_118
            refine wp_if (fun c37 => ?_) (fun c37 => ?_)
            · have c37 := cv_eq (a := w36.toInt) (b := 0) rfl (by decide) c37
              exfalso; omega
            · have c37z := c37
              have c37 := cv_ne (a := w36.toInt) (b := 0) rfl (by decide) c37
              refine wp_some ?_
              exact (show IvX1 o_me ∧ Kp [] [] [] o_me o_me ∧ IvX4 o_me_isles_now ∧ Kp [] [] [] o_me_isles_now o_me_isles_now ∧ IvX3 o_me_machine ∧ Kp [] [] [] o_me_machine o_me_machine ∧ IvX5 o_a2 ∧ Kp [] [] [] o_a2 o_a2 from ⟨hI_me, Kp.rf, hI_me_isles_now, Kp.rf, hI_me_machine, Kp.rf, hI_a2, Kp.rf⟩)
          · have c35z := c35
            have c35 := cv_ne (a := (gI o_me_isles_now 3).toInt) (b := 0) rfl (by decide) c35
            unfold bk_X1_moved_O_115
            obtain ⟨w38, ew38⟩ : ∃ z : Int32, z = (0 : Int32) := ⟨_, rfl⟩
            have tw38 : w38.toInt = 0 := by rw [ew38]; decide
            rw [show bk_X1_moved_O_116 o_me_isles o_pool  p0 p1 (0 : Int32) o_me o_me_isles_now o_me_machine o_a2 = bk_X1_moved_O_116 o_me_isles o_pool  p0 p1 w38 o_me o_me_isles_now o_me_machine o_a2 from by rw [ew38]]
            unfold bk_X1_moved_O_116
            unfold bk_X1_moved_O_118
            refine wp_if (fun c39 => ?_) (fun c39 => ?_)
            · have c39 := cv_eq (a := w38.toInt) (b := 0) rfl (by decide) c39
              refine wp_bd (s_X5_keep_O   o_a2 o_me_isles_now p0  hI_a2 hI_me_isles_now  ) (fun z40 hz40 => ?_)
              obtain ⟨hz40_0, hz40_1⟩ := hz40
              have hkpz40_a2 : Kp [] [] [] o_a2 z40 := Kp.rf.trans (hz40_1.mono (by decide) (by decide) (by decide))
              unfold bk_X1_moved_O_142
              refine wp_if (fun c41 => ?_) (fun c41 => ?_)
              · have c41 := cv_eq (a := p0.toInt) (b := 0) rfl (by decide) c41
                exfalso; omega
              have c41 := cv_ne (a := p0.toInt) (b := 0) rfl (by decide) c41
              refine wp_if (fun c42 => ?_) (fun c42 => ?_)
              · have c42 := cv_eq (a := p0.toInt) (b := 1) rfl (by decide) c42
                exfalso; omega
              have c42 := cv_ne (a := p0.toInt) (b := 1) rfl (by decide) c42
              refine wp_if (fun c43 => ?_) (fun c43 => ?_)
              · have c43 := cv_eq (a := p0.toInt) (b := 2) rfl (by decide) c43
                refine wp_bd (s_X1_takenGap   o_me o_me_isles o_me_isles_now p1  hI_me hI_me_isles hI_me_isles_now  ⟨by omega, by omega⟩) (fun z44 hz44 => ?_)
                obtain ⟨hz44_0, hz44_1⟩ := hz44
                have hkpz44_me_isles_now : Kp [] [] [] o_me_isles_now z44.2 := Kp.rf.trans (hz44_1.mono (by decide) (by decide) (by decide))
                refine wp_some ?_
                exact (show IvX1 o_me ∧ Kp [] [] [] o_me o_me ∧ IvX4 z44.2 ∧ Kp [] [] [] o_me_isles_now z44.2 ∧ IvX3 o_me_machine ∧ Kp [] [] [] o_me_machine o_me_machine ∧ IvX5 z40 ∧ Kp [] [] [] o_a2 z40 from ⟨hI_me, Kp.rf, hz44_0, hkpz44_me_isles_now, hI_me_machine, Kp.rf, hz40_0, hkpz40_a2⟩)
              have c43 := cv_ne (a := p0.toInt) (b := 2) rfl (by decide) c43
              refine wp_bd (s_X1_passedYear   o_me o_me_isles o_me_isles_now o_me_machine o_pool  hI_me hI_me_isles hI_me_isles_now hI_me_machine hI_pool  ) (fun z45 hz45 => ?_)
              obtain ⟨hz45_0, hz45_1, hz45_2, hz45_3, hz45_4⟩ := hz45
              have hkpz45_me_isles_now : Kp [] [] [] o_me_isles_now z45.2.1 := Kp.rf.trans (hz45_2.mono (by decide) (by decide) (by decide))
              have kz45_k46 : (gI z45.2.1 3).toInt = (gI o_me_isles_now 3).toInt := congrArg Int32.toInt (hz45_2.1 3 (by decide))
              have hkpz45_me_machine : Kp [] [] [] o_me_machine z45.2.2 := Kp.rf.trans (hz45_4.mono (by decide) (by decide) (by decide))
              refine wp_some ?_
              exact (show IvX1 o_me ∧ Kp [] [] [] o_me o_me ∧ IvX4 z45.2.1 ∧ Kp [] [] [] o_me_isles_now z45.2.1 ∧ IvX3 z45.2.2 ∧ Kp [] [] [] o_me_machine z45.2.2 ∧ IvX5 z40 ∧ Kp [] [] [] o_a2 z40 from ⟨hI_me, Kp.rf, hz45_1, hkpz45_me_isles_now, hz45_3, hkpz45_me_machine, hz40_0, hkpz40_a2⟩)
            · have c39z := c39
              have c39 := cv_ne (a := w38.toInt) (b := 0) rfl (by decide) c39
              exfalso; omega
        · have c34 := cv_ne (a := p0.toInt) (b := 2) rfl (by decide) c34
          unfold bk_X1_moved_O_115
          obtain ⟨w47, ew47⟩ : ∃ z : Int32, z = (0 : Int32) := ⟨_, rfl⟩
          have tw47 : w47.toInt = 0 := by rw [ew47]; decide
          rw [show bk_X1_moved_O_116 o_me_isles o_pool  p0 p1 (0 : Int32) o_me o_me_isles_now o_me_machine o_a2 = bk_X1_moved_O_116 o_me_isles o_pool  p0 p1 w47 o_me o_me_isles_now o_me_machine o_a2 from by rw [ew47]]
          unfold bk_X1_moved_O_116
          unfold bk_X1_moved_O_118
          refine wp_if (fun c48 => ?_) (fun c48 => ?_)
          · have c48 := cv_eq (a := w47.toInt) (b := 0) rfl (by decide) c48
            refine wp_bd (s_X5_keep_O   o_a2 o_me_isles_now p0  hI_a2 hI_me_isles_now  ) (fun z49 hz49 => ?_)
            obtain ⟨hz49_0, hz49_1⟩ := hz49
            have hkpz49_a2 : Kp [] [] [] o_a2 z49 := Kp.rf.trans (hz49_1.mono (by decide) (by decide) (by decide))
            unfold bk_X1_moved_O_142
            refine wp_if (fun c50 => ?_) (fun c50 => ?_)
            · have c50 := cv_eq (a := p0.toInt) (b := 0) rfl (by decide) c50
              exfalso; omega
            have c50 := cv_ne (a := p0.toInt) (b := 0) rfl (by decide) c50
            refine wp_if (fun c51 => ?_) (fun c51 => ?_)
            · have c51 := cv_eq (a := p0.toInt) (b := 1) rfl (by decide) c51
              refine wp_bd (s_X1_changedEntry   o_me o_me_isles o_me_isles_now p1  hI_me hI_me_isles hI_me_isles_now  ⟨by omega, by omega⟩) (fun z52 hz52 => ?_)
              obtain ⟨hz52_0, hz52_1, hz52_2⟩ := hz52
              have hkpz52_me_isles_now : Kp [] [] [] o_me_isles_now z52.2 := Kp.rf.trans (hz52_2.mono (by decide) (by decide) (by decide))
              refine wp_some ?_
              exact (show IvX1 o_me ∧ Kp [] [] [] o_me o_me ∧ IvX4 z52.2 ∧ Kp [] [] [] o_me_isles_now z52.2 ∧ IvX3 o_me_machine ∧ Kp [] [] [] o_me_machine o_me_machine ∧ IvX5 z49 ∧ Kp [] [] [] o_a2 z49 from ⟨hI_me, Kp.rf, hz52_1, hkpz52_me_isles_now, hI_me_machine, Kp.rf, hz49_0, hkpz49_a2⟩)
            have c51 := cv_ne (a := p0.toInt) (b := 1) rfl (by decide) c51
            refine wp_if (fun c53 => ?_) (fun c53 => ?_)
            · have c53 := cv_eq (a := p0.toInt) (b := 2) rfl (by decide) c53
              exfalso; omega
            have c53 := cv_ne (a := p0.toInt) (b := 2) rfl (by decide) c53
            refine wp_bd (s_X1_passedYear   o_me o_me_isles o_me_isles_now o_me_machine o_pool  hI_me hI_me_isles hI_me_isles_now hI_me_machine hI_pool  ) (fun z54 hz54 => ?_)
            obtain ⟨hz54_0, hz54_1, hz54_2, hz54_3, hz54_4⟩ := hz54
            have hkpz54_me_isles_now : Kp [] [] [] o_me_isles_now z54.2.1 := Kp.rf.trans (hz54_2.mono (by decide) (by decide) (by decide))
            have hkpz54_me_machine : Kp [] [] [] o_me_machine z54.2.2 := Kp.rf.trans (hz54_4.mono (by decide) (by decide) (by decide))
            refine wp_some ?_
            exact (show IvX1 o_me ∧ Kp [] [] [] o_me o_me ∧ IvX4 z54.2.1 ∧ Kp [] [] [] o_me_isles_now z54.2.1 ∧ IvX3 z54.2.2 ∧ Kp [] [] [] o_me_machine z54.2.2 ∧ IvX5 z49 ∧ Kp [] [] [] o_a2 z49 from ⟨hI_me, Kp.rf, hz54_1, hkpz54_me_isles_now, hz54_3, hkpz54_me_machine, hz49_0, hkpz49_a2⟩)
          · have c48z := c48
            have c48 := cv_ne (a := w47.toInt) (b := 0) rfl (by decide) c48
            exfalso; omega

set_option maxHeartbeats 4000000 in
set_option maxRecDepth 100000 in
theorem s_X8_answer {rI : Nat → Option Nat} (o_me : Ob) (p0 : Int32) (hI_me : IvX8 rI o_me)  : wp (f_X8_answer   o_me p0) (fun (y : Int32 × Ob) => IvX8 rI y.2 ∧ Kp [13, 14, 15, 16] [] [] o_me y.2) := by
  unfold f_X8_answer
  refine wp_if (fun c1 => ?_) (fun c1 => ?_)
  · have c1 := cv_ge (a := p0.toInt) (b := 0) rfl (by decide) c1
    refine wp_bd (s_X8_grant   o_me p0  hI_me  ) (fun z2 hz2 => ?_)
    obtain ⟨hz2_0, hz2_1⟩ := hz2
    have hkpz2_me : Kp [13, 14, 15, 16] [] [] o_me z2.2 := Kp.rf.trans (hz2_1.mono (by decide) (by decide) (by decide))
    refine wp_some ?_
    exact (show IvX8 rI z2.2 ∧ Kp [13, 14, 15, 16] [] [] o_me z2.2 from ⟨hz2_0, hkpz2_me⟩)
  · have c1 := cv_nge (a := p0.toInt) (b := 0) rfl (by decide) c1
    refine wp_bd (s_X8_refuse   o_me p0  hI_me  ) (fun z3 hz3 => ?_)
    obtain ⟨hz3_0, hz3_1⟩ := hz3
    have hkpz3_me : Kp [13, 14, 15, 16] [] [] o_me z3.2 := Kp.rf.trans (hz3_1.mono (by decide) (by decide) (by decide))
    refine wp_some ?_
    exact (show IvX8 rI z3.2 ∧ Kp [13, 14, 15, 16] [] [] o_me z3.2 from ⟨hz3_0, hkpz3_me⟩)

set_option maxHeartbeats 4000000 in
set_option maxRecDepth 100000 in
theorem s_X8_enter {rI : Nat → Option Nat} (o_me : Ob) (o_me_machine : Ob) (o_me_isles : Ob) (o_me_isles_now : Ob) (o_me_court : Ob) (o_me_past : Ob) (o_pool : List CR) (p0 : Int32) (hI_me : IvX8 rI o_me) (hI_me_machine : IvX3 o_me_machine) (hI_me_isles : IvX2 o_pool o_me_isles) (hI_me_isles_now : IvX4 o_me_isles_now) (hI_me_court : IvX1 o_me_court) (hI_me_past : IvX5 o_me_past) (hI_pool : PLok o_pool)  : wp (f_X8_enter   o_me o_me_machine o_me_isles o_me_isles_now o_me_court o_me_past o_pool p0) (fun (y : Int32 × Ob × Ob × Ob × Ob × Ob) => IvX8 rI y.2.1 ∧ Kp [13, 14, 15, 16] [] [] o_me y.2.1 ∧ IvX3 y.2.2.1 ∧ Kp [] [] [] o_me_machine y.2.2.1 ∧ IvX4 y.2.2.2.1 ∧ Kp [] [] [] o_me_isles_now y.2.2.2.1 ∧ IvX1 y.2.2.2.2.1 ∧ Kp [] [] [] o_me_court y.2.2.2.2.1 ∧ IvX5 y.2.2.2.2.2 ∧ Kp [] [] [] o_me_past y.2.2.2.2.2) := by
  have li0 : (1 : Int32).toInt = 1 := by decide
  unfold f_X8_enter
  refine wp_bd (s_X1_moved_O   o_me_court o_me_isles o_me_isles_now o_me_machine o_pool o_me_past (1 : Int32) p0  hI_me_court hI_me_isles hI_me_isles_now hI_me_machine hI_pool hI_me_past  ) (fun z1 hz1 => ?_)
  obtain ⟨hz1_0, hz1_1, hz1_2, hz1_3, hz1_4, hz1_5, hz1_6, hz1_7⟩ := hz1
  have hkpz1_me_court : Kp [] [] [] o_me_court z1.2.1 := Kp.rf.trans (hz1_1.mono (by decide) (by decide) (by decide))
  have hkpz1_me_isles_now : Kp [] [] [] o_me_isles_now z1.2.2.1 := Kp.rf.trans (hz1_3.mono (by decide) (by decide) (by decide))
  have hkpz1_me_machine : Kp [] [] [] o_me_machine z1.2.2.2.1 := Kp.rf.trans (hz1_5.mono (by decide) (by decide) (by decide))
  have hkpz1_me_past : Kp [] [] [] o_me_past z1.2.2.2.2 := Kp.rf.trans (hz1_7.mono (by decide) (by decide) (by decide))
  refine wp_bd (s_X8_answer   o_me z1.1  hI_me  ) (fun z2 hz2 => ?_)
  obtain ⟨hz2_0, hz2_1⟩ := hz2
  have hkpz2_me : Kp [13, 14, 15, 16] [] [] o_me z2.2 := Kp.rf.trans (hz2_1.mono (by decide) (by decide) (by decide))
  refine wp_some ?_
  exact (show IvX8 rI z2.2 ∧ Kp [13, 14, 15, 16] [] [] o_me z2.2 ∧ IvX3 z1.2.2.2.1 ∧ Kp [] [] [] o_me_machine z1.2.2.2.1 ∧ IvX4 z1.2.2.1 ∧ Kp [] [] [] o_me_isles_now z1.2.2.1 ∧ IvX1 z1.2.1 ∧ Kp [] [] [] o_me_court z1.2.1 ∧ IvX5 z1.2.2.2.2 ∧ Kp [] [] [] o_me_past z1.2.2.2.2 from ⟨hz2_0, hkpz2_me, hz1_4, hkpz1_me_machine, hz1_2, hkpz1_me_isles_now, hz1_0, hkpz1_me_court, hz1_6, hkpz1_me_past⟩)

set_option maxHeartbeats 4000000 in
set_option maxRecDepth 100000 in
theorem s_X8_fault {rI : Nat → Option Nat} (o_me : Ob) (o_me_reader : Ob) (hI_me : IvX8 rI o_me) (hI_me_reader : IvX6 o_me_reader)  : wp (f_X8_fault   o_me o_me_reader) (fun (y : Int32) => True) := by
  unfold f_X8_fault
  refine wp_some ?_
  exact trivial

set_option maxHeartbeats 4000000 in
set_option maxRecDepth 100000 in
theorem s_X6_hasRoom (o_me : Ob) (p0 : Int32) (hI_me : IvX6 o_me)  : wp (f_X6_hasRoom   o_me p0) (fun (y : Int32) => (0 ≤ y.toInt ∧ y.toInt ≤ 1)) := by
  have li0 : (0 : Int32).toInt = 0 := by decide
  have li1 : (1 : Int32).toInt = 1 := by decide
  have li2 : (400 : Int32).toInt = 400 := by decide
  unfold f_X6_hasRoom
  have t1 := igX6_2 hI_me
  refine wp_if (fun c2 => ?_) (fun c2 => ?_)
  · have c2 := cv_gt (a := ((gI o_me 2) + p0).toInt) (b := 400) rfl (by decide) c2
    refine wp_some ?_
    exact (show (0 ≤ (0 : Int32).toInt ∧ (0 : Int32).toInt ≤ 1) from ⟨by decide, by decide⟩)
  · have c2 := cv_ngt (a := ((gI o_me 2) + p0).toInt) (b := 400) rfl (by decide) c2
    refine wp_some ?_
    exact (show (0 ≤ (1 : Int32).toInt ∧ (1 : Int32).toInt ≤ 1) from ⟨by decide, by decide⟩)

set_option maxHeartbeats 4000000 in
set_option maxRecDepth 100000 in
theorem s_X6_addNumber (o_me : Ob) (p0 : Int32) (hI_me : IvX6 o_me)  : wp (f_X6_addNumber   o_me p0) (fun (y : Ob) => IvX6 y ∧ Kp [3, 4, 5, 6, 7, 8] [] [] o_me y) := by
  have li0 : (1 : Int32).toInt = 1 := by decide
  have li1 : (24 : Int32).toInt = 24 := by decide
  have li2 : (255 : Int32).toInt = 255 := by decide
  have li3 : (400 : Int32).toInt = 400 := by decide
  unfold f_X6_addNumber
  have t1 := igX6_2 hI_me
  have lp1 : ∀ (N1 : Nat) (v1_1 : Int32) (v2_1 : Int32) (o_me_1 : Ob), IvX6 o_me_1 → Kp [3, 4, 5, 6, 7, 8] [] [] o_me o_me_1 → ((-8) ≤ v2_1.toInt ∧ v2_1.toInt ≤ 24) → (0 ≤ (gI o_me_1 2).toInt ∧ (gI o_me_1 2).toInt ≤ 400) → (v2_1.toInt - (-8)).toNat < N1 → wp (lp_X6_addNumber_3   N1 (v1_1, v2_1, o_me_1)) (fun (y : Ob) => IvX6 y ∧ Kp [3, 4, 5, 6, 7, 8] [] [] o_me y) := by
    intro N1
    induction N1 with
    | zero =>
      intro v1_1 v2_1 o_me_1 hI_me_1 hkp_me_1 hh3 hh4 hN1
      exact absurd hN1 (Nat.not_lt_zero _)
    | succ N1 ihx =>
      have ih1 := ihx
      intro v1_1 v2_1 o_me_1 hI_me_1 hkp_me_1 hh3 hh4 hN1
      show wp (lb_X6_addNumber_3   (lp_X6_addNumber_3   N1) v1_1 v2_1 o_me_1) (fun (y : Ob) => IvX6 y ∧ Kp [3, 4, 5, 6, 7, 8] [] [] o_me y)
      unfold lb_X6_addNumber_3
      refine wp_if (fun c5 => ?_) (fun c5 => ?_)
      · have c5 := cv_lt (a := v2_1.toInt) (b := 0) rfl (by decide) c5
        refine wp_some ?_
        exact (show IvX6 o_me_1 ∧ Kp [3, 4, 5, 6, 7, 8] [] [] o_me o_me_1 from ⟨hI_me_1, hkp_me_1⟩)
      · have c5 := cv_nlt (a := v2_1.toInt) (b := 0) rfl (by decide) c5
        refine wp_if (fun c6 => ?_) (fun c6 => ?_)
        · have c6 := cv_ge (a := (gI o_me_1 2).toInt) (b := 400) rfl (by decide) c6
          unfold bk_X6_addNumber_43
          refine wp_lt (fun x7 ex7 => ?_)
          have tx7 : x7.toInt = v2_1.toInt + (-8) := by rw [ex7]; exact i32_add rfl (by decide) (by omega) (by omega)
          exact ih1 v1_1 x7 o_me_1 hI_me_1 hkp_me_1 ⟨by omega, by omega⟩ ⟨by omega, by omega⟩ (by omega)
        · have c6 := cv_nge (a := (gI o_me_1 2).toInt) (b := 400) rfl (by decide) c6
          have t8 := i32_and (x := (v1_1.toUInt32 >>> (v2_1.toUInt32 &&& Int32.toUInt32 31)).toInt32) (y := (255 : Int32)) (m := 255) ⟨by decide, by decide⟩
          refine wp_gd (zin_of (m := 400) rfl (by omega) (by omega)) ?_
          refine wp_lt (fun o9 eo9 => ?_)
          have hIo9 : IvX6 o9 := by rw [eo9]; exact hI_me_1
          have ko9_k10 : (gI o9 2).toInt = (gI o_me_1 2).toInt := by rw [eo9]; rfl
          have ko9_v : (gA o9 0 (gI o_me_1 2).toNatClampNeg).toInt = (((v1_1.toUInt32 >>> (v2_1.toUInt32 &&& Int32.toUInt32 31)).toInt32) &&& (255 : Int32)).toInt := by rw [eo9]; exact congrArg Int32.toInt (upd_eq (g := gA o_me_1 0) (i := (gI o_me_1 2)) (v := (((v1_1.toUInt32 >>> (v2_1.toUInt32 &&& Int32.toUInt32 31)).toInt32) &&& (255 : Int32))))
          have hkpo9 : Kp [3, 4, 5, 6, 7, 8] [] [] o_me o9 := hkp_me_1.trans (by rw [eo9]; exact Kp.tA (by decide) (by decide))
          have t11 : ((gI o9 2) + (1 : Int32)).toInt = (gI o9 2).toInt + 1 := i32_add rfl (by decide) (by omega) (by omega)
          refine wp_lt (fun o12 eo12 => ?_)
          have hIo12 : IvX6 o12 := by rw [eo12]; exact ipX6_2 hIo9 ⟨by omega, by omega⟩
          have ko12_k13 : (gA o12 0 (gI o_me_1 2).toNatClampNeg).toInt = (gA o9 0 (gI o_me_1 2).toNatClampNeg).toInt := by rw [eo12]; rfl
          have ko12_v : (gI o12 2).toInt = ((gI o9 2) + (1 : Int32)).toInt := by rw [eo12]; rfl
          have hkpo12 : Kp [3, 4, 5, 6, 7, 8] [] [] o_me o12 := hkpo9.trans (by rw [eo12]; exact Kp.sI (by decide))
          unfold bk_X6_addNumber_43
          refine wp_lt (fun x14 ex14 => ?_)
          have tx14 : x14.toInt = v2_1.toInt + (-8) := by rw [ex14]; exact i32_add rfl (by decide) (by omega) (by omega)
          exact ih1 v1_1 x14 o12 hIo12 hkpo12 ⟨by omega, by omega⟩ ⟨by omega, by omega⟩ (by omega)
  exact lp1 zfu p0 (24 : Int32) o_me hI_me Kp.rf ⟨by decide, by decide⟩ ⟨by omega, by omega⟩ (by show _ < 100000; omega)

set_option maxHeartbeats 4000000 in
set_option maxRecDepth 100000 in
theorem s_X8_feed {rI : Nat → Option Nat} (o_me : Ob) (o_me_reader : Ob) (p0 : Int32) (p1 : Int32) (p2 : Int32) (p3 : Int32) (p4 : Int32) (hI_me : IvX8 rI o_me) (hI_me_reader : IvX6 o_me_reader)  : wp (f_X8_feed   o_me o_me_reader p0 p1 p2 p3 p4) (fun (y : Int32 × Ob) => ((-1) ≤ y.1.toInt ∧ y.1.toInt ≤ 400) ∧ IvX6 y.2 ∧ Kp [3, 4, 5, 6, 7, 8] [] [] o_me_reader y.2) := by
  have li0 : (-1 : Int32).toInt = (-1) := by decide
  have li1 : (20 : Int32).toInt = 20 := by decide
  unfold f_X8_feed
  refine wp_bd (s_X6_hasRoom   o_me_reader (20 : Int32)  hI_me_reader  ) (fun z1 hz1 => ?_)
  have hz1_0 := hz1
  refine wp_if (fun c2 => ?_) (fun c2 => ?_)
  · have c2 := cv_eq (a := z1.toInt) (b := 0) rfl (by decide) c2
    refine wp_some ?_
    exact (show ((-1) ≤ (-1 : Int32).toInt ∧ (-1 : Int32).toInt ≤ 400) ∧ IvX6 o_me_reader ∧ Kp [3, 4, 5, 6, 7, 8] [] [] o_me_reader o_me_reader from ⟨⟨by decide, by decide⟩, hI_me_reader, Kp.rf⟩)
  · have c2z := c2
    have c2 := cv_ne (a := z1.toInt) (b := 0) rfl (by decide) c2
    refine wp_bd (s_X6_addNumber   o_me_reader p0  hI_me_reader  ) (fun z3 hz3 => ?_)
    obtain ⟨hz3_0, hz3_1⟩ := hz3
    have hkpz3_me_reader : Kp [3, 4, 5, 6, 7, 8] [] [] o_me_reader z3 := Kp.rf.trans (hz3_1.mono (by decide) (by decide) (by decide))
    refine wp_bd (s_X6_addNumber   z3 p1  hz3_0  ) (fun z4 hz4 => ?_)
    obtain ⟨hz4_0, hz4_1⟩ := hz4
    have hkpz4_me_reader : Kp [3, 4, 5, 6, 7, 8] [] [] o_me_reader z4 := hkpz3_me_reader.trans (hz4_1.mono (by decide) (by decide) (by decide))
    refine wp_bd (s_X6_addNumber   z4 p2  hz4_0  ) (fun z5 hz5 => ?_)
    obtain ⟨hz5_0, hz5_1⟩ := hz5
    have hkpz5_me_reader : Kp [3, 4, 5, 6, 7, 8] [] [] o_me_reader z5 := hkpz4_me_reader.trans (hz5_1.mono (by decide) (by decide) (by decide))
    refine wp_bd (s_X6_addNumber   z5 p3  hz5_0  ) (fun z6 hz6 => ?_)
    obtain ⟨hz6_0, hz6_1⟩ := hz6
    have hkpz6_me_reader : Kp [3, 4, 5, 6, 7, 8] [] [] o_me_reader z6 := hkpz5_me_reader.trans (hz6_1.mono (by decide) (by decide) (by decide))
    refine wp_bd (s_X6_addNumber   z6 p4  hz6_0  ) (fun z7 hz7 => ?_)
    obtain ⟨hz7_0, hz7_1⟩ := hz7
    have hkpz7_me_reader : Kp [3, 4, 5, 6, 7, 8] [] [] o_me_reader z7 := hkpz6_me_reader.trans (hz7_1.mono (by decide) (by decide) (by decide))
    have t8 := igX6_2 hz7_0
    refine wp_some ?_
    exact (show ((-1) ≤ (gI z7 2).toInt ∧ (gI z7 2).toInt ≤ 400) ∧ IvX6 z7 ∧ Kp [3, 4, 5, 6, 7, 8] [] [] o_me_reader z7 from ⟨⟨by omega, by omega⟩, hz7_0, hkpz7_me_reader⟩)

set_option maxHeartbeats 4000000 in
set_option maxRecDepth 100000 in
theorem s_J7_fill_d0a16_AX7_8 (o_a0 : Ob) (p1 : Int64) (hI_a0 : IvX7 o_a0)  : wp (f_J7_fill_d0a16_AX7_8   o_a0 p1) (fun (y : Ob) => IvX7 y ∧ Kp [] [2, 3] [] o_a0 y) := by
  have li0 : (0 : Int32).toInt = 0 := by decide
  have li1 : (20 : Int32).toInt = 20 := by decide
  unfold f_J7_fill_d0a16_AX7_8
  have lp1 : ∀ (N1 : Nat) (v1_1 : Int64) (v3_1 : Int32) (v4_1 : Int32) (o_a0_1 : Ob), IvX7 o_a0_1 → Kp [] [2, 3] [] o_a0 o_a0_1 → (0 ≤ v3_1.toInt ∧ v3_1.toInt ≤ 20) → (20 ≤ v4_1.toInt ∧ v4_1.toInt ≤ 20) → (20 - v3_1.toInt).toNat < N1 → wp (lp_J7_fill_d0a16_AX7_8_6   N1 (v1_1, v3_1, v4_1, o_a0_1)) (fun (y : Ob) => IvX7 y ∧ Kp [] [2, 3] [] o_a0 y) := by
    intro N1
    induction N1 with
    | zero =>
      intro v1_1 v3_1 v4_1 o_a0_1 hI_a0_1 hkp_a0_1 hh1 hh2 hN1
      exact absurd hN1 (Nat.not_lt_zero _)
    | succ N1 ihx =>
      have ih1 := ihx
      intro v1_1 v3_1 v4_1 o_a0_1 hI_a0_1 hkp_a0_1 hh1 hh2 hN1
      show wp (lb_J7_fill_d0a16_AX7_8_6   (lp_J7_fill_d0a16_AX7_8_6   N1) v1_1 v3_1 v4_1 o_a0_1) (fun (y : Ob) => IvX7 y ∧ Kp [] [2, 3] [] o_a0 y)
      unfold lb_J7_fill_d0a16_AX7_8_6
      refine wp_if (fun c3 => ?_) (fun c3 => ?_)
      · have c3 := cv_ge (a := v3_1.toInt) (b := v4_1.toInt) rfl rfl c3
        refine wp_some ?_
        exact (show IvX7 o_a0_1 ∧ Kp [] [2, 3] [] o_a0 o_a0_1 from ⟨hI_a0_1, hkp_a0_1⟩)
      · have c3 := cv_nge (a := v3_1.toInt) (b := v4_1.toInt) rfl rfl c3
        refine wp_gd (zin_of (m := 20) rfl (by omega) (by omega)) ?_
        refine wp_lt (fun o4 eo4 => ?_)
        have hIo4 : IvX7 o4 := by rw [eo4]; exact hI_a0_1
        have hkpo4 : Kp [] [2, 3] [] o_a0 o4 := hkp_a0_1.trans (by rw [eo4]; exact Kp.tM)
        refine wp_lt (fun x5 ex5 => ?_)
        have tx5 : x5.toInt = v3_1.toInt + 1 := by rw [ex5]; exact i32_add rfl (by decide) (by omega) (by omega)
        exact ih1 v1_1 x5 v4_1 o4 hIo4 hkpo4 ⟨by omega, by omega⟩ ⟨by omega, by omega⟩ (by omega)
  exact lp1 zfu p1 (0 : Int32) (20 : Int32) o_a0 hI_a0 Kp.rf ⟨by decide, by decide⟩ ⟨by decide, by decide⟩ (by show _ < 100000; omega)

set_option maxHeartbeats 4000000 in
set_option maxRecDepth 100000 in
theorem s_X7_chanceOfFewer {pl : List CR} (o_me : Ob) (o_me_court_isles : Ob) (p0 : Int32) (p1 : Int32) (hI_me : IvX7 o_me) (hI_me_court_isles : IvX2 pl o_me_court_isles) (q0 : 1 ≤ p0.toInt ∧ p0.toInt ≤ 20) (q1 : 0 ≤ p1.toInt ∧ p1.toInt ≤ 99) : wp (f_X7_chanceOfFewer   o_me o_me_court_isles p0 p1) (fun (y : Int64 × Ob) => IvX7 y.2 ∧ Kp [] [2, 3] [] o_me y.2) := by
  have li0 : (0 : Int32).toInt = 0 := by decide
  have li1 : (0 : Int64).toInt = 0 := by decide
  have li2 : (1 : Int32).toInt = 1 := by decide
  have li3 : (10 : Int32).toInt = 10 := by decide
  have li4 : (10 : Int64).toInt = 10 := by decide
  have li5 : (1000000000000 : Int64).toInt = 1000000000000 := by decide
  have li6 : (20 : Int32).toInt = 20 := by decide
  unfold f_X7_chanceOfFewer
  refine wp_bd (s_J7_fill_d0a16_AX7_8   o_me (0 : Int64)  hI_me  ) (fun z1 hz1 => ?_)
  obtain ⟨hz1_0, hz1_1⟩ := hz1
  have hkpz1_me : Kp [] [2, 3] [] o_me z1 := Kp.rf.trans (hz1_1.mono (by decide) (by decide) (by decide))
  refine wp_lt (fun o2 eo2 => ?_)
  have hIo2 : IvX7 o2 := by rw [eo2]; exact hz1_0
  have hkpo2 : Kp [] [2, 3] [] o_me o2 := hkpz1_me.trans (by rw [eo2]; exact Kp.tM)
  have t3 : 1 ≤ (if (20 : Int32) < p0 then (20 : Int32) else p0).toInt ∧ (if (20 : Int32) < p0 then (20 : Int32) else p0).toInt ≤ 20 := z_min (a := p0.toInt) (b := 20) rfl (by decide) (by omega) (by omega)
  have t4 := z_mng p0 (20 : Int32)
  refine wp_lt (fun x5 ex5 => ?_)
  have tx5 : x5.toInt = (if (20 : Int32) < p0 then (20 : Int32) else p0).toInt := by rw [ex5]
  have lp1 : ∀ (N1 : Nat) (v2_1 : Int32) (v3_1 : Int32) (v4_1 : Int32) (o_me_1 : Ob), IvX7 o_me_1 → Kp [] [2, 3] [] o_me o_me_1 → (0 ≤ v2_1.toInt ∧ v2_1.toInt ≤ 99) → (1 ≤ v3_1.toInt ∧ v3_1.toInt ≤ 20) → (0 ≤ v4_1.toInt ∧ v4_1.toInt ≤ 99) → (v4_1.toInt ≤ v2_1.toInt + 0) → (v2_1.toInt ≤ p1.toInt + 0) → (p1.toInt ≤ v2_1.toInt + 0) → (v3_1.toInt ≤ p0.toInt + 0) → (v3_1.toInt ≤ x5.toInt + 0) → (x5.toInt ≤ v3_1.toInt + 0) → (v4_1.toInt ≤ p1.toInt + 0) → (99 - v4_1.toInt).toNat < N1 → wp (lp_X7_chanceOfFewer_27 o_me_court_isles  N1 (v2_1, v3_1, v4_1, o_me_1)) (fun (y : Int64 × Ob) => IvX7 y.2 ∧ Kp [] [2, 3] [] o_me y.2) := by
    intro N1
    induction N1 with
    | zero =>
      intro v2_1 v3_1 v4_1 o_me_1 hI_me_1 hkp_me_1 hh6 hh7 hh8 hh9 hh10 hh11 hh12 hh13 hh14 hh15 hN1
      exact absurd hN1 (Nat.not_lt_zero _)
    | succ N1 ihx =>
      have ih1 := ihx
      intro v2_1 v3_1 v4_1 o_me_1 hI_me_1 hkp_me_1 hh6 hh7 hh8 hh9 hh10 hh11 hh12 hh13 hh14 hh15 hN1
      show wp (lb_X7_chanceOfFewer_27 o_me_court_isles  (lp_X7_chanceOfFewer_27 o_me_court_isles  N1) v2_1 v3_1 v4_1 o_me_1) (fun (y : Int64 × Ob) => IvX7 y.2 ∧ Kp [] [2, 3] [] o_me y.2)
      unfold lb_X7_chanceOfFewer_27
      refine wp_if (fun c16 => ?_) (fun c16 => ?_)
      · have c16 := cv_ge (a := v4_1.toInt) (b := v2_1.toInt) rfl rfl c16
        have lp2 : ∀ (N2 : Nat) (v3_2 : Int32) (v4_2 : Int64) (v6_2 : Int32) (o_me_2 : Ob), IvX7 o_me_2 → Kp [] [2, 3] [] o_me o_me_2 → (1 ≤ v3_2.toInt ∧ v3_2.toInt ≤ 20) → (0 ≤ v6_2.toInt ∧ v6_2.toInt ≤ 20) → (v6_2.toInt ≤ v3_2.toInt + 0) → (v3_2.toInt ≤ p0.toInt + 0) → (v3_2.toInt ≤ x5.toInt + 0) → (x5.toInt ≤ v3_2.toInt + 0) → (v3_2.toInt ≤ v3_1.toInt + 0) → (v3_1.toInt ≤ v3_2.toInt + 0) → (v6_2.toInt ≤ p0.toInt + 0) → (v6_2.toInt ≤ x5.toInt + 0) → (v6_2.toInt ≤ v3_1.toInt + 0) → (20 - v6_2.toInt).toNat < N2 → wp (lp_X7_chanceOfFewer_127 o_me_court_isles  N2 (v3_2, v4_2, v6_2, o_me_2)) (fun (y : Int64 × Ob) => IvX7 y.2 ∧ Kp [] [2, 3] [] o_me y.2) := by
          intro N2
          induction N2 with
          | zero =>
            intro v3_2 v4_2 v6_2 o_me_2 hI_me_2 hkp_me_2 hh17 hh18 hh19 hh20 hh21 hh22 hh23 hh24 hh25 hh26 hh27 hN2
            exact absurd hN2 (Nat.not_lt_zero _)
          | succ N2 ihx =>
            have ih2 := ihx
            intro v3_2 v4_2 v6_2 o_me_2 hI_me_2 hkp_me_2 hh17 hh18 hh19 hh20 hh21 hh22 hh23 hh24 hh25 hh26 hh27 hN2
            show wp (lb_X7_chanceOfFewer_127 o_me_court_isles  (lp_X7_chanceOfFewer_127 o_me_court_isles  N2) v3_2 v4_2 v6_2 o_me_2) (fun (y : Int64 × Ob) => IvX7 y.2 ∧ Kp [] [2, 3] [] o_me y.2)
            unfold lb_X7_chanceOfFewer_127
            refine wp_if (fun c28 => ?_) (fun c28 => ?_)
            · have c28 := cv_ge (a := v6_2.toInt) (b := v3_2.toInt) rfl rfl c28
              refine wp_some ?_
              exact (show IvX7 o_me_2 ∧ Kp [] [2, 3] [] o_me o_me_2 from ⟨hI_me_2, hkp_me_2⟩)
            · have c28 := cv_nge (a := v6_2.toInt) (b := v3_2.toInt) rfl rfl c28
              refine wp_gd (zin_of (m := 20) rfl (by omega) (by omega)) ?_
              refine wp_lt (fun x29 ex29 => ?_)
              have tx29 : x29.toInt = (v4_2 + (gM o_me_2 8 v6_2.toNatClampNeg)).toInt := by rw [ex29]
              refine wp_lt (fun x30 ex30 => ?_)
              have tx30 : x30.toInt = v6_2.toInt + 1 := by rw [ex30]; exact i32_add rfl (by decide) (by omega) (by omega)
              exact ih2 v3_2 x29 x30 o_me_2 hI_me_2 hkp_me_2 ⟨by omega, by omega⟩ ⟨by omega, by omega⟩ (by omega) (by omega) (by omega) (by omega) (by omega) (by omega) (by omega) (by omega) (by omega) (by omega)
        exact lp2 zfu v3_1 (0 : Int64) (0 : Int32) o_me_1 hI_me_1 hkp_me_1 ⟨by omega, by omega⟩ ⟨by decide, by decide⟩ (by omega) (by omega) (by omega) (by omega) (by omega) (by omega) (by omega) (by omega) (by omega) (by show _ < 100000; omega)
      · have c16 := cv_nge (a := v4_1.toInt) (b := v2_1.toInt) rfl rfl c16
        have t31 : (v3_1 - (1 : Int32)).toInt = v3_1.toInt - 1 := i32_sub rfl (by decide) (by omega) (by omega)
        refine wp_lt (fun x32 ex32 => ?_)
        have tx32 : x32.toInt = (v3_1 - (1 : Int32)).toInt := by rw [ex32]
        have lp3 : ∀ (N3 : Nat) (v2_3 : Int32) (v3_3 : Int32) (v4_3 : Int32) (v5_3 : Int32) (o_me_3 : Ob), IvX7 o_me_3 → Kp [] [2, 3] [] o_me o_me_3 → (1 ≤ v2_3.toInt ∧ v2_3.toInt ≤ 99) → (1 ≤ v3_3.toInt ∧ v3_3.toInt ≤ 20) → (0 ≤ v4_3.toInt ∧ v4_3.toInt ≤ 98) → ((-1) ≤ v5_3.toInt ∧ v5_3.toInt ≤ 19) → (v4_3.toInt ≤ v2_3.toInt + (-1)) → (v5_3.toInt ≤ v3_3.toInt + (-1)) → (v4_1.toInt ≤ v2_3.toInt + (-1)) → (v2_3.toInt ≤ v2_1.toInt + 0) → (v2_1.toInt ≤ v2_3.toInt + 0) → (v2_3.toInt ≤ p1.toInt + 0) → (p1.toInt ≤ v2_3.toInt + 0) → (v3_3.toInt ≤ p0.toInt + 0) → (v3_3.toInt ≤ x5.toInt + 0) → (x5.toInt ≤ v3_3.toInt + 0) → (v3_3.toInt ≤ x32.toInt + 1) → (x32.toInt ≤ v3_3.toInt + (-1)) → (v3_3.toInt ≤ v3_1.toInt + 0) → (v3_1.toInt ≤ v3_3.toInt + 0) → (v4_3.toInt ≤ v4_1.toInt + 0) → (v4_1.toInt ≤ v4_3.toInt + 0) → (v4_3.toInt ≤ v2_1.toInt + (-1)) → (v4_3.toInt ≤ p1.toInt + (-1)) → (v5_3.toInt ≤ p0.toInt + (-1)) → (v5_3.toInt ≤ x5.toInt + (-1)) → (v5_3.toInt ≤ x32.toInt + 0) → (v5_3.toInt ≤ v3_1.toInt + (-1)) → (v5_3.toInt - (-1)).toNat < N3 → wp (lp_X7_chanceOfFewer_38 o_me_court_isles (lp_X7_chanceOfFewer_27 o_me_court_isles  N1) N3 (v2_3, v3_3, v4_3, v5_3, o_me_3)) (fun (y : Int64 × Ob) => IvX7 y.2 ∧ Kp [] [2, 3] [] o_me y.2) := by
          intro N3
          induction N3 with
          | zero =>
            intro v2_3 v3_3 v4_3 v5_3 o_me_3 hI_me_3 hkp_me_3 hh33 hh34 hh35 hh36 hh37 hh38 hh39 hh40 hh41 hh42 hh43 hh44 hh45 hh46 hh47 hh48 hh49 hh50 hh51 hh52 hh53 hh54 hh55 hh56 hh57 hh58 hN3
            exact absurd hN3 (Nat.not_lt_zero _)
          | succ N3 ihx =>
            have ih3 := ihx
            intro v2_3 v3_3 v4_3 v5_3 o_me_3 hI_me_3 hkp_me_3 hh33 hh34 hh35 hh36 hh37 hh38 hh39 hh40 hh41 hh42 hh43 hh44 hh45 hh46 hh47 hh48 hh49 hh50 hh51 hh52 hh53 hh54 hh55 hh56 hh57 hh58 hN3
            show wp (lb_X7_chanceOfFewer_38 o_me_court_isles (lp_X7_chanceOfFewer_27 o_me_court_isles  N1) (lp_X7_chanceOfFewer_38 o_me_court_isles (lp_X7_chanceOfFewer_27 o_me_court_isles  N1) N3) v2_3 v3_3 v4_3 v5_3 o_me_3) (fun (y : Int64 × Ob) => IvX7 y.2 ∧ Kp [] [2, 3] [] o_me y.2)
            unfold lb_X7_chanceOfFewer_38
            refine wp_if (fun c59 => ?_) (fun c59 => ?_)
            · have c59 := cv_lt (a := v5_3.toInt) (b := 0) rfl (by decide) c59
              refine wp_lt (fun x60 ex60 => ?_)
              have tx60 : x60.toInt = v4_3.toInt + 1 := by rw [ex60]; exact i32_add rfl (by decide) (by omega) (by omega)
              exact ih1 v2_3 v3_3 x60 o_me_3 hI_me_3 hkp_me_3 ⟨by omega, by omega⟩ ⟨by omega, by omega⟩ ⟨by omega, by omega⟩ (by omega) (by omega) (by omega) (by omega) (by omega) (by omega) (by omega) (by omega)
            · have c59 := cv_nlt (a := v5_3.toInt) (b := 0) rfl (by decide) c59
              refine wp_if (fun c61 => ?_) (fun c61 => ?_)
              · have c61 := cv_le (a := v5_3.toInt) (b := 0) rfl (by decide) c61
                obtain ⟨w62, ew62⟩ : ∃ z : Int64, z = (0 : Int64) := ⟨_, rfl⟩
                have tw62 : w62.toInt = 0 := by rw [ew62]; decide
                rw [show bk_X7_chanceOfFewer_74 o_me_court_isles (lp_X7_chanceOfFewer_27 o_me_court_isles  N1) (lp_X7_chanceOfFewer_38 o_me_court_isles (lp_X7_chanceOfFewer_27 o_me_court_isles  N1) N3) v2_3 v3_3 v4_3 v5_3 (0 : Int64) o_me_3 = bk_X7_chanceOfFewer_74 o_me_court_isles (lp_X7_chanceOfFewer_27 o_me_court_isles  N1) (lp_X7_chanceOfFewer_38 o_me_court_isles (lp_X7_chanceOfFewer_27 o_me_court_isles  N1) N3) v2_3 v3_3 v4_3 v5_3 w62 o_me_3 from by rw [ew62]]
                unfold bk_X7_chanceOfFewer_74
                refine wp_gd (zin_of (m := 20) rfl (by omega) (by omega)) ?_
                have rg63 := i32_rg ((10 : Int32) - (gI o_me_court_isles 11))
                have t64 : (((10 : Int32) - (gI o_me_court_isles 11)).toInt64).toInt = ((10 : Int32) - (gI o_me_court_isles 11)).toInt := Int32.toInt_toInt64 _
                refine wp_gd (zin_of (m := 20) rfl (by omega) (by omega)) ?_
                refine wp_lt (fun o65 eo65 => ?_)
                have hIo65 : IvX7 o65 := by rw [eo65]; exact hI_me_3
                have hkpo65 : Kp [] [2, 3] [] o_me o65 := hkp_me_3.trans (by rw [eo65]; exact Kp.tM)
                refine wp_lt (fun x66 ex66 => ?_)
                have tx66 : x66.toInt = v5_3.toInt + (-1) := by rw [ex66]; exact i32_add rfl (by decide) (by omega) (by omega)
                exact ih3 v2_3 v3_3 v4_3 x66 o65 hIo65 hkpo65 ⟨by omega, by omega⟩ ⟨by omega, by omega⟩ ⟨by omega, by omega⟩ ⟨by omega, by omega⟩ (by omega) (by omega) (by omega) (by omega) (by omega) (by omega) (by omega) (by omega) (by omega) (by omega) (by omega) (by omega) (by omega) (by omega) (by omega) (by omega) (by omega) (by omega) (by omega) (by omega) (by omega) (by omega) (by omega)
              · have c61 := cv_nle (a := v5_3.toInt) (b := 0) rfl (by decide) c61
                have t67 : (v5_3 - (1 : Int32)).toInt = v5_3.toInt - 1 := i32_sub rfl (by decide) (by omega) (by omega)
                refine wp_gd (zin_of (m := 20) rfl (by omega) (by omega)) ?_
                have rg68 := i32_rg (gI o_me_court_isles 11)
                have t69 : ((gI o_me_court_isles 11).toInt64).toInt = (gI o_me_court_isles 11).toInt := Int32.toInt_toInt64 _
                obtain ⟨w70, ew70⟩ : ∃ z : Int64, z = ((gM o_me_3 8 (v5_3 - (1 : Int32)).toNatClampNeg) * ((gI o_me_court_isles 11).toInt64)) / (10 : Int64) := ⟨_, rfl⟩
                have tw70 : w70.toInt = (((gM o_me_3 8 (v5_3 - (1 : Int32)).toNatClampNeg) * ((gI o_me_court_isles 11).toInt64)) / (10 : Int64)).toInt := by rw [ew70]
                rw [show bk_X7_chanceOfFewer_74 o_me_court_isles (lp_X7_chanceOfFewer_27 o_me_court_isles  N1) (lp_X7_chanceOfFewer_38 o_me_court_isles (lp_X7_chanceOfFewer_27 o_me_court_isles  N1) N3) v2_3 v3_3 v4_3 v5_3 (((gM o_me_3 8 (v5_3 - (1 : Int32)).toNatClampNeg) * ((gI o_me_court_isles 11).toInt64)) / (10 : Int64)) o_me_3 = bk_X7_chanceOfFewer_74 o_me_court_isles (lp_X7_chanceOfFewer_27 o_me_court_isles  N1) (lp_X7_chanceOfFewer_38 o_me_court_isles (lp_X7_chanceOfFewer_27 o_me_court_isles  N1) N3) v2_3 v3_3 v4_3 v5_3 w70 o_me_3 from by rw [ew70]]
                unfold bk_X7_chanceOfFewer_74
                refine wp_gd (zin_of (m := 20) rfl (by omega) (by omega)) ?_
                have rg71 := i32_rg ((10 : Int32) - (gI o_me_court_isles 11))
                have t72 : (((10 : Int32) - (gI o_me_court_isles 11)).toInt64).toInt = ((10 : Int32) - (gI o_me_court_isles 11)).toInt := Int32.toInt_toInt64 _
                refine wp_gd (zin_of (m := 20) rfl (by omega) (by omega)) ?_
                refine wp_lt (fun o73 eo73 => ?_)
                have hIo73 : IvX7 o73 := by rw [eo73]; exact hI_me_3
                have hkpo73 : Kp [] [2, 3] [] o_me o73 := hkp_me_3.trans (by rw [eo73]; exact Kp.tM)
                refine wp_lt (fun x74 ex74 => ?_)
                have tx74 : x74.toInt = v5_3.toInt + (-1) := by rw [ex74]; exact i32_add rfl (by decide) (by omega) (by omega)
                exact ih3 v2_3 v3_3 v4_3 x74 o73 hIo73 hkpo73 ⟨by omega, by omega⟩ ⟨by omega, by omega⟩ ⟨by omega, by omega⟩ ⟨by omega, by omega⟩ (by omega) (by omega) (by omega) (by omega) (by omega) (by omega) (by omega) (by omega) (by omega) (by omega) (by omega) (by omega) (by omega) (by omega) (by omega) (by omega) (by omega) (by omega) (by omega) (by omega) (by omega) (by omega) (by omega)
        exact lp3 zfu v2_1 v3_1 v4_1 x32 o_me_1 hI_me_1 hkp_me_1 ⟨by omega, by omega⟩ ⟨by omega, by omega⟩ ⟨by omega, by omega⟩ ⟨by omega, by omega⟩ (by omega) (by omega) (by omega) (by omega) (by omega) (by omega) (by omega) (by omega) (by omega) (by omega) (by omega) (by omega) (by omega) (by omega) (by omega) (by omega) (by omega) (by omega) (by omega) (by omega) (by omega) (by omega) (by show _ < 100000; omega)
  exact lp1 zfu p1 x5 (0 : Int32) o2 hIo2 hkpo2 ⟨by omega, by omega⟩ ⟨by omega, by omega⟩ ⟨by decide, by decide⟩ (by omega) (by omega) (by omega) (by omega) (by omega) (by omega) (by omega) (by show _ < 100000; omega)

set_option maxHeartbeats 4000000 in
set_option maxRecDepth 100000 in
theorem s_X8_few {pl : List CR} {rI : Nat → Option Nat} (o_me : Ob) (o_me_isles : Ob) (o_me_study : Ob) (p0 : Int32) (p1 : Int32) (hI_me : IvX8 rI o_me) (hI_me_isles : IvX2 pl o_me_isles) (hI_me_study : IvX7 o_me_study)  : wp (f_X8_few   o_me o_me_isles o_me_study p0 p1) (fun (y : Int64 × Ob) => IvX7 y.2 ∧ Kp [] [2, 3] [] o_me_study y.2) := by
  have li0 : (-1 : Int64).toInt = (-1) := by decide
  have li1 : (1 : Int32).toInt = 1 := by decide
  have li2 : (20 : Int32).toInt = 20 := by decide
  have li3 : (99 : Int32).toInt = 99 := by decide
  unfold f_X8_few
  refine wp_if (fun c1 => ?_) (fun c1 => ?_)
  · have c1 := cv_lt (a := p0.toInt) (b := 1) rfl (by decide) c1
    refine wp_some ?_
    exact (show IvX7 o_me_study ∧ Kp [] [2, 3] [] o_me_study o_me_study from ⟨hI_me_study, Kp.rf⟩)
  · have c1 := cv_nlt (a := p0.toInt) (b := 1) rfl (by decide) c1
    refine wp_if (fun c2 => ?_) (fun c2 => ?_)
    · have c2 := cv_gt (a := p0.toInt) (b := 20) rfl (by decide) c2
      refine wp_some ?_
      exact (show IvX7 o_me_study ∧ Kp [] [2, 3] [] o_me_study o_me_study from ⟨hI_me_study, Kp.rf⟩)
    · have c2 := cv_ngt (a := p0.toInt) (b := 20) rfl (by decide) c2
      refine wp_if (fun c3 => ?_) (fun c3 => ?_)
      · have c3 := cv_lt (a := p1.toInt) (b := 0) rfl (by decide) c3
        refine wp_some ?_
        exact (show IvX7 o_me_study ∧ Kp [] [2, 3] [] o_me_study o_me_study from ⟨hI_me_study, Kp.rf⟩)
      · have c3 := cv_nlt (a := p1.toInt) (b := 0) rfl (by decide) c3
        refine wp_if (fun c4 => ?_) (fun c4 => ?_)
        · have c4 := cv_le (a := p1.toInt) (b := 99) rfl (by decide) c4
          refine wp_bd (s_X7_chanceOfFewer   o_me_study o_me_isles p0 p1  hI_me_study hI_me_isles  ⟨by omega, by omega⟩ ⟨by omega, by omega⟩) (fun z5 hz5 => ?_)
          obtain ⟨hz5_0, hz5_1⟩ := hz5
          have hkpz5_me_study : Kp [] [2, 3] [] o_me_study z5.2 := Kp.rf.trans (hz5_1.mono (by decide) (by decide) (by decide))
          refine wp_some ?_
          exact (show IvX7 z5.2 ∧ Kp [] [2, 3] [] o_me_study z5.2 from ⟨hz5_0, hkpz5_me_study⟩)
        · have c4 := cv_nle (a := p1.toInt) (b := 99) rfl (by decide) c4
          refine wp_some ?_
          exact (show IvX7 o_me_study ∧ Kp [] [2, 3] [] o_me_study o_me_study from ⟨hI_me_study, Kp.rf⟩)

set_option maxHeartbeats 4000000 in
set_option maxRecDepth 100000 in
theorem s_X8_force {pl : List CR} {rI : Nat → Option Nat} (o_me : Ob) (o_me_isles : Ob) (p0 : Int32) (hI_me : IvX8 rI o_me) (hI_me_isles : IvX2 pl o_me_isles)  : wp (f_X8_force   o_me o_me_isles p0) (fun (y : Int32 × Ob × Ob) => IvX8 rI y.2.1 ∧ Kp [13, 14, 15, 16] [] [] o_me y.2.1 ∧ IvX2 pl y.2.2 ∧ Kp [7, 8, 9, 11, 12] [1, 2, 3, 4, 5] [] o_me_isles y.2.2) := by
  have li0 : (-1 : Int32).toInt = (-1) := by decide
  have li1 : (-2 : Int32).toInt = (-2) := by decide
  unfold f_X8_force
  refine wp_if (fun c1 => ?_) (fun c1 => ?_)
  · have c1 := cv_eq (a := p0.toInt) (b := (-1)) rfl (by decide) c1
    unfold bk_X8_force_23
    have t2 := igX2_10 hI_me_isles
    refine wp_lt (fun x3 ex3 => ?_)
    have tx3 : x3.toInt = (gI o_me_isles 10).toInt := by rw [ex3]
    refine wp_lt (fun o4 eo4 => ?_)
    have hIo4 : IvX2 pl o4 := by rw [eo4]; exact ipX2_10 hI_me_isles ⟨by omega, by omega⟩
    have ko4_v : (gI o4 10).toInt = p0.toInt := by rw [eo4]; rfl
    have hkpo4 : Kp [7, 8, 9, 11, 12] [1, 2, 3, 4, 5] [] o_me_isles o4 := Kp.rf.trans (by rw [eo4]; exact Kp.sI (by decide))
    refine wp_bd (s_X8_grant   o_me x3  hI_me  ) (fun z5 hz5 => ?_)
    obtain ⟨hz5_0, hz5_1⟩ := hz5
    have hkpz5_me : Kp [13, 14, 15, 16] [] [] o_me z5.2 := Kp.rf.trans (hz5_1.mono (by decide) (by decide) (by decide))
    refine wp_some ?_
    exact (show IvX8 rI z5.2 ∧ Kp [13, 14, 15, 16] [] [] o_me z5.2 ∧ IvX2 pl o4 ∧ Kp [7, 8, 9, 11, 12] [1, 2, 3, 4, 5] [] o_me_isles o4 from ⟨hz5_0, hkpz5_me, hIo4, hkpo4⟩)
  · have c1 := cv_ne (a := p0.toInt) (b := (-1)) rfl (by decide) c1
    refine wp_bd (s_X2_isLaw   o_me_isles p0  hI_me_isles  ) (fun z6 hz6 => ?_)
    obtain ⟨hz6_0, hz6_1⟩ := hz6
    refine wp_if (fun c7 => ?_) (fun c7 => ?_)
    · have c7 := cv_eq (a := z6.toInt) (b := 0) rfl (by decide) c7
      refine wp_bd (s_X8_refuse   o_me (-2 : Int32)  hI_me  ) (fun z8 hz8 => ?_)
      obtain ⟨hz8_0, hz8_1⟩ := hz8
      have hkpz8_me : Kp [13, 14, 15, 16] [] [] o_me z8.2 := Kp.rf.trans (hz8_1.mono (by decide) (by decide) (by decide))
      refine wp_some ?_
      exact (show IvX8 rI z8.2 ∧ Kp [13, 14, 15, 16] [] [] o_me z8.2 ∧ IvX2 pl o_me_isles ∧ Kp [7, 8, 9, 11, 12] [1, 2, 3, 4, 5] [] o_me_isles o_me_isles from ⟨hz8_0, hkpz8_me, hI_me_isles, Kp.rf⟩)
    · have c7z := c7
      have c7i := hz6_1 c7
      have c7 := cv_ne (a := z6.toInt) (b := 0) rfl (by decide) c7
      unfold bk_X8_force_23
      have t9 := igX2_10 hI_me_isles
      refine wp_lt (fun x10 ex10 => ?_)
      have tx10 : x10.toInt = (gI o_me_isles 10).toInt := by rw [ex10]
      refine wp_lt (fun o11 eo11 => ?_)
      have hIo11 : IvX2 pl o11 := by rw [eo11]; exact ipX2_10 hI_me_isles ⟨by omega, by omega⟩
      have ko11_k12 : (gI o11 9).toInt = (gI o_me_isles 9).toInt := by rw [eo11]; rfl
      have ko11_v : (gI o11 10).toInt = p0.toInt := by rw [eo11]; rfl
      have hkpo11 : Kp [7, 8, 9, 11, 12] [1, 2, 3, 4, 5] [] o_me_isles o11 := Kp.rf.trans (by rw [eo11]; exact Kp.sI (by decide))
      refine wp_bd (s_X8_grant   o_me x10  hI_me  ) (fun z13 hz13 => ?_)
      obtain ⟨hz13_0, hz13_1⟩ := hz13
      have hkpz13_me : Kp [13, 14, 15, 16] [] [] o_me z13.2 := Kp.rf.trans (hz13_1.mono (by decide) (by decide) (by decide))
      refine wp_some ?_
      exact (show IvX8 rI z13.2 ∧ Kp [13, 14, 15, 16] [] [] o_me z13.2 ∧ IvX2 pl o11 ∧ Kp [7, 8, 9, 11, 12] [1, 2, 3, 4, 5] [] o_me_isles o11 from ⟨hz13_0, hkpz13_me, hIo11, hkpo11⟩)

