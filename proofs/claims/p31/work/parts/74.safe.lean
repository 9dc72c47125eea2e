set_option maxHeartbeats 4000000 in
set_option maxRecDepth 100000 in
theorem s_X8_answer (o_me : Ob) (p0 : Int32) (hI_me : IvX8 o_me)  : wp (f_X8_answer  o_me p0) (fun (y : Int32 × Ob) => IvX8 y.2 ∧ Kp [] [] o_me y.2) := by
  unfold f_X8_answer
  refine wp_if (fun c1 => ?_) (fun c1 => ?_)
  · have c1 := cv_ge (a := p0.toInt) (b := 0) rfl (by decide) c1
    refine wp_bd (s_X8_grant o_me p0 hI_me ) (fun z2 hz2 => ?_)
    obtain ⟨hz2_0, hz2_1⟩ := hz2
    have hkpz2_me : Kp [] [] o_me z2.2 := Kp.rf.trans (hz2_1.mono (by decide) (by decide))
    refine wp_some ?_
    exact (show IvX8 z2.2 ∧ Kp [] [] o_me z2.2 from ⟨hz2_0, hkpz2_me⟩)
  · have c1 := cv_nge (a := p0.toInt) (b := 0) rfl (by decide) c1
    refine wp_bd (s_X8_refuse o_me p0 hI_me ) (fun z3 hz3 => ?_)
    obtain ⟨hz3_0, hz3_1⟩ := hz3
    have hkpz3_me : Kp [] [] o_me z3.2 := Kp.rf.trans (hz3_1.mono (by decide) (by decide))
    refine wp_some ?_
    exact (show IvX8 z3.2 ∧ Kp [] [] o_me z3.2 from ⟨hz3_0, hkpz3_me⟩)

set_option maxHeartbeats 4000000 in
set_option maxRecDepth 100000 in
theorem s_X8_fault (o_me : Ob) (o_me_reader : Ob) (hI_me : IvX8 o_me) (hI_me_reader : IvX6 o_me_reader)  : wp (f_X8_fault  o_me o_me_reader) (fun (y : Int32) => True) := by
  unfold f_X8_fault
  refine wp_some ?_
  exact trivial

set_option maxHeartbeats 4000000 in
set_option maxRecDepth 100000 in
theorem s_X6_hasRoom (o_me : Ob) (p0 : Int32) (hI_me : IvX6 o_me)  : wp (f_X6_hasRoom  o_me p0) (fun (y : Int32) => (0 ≤ y.toInt ∧ y.toInt ≤ 1)) := by
  have li0 : (0 : Int32).toInt = 0 := by decide
  have li1 : (1 : Int32).toInt = 1 := by decide
  have li2 : (400 : Int32).toInt = 400 := by decide
  unfold f_X6_hasRoom
  have t1 := igX6_2 hI_me
  refine wp_if (fun c2 => ?_) (fun c2 => ?_)
  · have c2 := cv_gt (a := ((gI o_me 2) + p0).toInt) (b := 400) rfl (by decide) c2
    refine wp_some ?_
    exact (show (0 ≤ (0 : Int32).toInt ∧ (0 : Int32).toInt ≤ 1) from ⟨by decide, by decide⟩)
  · have c2 := cv_ngt (a := ((gI o_me 2) + p0).toInt) (b := 400) rfl (by decide) c2
    refine wp_some ?_
    exact (show (0 ≤ (1 : Int32).toInt ∧ (1 : Int32).toInt ≤ 1) from ⟨by decide, by decide⟩)

set_option maxHeartbeats 4000000 in
set_option maxRecDepth 100000 in
theorem s_X6_addNumber (o_me : Ob) (p0 : Int32) (hI_me : IvX6 o_me)  : wp (f_X6_addNumber  o_me p0) (fun (y : Ob) => IvX6 y ∧ Kp [4, 5, 6, 7, 8] [] o_me y) := by
  have li0 : (1 : Int32).toInt = 1 := by decide
  have li1 : (24 : Int32).toInt = 24 := by decide
  have li2 : (255 : Int32).toInt = 255 := by decide
  have li3 : (400 : Int32).toInt = 400 := by decide
  unfold f_X6_addNumber
  have t1 := igX6_2 hI_me
  have lp1 : ∀ (N1 : Nat) (v1_1 : Int32) (v2_1 : Int32) (o_me_1 : Ob), IvX6 o_me_1 → Kp [4, 5, 6, 7, 8] [] o_me o_me_1 → ((-8) ≤ v2_1.toInt ∧ v2_1.toInt ≤ 24) → (0 ≤ (gI o_me_1 2).toInt ∧ (gI o_me_1 2).toInt ≤ 400) → (v2_1.toInt - (-8)).toNat < N1 → wp (lp_X6_addNumber_3   N1 (v1_1, v2_1, o_me_1)) (fun (y : Ob) => IvX6 y ∧ Kp [4, 5, 6, 7, 8] [] o_me y) := by
    intro N1
    induction N1 with
    | zero =>
      intro v1_1 v2_1 o_me_1 hI_me_1 hkp_me_1 hh3 hh4 hN1
      exact absurd hN1 (Nat.not_lt_zero _)
    | succ N1 ihx =>
      have ih1 := ihx
      intro v1_1 v2_1 o_me_1 hI_me_1 hkp_me_1 hh3 hh4 hN1
      show wp (lb_X6_addNumber_3   (lp_X6_addNumber_3   N1) v1_1 v2_1 o_me_1) (fun (y : Ob) => IvX6 y ∧ Kp [4, 5, 6, 7, 8] [] o_me y)
      unfold lb_X6_addNumber_3
      refine wp_if (fun c5 => ?_) (fun c5 => ?_)
      · have c5 := cv_lt (a := v2_1.toInt) (b := 0) rfl (by decide) c5
        refine wp_some ?_
        exact (show IvX6 o_me_1 ∧ Kp [4, 5, 6, 7, 8] [] o_me o_me_1 from ⟨hI_me_1, hkp_me_1⟩)
      · have c5 := cv_nlt (a := v2_1.toInt) (b := 0) rfl (by decide) c5
        refine wp_if (fun c6 => ?_) (fun c6 => ?_)
        · have c6 := cv_ge (a := (gI o_me_1 2).toInt) (b := 400) rfl (by decide) c6
          unfold bk_X6_addNumber_43
          refine wp_lt (fun x7 ex7 => ?_)
          have tx7 : x7.toInt = v2_1.toInt + (-8) := by rw [ex7]; exact i32_add rfl (by decide) (by omega) (by omega)
          exact ih1 v1_1 x7 o_me_1 hI_me_1 hkp_me_1 ⟨by omega, by omega⟩ ⟨by omega, by omega⟩ (by omega)
        · have c6 := cv_nge (a := (gI o_me_1 2).toInt) (b := 400) rfl (by decide) c6
          have t8 := i32_and (x := (v1_1.toUInt32 >>> (v2_1.toUInt32 &&& Int32.toUInt32 31)).toInt32) (y := (255 : Int32)) (m := 255) ⟨by decide, by decide⟩
          refine wp_gd (zin_of (m := 400) rfl (by omega) (by omega)) ?_
          refine wp_lt (fun o9 eo9 => ?_)
          have hIo9 : IvX6 o9 := by rw [eo9]; exact hI_me_1
          have ko9_k10 : (gI o9 2).toInt = (gI o_me_1 2).toInt := by rw [eo9]; rfl
          have ko9_v : (gA o9 0 (gI o_me_1 2).toNatClampNeg).toInt = (((v1_1.toUInt32 >>> (v2_1.toUInt32 &&& Int32.toUInt32 31)).toInt32) &&& (255 : Int32)).toInt := by rw [eo9]; exact congrArg Int32.toInt (upd_eq (g := gA o_me_1 0) (i := (gI o_me_1 2)) (v := (((v1_1.toUInt32 >>> (v2_1.toUInt32 &&& Int32.toUInt32 31)).toInt32) &&& (255 : Int32))))
          have hkpo9 : Kp [4, 5, 6, 7, 8] [] o_me o9 := hkp_me_1.trans (by rw [eo9]; exact Kp.tA (by decide))
          have t11 : ((gI o9 2) + (1 : Int32)).toInt = (gI o9 2).toInt + 1 := i32_add rfl (by decide) (by omega) (by omega)
          refine wp_lt (fun o12 eo12 => ?_)
          have hIo12 : IvX6 o12 := by rw [eo12]; exact ipX6_2 hIo9 ⟨by omega, by omega⟩
          have ko12_k13 : (gA o12 0 (gI o_me_1 2).toNatClampNeg).toInt = (gA o9 0 (gI o_me_1 2).toNatClampNeg).toInt := by rw [eo12]; rfl
          have ko12_v : (gI o12 2).toInt = ((gI o9 2) + (1 : Int32)).toInt := by rw [eo12]; rfl
          have hkpo12 : Kp [4, 5, 6, 7, 8] [] o_me o12 := hkpo9.trans (by rw [eo12]; exact Kp.sI (by decide))
          unfold bk_X6_addNumber_43
          refine wp_lt (fun x14 ex14 => ?_)
          have tx14 : x14.toInt = v2_1.toInt + (-8) := by rw [ex14]; exact i32_add rfl (by decide) (by omega) (by omega)
          exact ih1 v1_1 x14 o12 hIo12 hkpo12 ⟨by omega, by omega⟩ ⟨by omega, by omega⟩ (by omega)
  exact lp1 zfu p0 (24 : Int32) o_me hI_me Kp.rf ⟨by decide, by decide⟩ ⟨by omega, by omega⟩ (by show _ < 100000; omega)

set_option maxHeartbeats 4000000 in
set_option maxRecDepth 100000 in
theorem s_X8_feed (o_me : Ob) (o_me_reader : Ob) (p0 : Int32) (p1 : Int32) (p2 : Int32) (p3 : Int32) (p4 : Int32) (hI_me : IvX8 o_me) (hI_me_reader : IvX6 o_me_reader)  : wp (f_X8_feed  o_me o_me_reader p0 p1 p2 p3 p4) (fun (y : Int32 × Ob) => ((-1) ≤ y.1.toInt ∧ y.1.toInt ≤ 400) ∧ IvX6 y.2 ∧ Kp [4, 5, 6, 7, 8] [] o_me_reader y.2) := by
  have li0 : (-1 : Int32).toInt = (-1) := by decide
  have li1 : (20 : Int32).toInt = 20 := by decide
  unfold f_X8_feed
  refine wp_bd (s_X6_hasRoom o_me_reader (20 : Int32) hI_me_reader ) (fun z1 hz1 => ?_)
  have hz1_0 := hz1
  refine wp_if (fun c2 => ?_) (fun c2 => ?_)
  · have c2 := cv_eq (a := z1.toInt) (b := 0) rfl (by decide) c2
    refine wp_some ?_
    exact (show ((-1) ≤ (-1 : Int32).toInt ∧ (-1 : Int32).toInt ≤ 400) ∧ IvX6 o_me_reader ∧ Kp [4, 5, 6, 7, 8] [] o_me_reader o_me_reader from ⟨⟨by decide, by decide⟩, hI_me_reader, Kp.rf⟩)
  · have c2z := c2
    have c2 := cv_ne (a := z1.toInt) (b := 0) rfl (by decide) c2
    refine wp_bd (s_X6_addNumber o_me_reader p0 hI_me_reader ) (fun z3 hz3 => ?_)
    obtain ⟨hz3_0, hz3_1⟩ := hz3
    have hkpz3_me_reader : Kp [4, 5, 6, 7, 8] [] o_me_reader z3 := Kp.rf.trans (hz3_1.mono (by decide) (by decide))
    refine wp_bd (s_X6_addNumber z3 p1 hz3_0 ) (fun z4 hz4 => ?_)
    obtain ⟨hz4_0, hz4_1⟩ := hz4
    have hkpz4_me_reader : Kp [4, 5, 6, 7, 8] [] o_me_reader z4 := hkpz3_me_reader.trans (hz4_1.mono (by decide) (by decide))
    refine wp_bd (s_X6_addNumber z4 p2 hz4_0 ) (fun z5 hz5 => ?_)
    obtain ⟨hz5_0, hz5_1⟩ := hz5
    have hkpz5_me_reader : Kp [4, 5, 6, 7, 8] [] o_me_reader z5 := hkpz4_me_reader.trans (hz5_1.mono (by decide) (by decide))
    refine wp_bd (s_X6_addNumber z5 p3 hz5_0 ) (fun z6 hz6 => ?_)
    obtain ⟨hz6_0, hz6_1⟩ := hz6
    have hkpz6_me_reader : Kp [4, 5, 6, 7, 8] [] o_me_reader z6 := hkpz5_me_reader.trans (hz6_1.mono (by decide) (by decide))
    refine wp_bd (s_X6_addNumber z6 p4 hz6_0 ) (fun z7 hz7 => ?_)
    obtain ⟨hz7_0, hz7_1⟩ := hz7
    have hkpz7_me_reader : Kp [4, 5, 6, 7, 8] [] o_me_reader z7 := hkpz6_me_reader.trans (hz7_1.mono (by decide) (by decide))
    have t8 := igX6_2 hz7_0
    refine wp_some ?_
    exact (show ((-1) ≤ (gI z7 2).toInt ∧ (gI z7 2).toInt ≤ 400) ∧ IvX6 z7 ∧ Kp [4, 5, 6, 7, 8] [] o_me_reader z7 from ⟨⟨by omega, by omega⟩, hz7_0, hkpz7_me_reader⟩)

set_option maxHeartbeats 4000000 in
set_option maxRecDepth 100000 in
theorem s_J7_fill_d0a16_AX7_8 (o_a0 : Ob) (p1 : Int64) (hI_a0 : IvX7 o_a0)  : wp (f_J7_fill_d0a16_AX7_8  o_a0 p1) (fun (y : Ob) => IvX7 y ∧ Kp [] [2, 3] o_a0 y) := by
  have li0 : (0 : Int32).toInt = 0 := by decide
  have li1 : (20 : Int32).toInt = 20 := by decide
  unfold f_J7_fill_d0a16_AX7_8
  have lp1 : ∀ (N1 : Nat) (v1_1 : Int64) (v3_1 : Int32) (v4_1 : Int32) (o_a0_1 : Ob), IvX7 o_a0_1 → Kp [] [2, 3] o_a0 o_a0_1 → (0 ≤ v3_1.toInt ∧ v3_1.toInt ≤ 20) → (20 ≤ v4_1.toInt ∧ v4_1.toInt ≤ 20) → (20 - v3_1.toInt).toNat < N1 → wp (lp_J7_fill_d0a16_AX7_8_6   N1 (v1_1, v3_1, v4_1, o_a0_1)) (fun (y : Ob) => IvX7 y ∧ Kp [] [2, 3] o_a0 y) := by
    intro N1
    induction N1 with
    | zero =>
      intro v1_1 v3_1 v4_1 o_a0_1 hI_a0_1 hkp_a0_1 hh1 hh2 hN1
      exact absurd hN1 (Nat.not_lt_zero _)
    | succ N1 ihx =>
      have ih1 := ihx
      intro v1_1 v3_1 v4_1 o_a0_1 hI_a0_1 hkp_a0_1 hh1 hh2 hN1
      show wp (lb_J7_fill_d0a16_AX7_8_6   (lp_J7_fill_d0a16_AX7_8_6   N1) v1_1 v3_1 v4_1 o_a0_1) (fun (y : Ob) => IvX7 y ∧ Kp [] [2, 3] o_a0 y)
      unfold lb_J7_fill_d0a16_AX7_8_6
      refine wp_if (fun c3 => ?_) (fun c3 => ?_)
      · have c3 := cv_ge (a := v3_1.toInt) (b := v4_1.toInt) rfl rfl c3
        refine wp_some ?_
        exact (show IvX7 o_a0_1 ∧ Kp [] [2, 3] o_a0 o_a0_1 from ⟨hI_a0_1, hkp_a0_1⟩)
      · have c3 := cv_nge (a := v3_1.toInt) (b := v4_1.toInt) rfl rfl c3
        refine wp_gd (zin_of (m := 20) rfl (by omega) (by omega)) ?_
        refine wp_lt (fun o4 eo4 => ?_)
        have hIo4 : IvX7 o4 := by rw [eo4]; exact hI_a0_1
        have hkpo4 : Kp [] [2, 3] o_a0 o4 := hkp_a0_1.trans (by rw [eo4]; exact Kp.tM)
        refine wp_lt (fun x5 ex5 => ?_)
        have tx5 : x5.toInt = v3_1.toInt + 1 := by rw [ex5]; exact i32_add rfl (by decide) (by omega) (by omega)
        exact ih1 v1_1 x5 v4_1 o4 hIo4 hkpo4 ⟨by omega, by omega⟩ ⟨by omega, by omega⟩ (by omega)
  exact lp1 zfu p1 (0 : Int32) (20 : Int32) o_a0 hI_a0 Kp.rf ⟨by decide, by decide⟩ ⟨by decide, by decide⟩ (by show _ < 100000; omega)

set_option maxHeartbeats 4000000 in
set_option maxRecDepth 100000 in
theorem s_X7_chanceOfFewer (o_me : Ob) (o_me_court_isles : Ob) (p0 : Int32) (p1 : Int32) (hI_me : IvX7 o_me) (hI_me_court_isles : IvX2 o_me_court_isles) (q0 : 1 ≤ p0.toInt ∧ p0.toInt ≤ 20) (q1 : 0 ≤ p1.toInt ∧ p1.toInt ≤ 99) : wp (f_X7_chanceOfFewer  o_me o_me_court_isles p0 p1) (fun (y : Int64 × Ob) => IvX7 y.2 ∧ Kp [] [2, 3] o_me y.2) := by
  have li0 : (0 : Int32).toInt = 0 := by decide
  have li1 : (0 : Int64).toInt = 0 := by decide
  have li2 : (1 : Int32).toInt = 1 := by decide
  have li3 : (10 : Int32).toInt = 10 := by decide
  have li4 : (10 : Int64).toInt = 10 := by decide
  have li5 : (1000000000000 : Int64).toInt = 1000000000000 := by decide
  have li6 : (20 : Int32).toInt = 20 := by decide
  unfold f_X7_chanceOfFewer
  refine wp_bd (s_J7_fill_d0a16_AX7_8 o_me (0 : Int64) hI_me ) (fun z1 hz1 => ?_)
  obtain ⟨hz1_0, hz1_1⟩ := hz1
  have hkpz1_me : Kp [] [2, 3] o_me z1 := Kp.rf.trans (hz1_1.mono (by decide) (by decide))
  refine wp_lt (fun o2 eo2 => ?_)
  have hIo2 : IvX7 o2 := by rw [eo2]; exact hz1_0
  have hkpo2 : Kp [] [2, 3] o_me o2 := hkpz1_me.trans (by rw [eo2]; exact Kp.tM)
  have t3 : 1 ≤ (if (20 : Int32) < p0 then (20 : Int32) else p0).toInt ∧ (if (20 : Int32) < p0 then (20 : Int32) else p0).toInt ≤ 20 := z_min (a := p0.toInt) (b := 20) rfl (by decide) (by omega) (by omega)
  refine wp_lt (fun x4 ex4 => ?_)
  have tx4 : x4.toInt = (if (20 : Int32) < p0 then (20 : Int32) else p0).toInt := by rw [ex4]
  have lp1 : ∀ (N1 : Nat) (v2_1 : Int32) (v3_1 : Int32) (v4_1 : Int32) (o_me_1 : Ob), IvX7 o_me_1 → Kp [] [2, 3] o_me o_me_1 → (0 ≤ v2_1.toInt ∧ v2_1.toInt ≤ 99) → (1 ≤ v3_1.toInt ∧ v3_1.toInt ≤ 20) → (0 ≤ v4_1.toInt ∧ v4_1.toInt ≤ 99) → (v4_1.toInt ≤ v2_1.toInt + 0) → (v2_1.toInt ≤ p1.toInt + 0) → (p1.toInt ≤ v2_1.toInt + 0) → (v3_1.toInt ≤ x4.toInt + 0) → (x4.toInt ≤ v3_1.toInt + 0) → (v4_1.toInt ≤ p1.toInt + 0) → (99 - v4_1.toInt).toNat < N1 → wp (lp_X7_chanceOfFewer_27 o_me_court_isles  N1 (v2_1, v3_1, v4_1, o_me_1)) (fun (y : Int64 × Ob) => IvX7 y.2 ∧ Kp [] [2, 3] o_me y.2) := by
    intro N1
    induction N1 with
    | zero =>
      intro v2_1 v3_1 v4_1 o_me_1 hI_me_1 hkp_me_1 hh5 hh6 hh7 hh8 hh9 hh10 hh11 hh12 hh13 hN1
      exact absurd hN1 (Nat.not_lt_zero _)
    | succ N1 ihx =>
      have ih1 := ihx
      intro v2_1 v3_1 v4_1 o_me_1 hI_me_1 hkp_me_1 hh5 hh6 hh7 hh8 hh9 hh10 hh11 hh12 hh13 hN1
      show wp (lb_X7_chanceOfFewer_27 o_me_court_isles  (lp_X7_chanceOfFewer_27 o_me_court_isles  N1) v2_1 v3_1 v4_1 o_me_1) (fun (y : Int64 × Ob) => IvX7 y.2 ∧ Kp [] [2, 3] o_me y.2)
      unfold lb_X7_chanceOfFewer_27
      refine wp_if (fun c14 => ?_) (fun c14 => ?_)
      · have c14 := cv_ge (a := v4_1.toInt) (b := v2_1.toInt) rfl rfl c14
        have lp2 : ∀ (N2 : Nat) (v3_2 : Int32) (v4_2 : Int64) (v6_2 : Int32) (o_me_2 : Ob), IvX7 o_me_2 → Kp [] [2, 3] o_me o_me_2 → (1 ≤ v3_2.toInt ∧ v3_2.toInt ≤ 20) → (0 ≤ v6_2.toInt ∧ v6_2.toInt ≤ 20) → (v6_2.toInt ≤ v3_2.toInt + 0) → (v3_2.toInt ≤ x4.toInt + 0) → (x4.toInt ≤ v3_2.toInt + 0) → (v3_2.toInt ≤ v3_1.toInt + 0) → (v3_1.toInt ≤ v3_2.toInt + 0) → (v6_2.toInt ≤ x4.toInt + 0) → (v6_2.toInt ≤ v3_1.toInt + 0) → (20 - v6_2.toInt).toNat < N2 → wp (lp_X7_chanceOfFewer_127 o_me_court_isles  N2 (v3_2, v4_2, v6_2, o_me_2)) (fun (y : Int64 × Ob) => IvX7 y.2 ∧ Kp [] [2, 3] o_me y.2) := by
          intro N2
          induction N2 with
          | zero =>
            intro v3_2 v4_2 v6_2 o_me_2 hI_me_2 hkp_me_2 hh15 hh16 hh17 hh18 hh19 hh20 hh21 hh22 hh23 hN2
            exact absurd hN2 (Nat.not_lt_zero _)
          | succ N2 ihx =>
            have ih2 := ihx
            intro v3_2 v4_2 v6_2 o_me_2 hI_me_2 hkp_me_2 hh15 hh16 hh17 hh18 hh19 hh20 hh21 hh22 hh23 hN2
            show wp (lb_X7_chanceOfFewer_127 o_me_court_isles  (lp_X7_chanceOfFewer_127 o_me_court_isles  N2) v3_2 v4_2 v6_2 o_me_2) (fun (y : Int64 × Ob) => IvX7 y.2 ∧ Kp [] [2, 3] o_me y.2)
            unfold lb_X7_chanceOfFewer_127
            refine wp_if (fun c24 => ?_) (fun c24 => ?_)
            · have c24 := cv_ge (a := v6_2.toInt) (b := v3_2.toInt) rfl rfl c24
              refine wp_some ?_
              exact (show IvX7 o_me_2 ∧ Kp [] [2, 3] o_me o_me_2 from ⟨hI_me_2, hkp_me_2⟩)
            · have c24 := cv_nge (a := v6_2.toInt) (b := v3_2.toInt) rfl rfl c24
              refine wp_gd (zin_of (m := 20) rfl (by omega) (by omega)) ?_
              refine wp_lt (fun x25 ex25 => ?_)
              have tx25 : x25.toInt = (v4_2 + (gM o_me_2 8 v6_2.toNatClampNeg)).toInt := by rw [ex25]
              refine wp_lt (fun x26 ex26 => ?_)
              have tx26 : x26.toInt = v6_2.toInt + 1 := by rw [ex26]; exact i32_add rfl (by decide) (by omega) (by omega)
              exact ih2 v3_2 x25 x26 o_me_2 hI_me_2 hkp_me_2 ⟨by omega, by omega⟩ ⟨by omega, by omega⟩ (by omega) (by omega) (by omega) (by omega) (by omega) (by omega) (by omega) (by omega)
        exact lp2 zfu v3_1 (0 : Int64) (0 : Int32) o_me_1 hI_me_1 hkp_me_1 ⟨by omega, by omega⟩ ⟨by decide, by decide⟩ (by omega) (by omega) (by omega) (by omega) (by omega) (by omega) (by omega) (by show _ < 100000; omega)
      · have c14 := cv_nge (a := v4_1.toInt) (b := v2_1.toInt) rfl rfl c14
        have t27 : (v3_1 - (1 : Int32)).toInt = v3_1.toInt - 1 := i32_sub rfl (by decide) (by omega) (by omega)
        refine wp_lt (fun x28 ex28 => ?_)
        have tx28 : x28.toInt = (v3_1 - (1 : Int32)).toInt := by rw [ex28]
        have lp3 : ∀ (N3 : Nat) (v2_3 : Int32) (v3_3 : Int32) (v4_3 : Int32) (v5_3 : Int32) (o_me_3 : Ob), IvX7 o_me_3 → Kp [] [2, 3] o_me o_me_3 → (1 ≤ v2_3.toInt ∧ v2_3.toInt ≤ 99) → (1 ≤ v3_3.toInt ∧ v3_3.toInt ≤ 20) → (0 ≤ v4_3.toInt ∧ v4_3.toInt ≤ 98) → ((-1) ≤ v5_3.toInt ∧ v5_3.toInt ≤ 19) → (v4_3.toInt ≤ v2_3.toInt + (-1)) → (v5_3.toInt ≤ v3_3.toInt + (-1)) → (v2_3.toInt ≤ v2_1.toInt + 0) → (v2_1.toInt ≤ v2_3.toInt + 0) → (v2_3.toInt ≤ p1.toInt + 0) → (p1.toInt ≤ v2_3.toInt + 0) → (v4_1.toInt ≤ v2_3.toInt + (-1)) → (v3_3.toInt ≤ x28.toInt + 1) → (x28.toInt ≤ v3_3.toInt + (-1)) → (v3_3.toInt ≤ x4.toInt + 0) → (x4.toInt ≤ v3_3.toInt + 0) → (v3_3.toInt ≤ v3_1.toInt + 0) → (v3_1.toInt ≤ v3_3.toInt + 0) → (v4_3.toInt ≤ v2_1.toInt + (-1)) → (v4_3.toInt ≤ p1.toInt + (-1)) → (v4_3.toInt ≤ v4_1.toInt + 0) → (v4_1.toInt ≤ v4_3.toInt + 0) → (v5_3.toInt ≤ x28.toInt + 0) → (v5_3.toInt ≤ x4.toInt + (-1)) → (v5_3.toInt ≤ v3_1.toInt + (-1)) → (v5_3.toInt - (-1)).toNat < N3 → wp (lp_X7_chanceOfFewer_38 o_me_court_isles (lp_X7_chanceOfFewer_27 o_me_court_isles  N1) N3 (v2_3, v3_3, v4_3, v5_3, o_me_3)) (fun (y : Int64 × Ob) => IvX7 y.2 ∧ Kp [] [2, 3] o_me y.2) := by
          intro N3
          induction N3 with
          | zero =>
            intro v2_3 v3_3 v4_3 v5_3 o_me_3 hI_me_3 hkp_me_3 hh29 hh30 hh31 hh32 hh33 hh34 hh35 hh36 hh37 hh38 hh39 hh40 hh41 hh42 hh43 hh44 hh45 hh46 hh47 hh48 hh49 hh50 hh51 hh52 hN3
            exact absurd hN3 (Nat.not_lt_zero _)
          | succ N3 ihx =>
            have ih3 := ihx
            intro v2_3 v3_3 v4_3 v5_3 o_me_3 hI_me_3 hkp_me_3 hh29 hh30 hh31 hh32 hh33 hh34 hh35 hh36 hh37 hh38 hh39 hh40 hh41 hh42 hh43 hh44 hh45 hh46 hh47 hh48 hh49 hh50 hh51 hh52 hN3
            show wp (lb_X7_chanceOfFewer_38 o_me_court_isles (lp_X7_chanceOfFewer_27 o_me_court_isles  N1) (lp_X7_chanceOfFewer_38 o_me_court_isles (lp_X7_chanceOfFewer_27 o_me_court_isles  N1) N3) v2_3 v3_3 v4_3 v5_3 o_me_3) (fun (y : Int64 × Ob) => IvX7 y.2 ∧ Kp [] [2, 3] o_me y.2)
            unfold lb_X7_chanceOfFewer_38
            refine wp_if (fun c53 => ?_) (fun c53 => ?_)
            · have c53 := cv_lt (a := v5_3.toInt) (b := 0) rfl (by decide) c53
              refine wp_lt (fun x54 ex54 => ?_)
              have tx54 : x54.toInt = v4_3.toInt + 1 := by rw [ex54]; exact i32_add rfl (by decide) (by omega) (by omega)
              exact ih1 v2_3 v3_3 x54 o_me_3 hI_me_3 hkp_me_3 ⟨by omega, by omega⟩ ⟨by omega, by omega⟩ ⟨by omega, by omega⟩ (by omega) (by omega) (by omega) (by omega) (by omega) (by omega) (by omega)
            · have c53 := cv_nlt (a := v5_3.toInt) (b := 0) rfl (by decide) c53
              refine wp_if (fun c55 => ?_) (fun c55 => ?_)
              · have c55 := cv_le (a := v5_3.toInt) (b := 0) rfl (by decide) c55
                obtain ⟨w56, ew56⟩ : ∃ z : Int64, z = (0 : Int64) := ⟨_, rfl⟩
                have tw56 : w56.toInt = 0 := by rw [ew56]; decide
                rw [show bk_X7_chanceOfFewer_74 o_me_court_isles (lp_X7_chanceOfFewer_27 o_me_court_isles  N1) (lp_X7_chanceOfFewer_38 o_me_court_isles (lp_X7_chanceOfFewer_27 o_me_court_isles  N1) N3) v2_3 v3_3 v4_3 v5_3 (0 : Int64) o_me_3 = bk_X7_chanceOfFewer_74 o_me_court_isles (lp_X7_chanceOfFewer_27 o_me_court_isles  N1) (lp_X7_chanceOfFewer_38 o_me_court_isles (lp_X7_chanceOfFewer_27 o_me_court_isles  N1) N3) v2_3 v3_3 v4_3 v5_3 w56 o_me_3 from by rw [ew56]]
                unfold bk_X7_chanceOfFewer_74
                refine wp_gd (zin_of (m := 20) rfl (by omega) (by omega)) ?_
                have rg57 := i32_rg ((10 : Int32) - (gI o_me_court_isles 11))
                have t58 : (((10 : Int32) - (gI o_me_court_isles 11)).toInt64).toInt = ((10 : Int32) - (gI o_me_court_isles 11)).toInt := Int32.toInt_toInt64 _
                refine wp_gd (zin_of (m := 20) rfl (by omega) (by omega)) ?_
                refine wp_lt (fun o59 eo59 => ?_)
                have hIo59 : IvX7 o59 := by rw [eo59]; exact hI_me_3
                have hkpo59 : Kp [] [2, 3] o_me o59 := hkp_me_3.trans (by rw [eo59]; exact Kp.tM)
                refine wp_lt (fun x60 ex60 => ?_)
                have tx60 : x60.toInt = v5_3.toInt + (-1) := by rw [ex60]; exact i32_add rfl (by decide) (by omega) (by omega)
                exact ih3 v2_3 v3_3 v4_3 x60 o59 hIo59 hkpo59 ⟨by omega, by omega⟩ ⟨by omega, by omega⟩ ⟨by omega, by omega⟩ ⟨by omega, by omega⟩ (by omega) (by omega) (by omega) (by omega) (by omega) (by omega) (by omega) (by omega) (by omega) (by omega) (by omega) (by omega) (by omega) (by omega) (by omega) (by omega) (by omega) (by omega) (by omega) (by omega) (by omega)
              · have c55 := cv_nle (a := v5_3.toInt) (b := 0) rfl (by decide) c55
                have t61 : (v5_3 - (1 : Int32)).toInt = v5_3.toInt - 1 := i32_sub rfl (by decide) (by omega) (by omega)
                refine wp_gd (zin_of (m := 20) rfl (by omega) (by omega)) ?_
                have rg62 := i32_rg (gI o_me_court_isles 11)
                have t63 : ((gI o_me_court_isles 11).toInt64).toInt = (gI o_me_court_isles 11).toInt := Int32.toInt_toInt64 _
                obtain ⟨w64, ew64⟩ : ∃ z : Int64, z = ((gM o_me_3 8 (v5_3 - (1 : Int32)).toNatClampNeg) * ((gI o_me_court_isles 11).toInt64)) / (10 : Int64) := ⟨_, rfl⟩
                have tw64 : w64.toInt = (((gM o_me_3 8 (v5_3 - (1 : Int32)).toNatClampNeg) * ((gI o_me_court_isles 11).toInt64)) / (10 : Int64)).toInt := by rw [ew64]
                rw [show bk_X7_chanceOfFewer_74 o_me_court_isles (lp_X7_chanceOfFewer_27 o_me_court_isles  N1) (lp_X7_chanceOfFewer_38 o_me_court_isles (lp_X7_chanceOfFewer_27 o_me_court_isles  N1) N3) v2_3 v3_3 v4_3 v5_3 (((gM o_me_3 8 (v5_3 - (1 : Int32)).toNatClampNeg) * ((gI o_me_court_isles 11).toInt64)) / (10 : Int64)) o_me_3 = bk_X7_chanceOfFewer_74 o_me_court_isles (lp_X7_chanceOfFewer_27 o_me_court_isles  N1) (lp_X7_chanceOfFewer_38 o_me_court_isles (lp_X7_chanceOfFewer_27 o_me_court_isles  N1) N3) v2_3 v3_3 v4_3 v5_3 w64 o_me_3 from by rw [ew64]]
                unfold bk_X7_chanceOfFewer_74
                refine wp_gd (zin_of (m := 20) rfl (by omega) (by omega)) ?_
                have rg65 := i32_rg ((10 : Int32) - (gI o_me_court_isles 11))
                have t66 : (((10 : Int32) - (gI o_me_court_isles 11)).toInt64).toInt = ((10 : Int32) - (gI o_me_court_isles 11)).toInt := Int32.toInt_toInt64 _
                refine wp_gd (zin_of (m := 20) rfl (by omega) (by omega)) ?_
                refine wp_lt (fun o67 eo67 => ?_)
                have hIo67 : IvX7 o67 := by rw [eo67]; exact hI_me_3
                have hkpo67 : Kp [] [2, 3] o_me o67 := hkp_me_3.trans (by rw [eo67]; exact Kp.tM)
                refine wp_lt (fun x68 ex68 => ?_)
                have tx68 : x68.toInt = v5_3.toInt + (-1) := by rw [ex68]; exact i32_add rfl (by decide) (by omega) (by omega)
                exact ih3 v2_3 v3_3 v4_3 x68 o67 hIo67 hkpo67 ⟨by omega, by omega⟩ ⟨by omega, by omega⟩ ⟨by omega, by omega⟩ ⟨by omega, by omega⟩ (by omega) (by omega) (by omega) (by omega) (by omega) (by omega) (by omega) (by omega) (by omega) (by omega) (by omega) (by omega) (by omega) (by omega) (by omega) (by omega) (by omega) (by omega) (by omega) (by omega) (by omega)
        exact lp3 zfu v2_1 v3_1 v4_1 x28 o_me_1 hI_me_1 hkp_me_1 ⟨by omega, by omega⟩ ⟨by omega, by omega⟩ ⟨by omega, by omega⟩ ⟨by omega, by omega⟩ (by omega) (by omega) (by omega) (by omega) (by omega) (by omega) (by omega) (by omega) (by omega) (by omega) (by omega) (by omega) (by omega) (by omega) (by omega) (by omega) (by omega) (by omega) (by omega) (by omega) (by show _ < 100000; omega)
  exact lp1 zfu p1 x4 (0 : Int32) o2 hIo2 hkpo2 ⟨by omega, by omega⟩ ⟨by omega, by omega⟩ ⟨by decide, by decide⟩ (by omega) (by omega) (by omega) (by omega) (by omega) (by omega) (by show _ < 100000; omega)

set_option maxHeartbeats 4000000 in
set_option maxRecDepth 100000 in
theorem s_X8_few (o_me : Ob) (o_me_isles : Ob) (o_me_study : Ob) (p0 : Int32) (p1 : Int32) (hI_me : IvX8 o_me) (hI_me_isles : IvX2 o_me_isles) (hI_me_study : IvX7 o_me_study)  : wp (f_X8_few  o_me o_me_isles o_me_study p0 p1) (fun (y : Int64 × Ob) => IvX7 y.2 ∧ Kp [] [2, 3] o_me_study y.2) := by
  have li0 : (-1 : Int64).toInt = (-1) := by decide
  have li1 : (1 : Int32).toInt = 1 := by decide
  have li2 : (20 : Int32).toInt = 20 := by decide
  have li3 : (99 : Int32).toInt = 99 := by decide
  unfold f_X8_few
  refine wp_if (fun c1 => ?_) (fun c1 => ?_)
  · have c1 := cv_lt (a := p0.toInt) (b := 1) rfl (by decide) c1
    refine wp_some ?_
    exact (show IvX7 o_me_study ∧ Kp [] [2, 3] o_me_study o_me_study from ⟨hI_me_study, Kp.rf⟩)
  · have c1 := cv_nlt (a := p0.toInt) (b := 1) rfl (by decide) c1
    refine wp_if (fun c2 => ?_) (fun c2 => ?_)
    · have c2 := cv_gt (a := p0.toInt) (b := 20) rfl (by decide) c2
      refine wp_some ?_
      exact (show IvX7 o_me_study ∧ Kp [] [2, 3] o_me_study o_me_study from ⟨hI_me_study, Kp.rf⟩)
    · have c2 := cv_ngt (a := p0.toInt) (b := 20) rfl (by decide) c2
      refine wp_if (fun c3 => ?_) (fun c3 => ?_)
      · have c3 := cv_lt (a := p1.toInt) (b := 0) rfl (by decide) c3
        refine wp_some ?_
        exact (show IvX7 o_me_study ∧ Kp [] [2, 3] o_me_study o_me_study from ⟨hI_me_study, Kp.rf⟩)
      · have c3 := cv_nlt (a := p1.toInt) (b := 0) rfl (by decide) c3
        refine wp_if (fun c4 => ?_) (fun c4 => ?_)
        · have c4 := cv_le (a := p1.toInt) (b := 99) rfl (by decide) c4
          refine wp_bd (s_X7_chanceOfFewer o_me_study o_me_isles p0 p1 hI_me_study hI_me_isles ⟨by omega, by omega⟩ ⟨by omega, by omega⟩) (fun z5 hz5 => ?_)
          obtain ⟨hz5_0, hz5_1⟩ := hz5
          have hkpz5_me_study : Kp [] [2, 3] o_me_study z5.2 := Kp.rf.trans (hz5_1.mono (by decide) (by decide))
          refine wp_some ?_
          exact (show IvX7 z5.2 ∧ Kp [] [2, 3] o_me_study z5.2 from ⟨hz5_0, hkpz5_me_study⟩)
        · have c4 := cv_nle (a := p1.toInt) (b := 99) rfl (by decide) c4
          refine wp_some ?_
          exact (show IvX7 o_me_study ∧ Kp [] [2, 3] o_me_study o_me_study from ⟨hI_me_study, Kp.rf⟩)

set_option maxHeartbeats 4000000 in
set_option maxRecDepth 100000 in
theorem s_X8_force (o_me : Ob) (o_me_isles : Ob) (p0 : Int32) (hI_me : IvX8 o_me) (hI_me_isles : IvX2 o_me_isles)  : wp (f_X8_force  o_me o_me_isles p0) (fun (y : Int32 × Ob × Ob) => IvX8 y.2.1 ∧ Kp [] [] o_me y.2.1 ∧ IvX2 y.2.2 ∧ Kp [7, 8, 9] [4] o_me_isles y.2.2) := by
  have li0 : (-1 : Int32).toInt = (-1) := by decide
  have li1 : (-2 : Int32).toInt = (-2) := by decide
  unfold f_X8_force
  refine wp_if (fun c1 => ?_) (fun c1 => ?_)
  · have c1 := cv_eq (a := p0.toInt) (b := (-1)) rfl (by decide) c1
    unfold bk_X8_force_23
    have t2 := igX2_10 hI_me_isles
    refine wp_lt (fun x3 ex3 => ?_)
    have tx3 : x3.toInt = (gI o_me_isles 10).toInt := by rw [ex3]
    refine wp_lt (fun o4 eo4 => ?_)
    have hIo4 : IvX2 o4 := by rw [eo4]; exact ipX2_10 hI_me_isles ⟨by omega, by omega⟩
    have ko4_v : (gI o4 10).toInt = p0.toInt := by rw [eo4]; rfl
    have hkpo4 : Kp [7, 8, 9] [4] o_me_isles o4 := Kp.rf.trans (by rw [eo4]; exact Kp.sI (by decide))
    refine wp_bd (s_X8_grant o_me x3 hI_me ) (fun z5 hz5 => ?_)
    obtain ⟨hz5_0, hz5_1⟩ := hz5
    have hkpz5_me : Kp [] [] o_me z5.2 := Kp.rf.trans (hz5_1.mono (by decide) (by decide))
    refine wp_some ?_
    exact (show IvX8 z5.2 ∧ Kp [] [] o_me z5.2 ∧ IvX2 o4 ∧ Kp [7, 8, 9] [4] o_me_isles o4 from ⟨hz5_0, hkpz5_me, hIo4, hkpo4⟩)
  · have c1 := cv_ne (a := p0.toInt) (b := (-1)) rfl (by decide) c1
    refine wp_bd (s_X2_isLaw o_me_isles p0 hI_me_isles ) (fun z6 hz6 => ?_)
    obtain ⟨hz6_0, hz6_1⟩ := hz6
    refine wp_if (fun c7 => ?_) (fun c7 => ?_)
    · have c7 := cv_eq (a := z6.toInt) (b := 0) rfl (by decide) c7
      refine wp_bd (s_X8_refuse o_me (-2 : Int32) hI_me ) (fun z8 hz8 => ?_)
      obtain ⟨hz8_0, hz8_1⟩ := hz8
      have hkpz8_me : Kp [] [] o_me z8.2 := Kp.rf.trans (hz8_1.mono (by decide) (by decide))
      refine wp_some ?_
      exact (show IvX8 z8.2 ∧ Kp [] [] o_me z8.2 ∧ IvX2 o_me_isles ∧ Kp [7, 8, 9] [4] o_me_isles o_me_isles from ⟨hz8_0, hkpz8_me, hI_me_isles, Kp.rf⟩)
    · have c7z := c7
      have c7i := hz6_1 c7
      have c7 := cv_ne (a := z6.toInt) (b := 0) rfl (by decide) c7
      unfold bk_X8_force_23
      have t9 := igX2_10 hI_me_isles
      refine wp_lt (fun x10 ex10 => ?_)
      have tx10 : x10.toInt = (gI o_me_isles 10).toInt := by rw [ex10]
      refine wp_lt (fun o11 eo11 => ?_)
      have hIo11 : IvX2 o11 := by rw [eo11]; exact ipX2_10 hI_me_isles ⟨by omega, by omega⟩
      have ko11_k12 : (gI o11 9).toInt = (gI o_me_isles 9).toInt := by rw [eo11]; rfl
      have ko11_v : (gI o11 10).toInt = p0.toInt := by rw [eo11]; rfl
      have hkpo11 : Kp [7, 8, 9] [4] o_me_isles o11 := Kp.rf.trans (by rw [eo11]; exact Kp.sI (by decide))
      refine wp_bd (s_X8_grant o_me x10 hI_me ) (fun z13 hz13 => ?_)
      obtain ⟨hz13_0, hz13_1⟩ := hz13
      have hkpz13_me : Kp [] [] o_me z13.2 := Kp.rf.trans (hz13_1.mono (by decide) (by decide))
      refine wp_some ?_
      exact (show IvX8 z13.2 ∧ Kp [] [] o_me z13.2 ∧ IvX2 o11 ∧ Kp [7, 8, 9] [4] o_me_isles o11 from ⟨hz13_0, hkpz13_me, hIo11, hkpo11⟩)

set_option maxHeartbeats 4000000 in
set_option maxRecDepth 100000 in
theorem s_X8_forget (o_me : Ob) (o_me_isles : Ob) (hI_me : IvX8 o_me) (hI_me_isles : IvX2 o_me_isles)  : wp (f_X8_forget  o_me o_me_isles) (fun (y : Int32 × Ob) => (0 ≤ y.1.toInt ∧ y.1.toInt ≤ 6) ∧ IvX2 y.2 ∧ Kp [7, 9, 10] [4] o_me_isles y.2) := by
  have li0 : (0 : Int32).toInt = 0 := by decide
  unfold f_X8_forget
  have t1 := igX2_8 hI_me_isles
  refine wp_lt (fun x2 ex2 => ?_)
  have tx2 : x2.toInt = (gI o_me_isles 8).toInt := by rw [ex2]
  refine wp_lt (fun o3 eo3 => ?_)
  have hIo3 : IvX2 o3 := by rw [eo3]; exact ipX2_8 hI_me_isles ⟨by decide, by decide⟩
  have ko3_v : (gI o3 8).toInt = 0 := by rw [eo3]; exact (show ((0 : Int32)).toInt = _ from by decide)
  have hkpo3 : Kp [7, 9, 10] [4] o_me_isles o3 := Kp.rf.trans (by rw [eo3]; exact Kp.sI (by decide))
  refine wp_some ?_
  exact (show (0 ≤ x2.toInt ∧ x2.toInt ≤ 6) ∧ IvX2 o3 ∧ Kp [7, 9, 10] [4] o_me_isles o3 from ⟨⟨by omega, by omega⟩, hIo3, hkpo3⟩)

set_option maxHeartbeats 4000000 in
set_option maxRecDepth 100000 in
theorem s_X7_awaitChildren (o_me : Ob) (o_me_court_isles : Ob) (p0 : Int32) (p1 : Int32) (hI_me : IvX7 o_me) (hI_me_court_isles : IvX2 o_me_court_isles) (q0 : (-1) ≤ p0.toInt ∧ p0.toInt ≤ 6) (q1 : 0 ≤ p1.toInt ∧ p1.toInt ≤ 7) : wp (f_X7_awaitChildren  o_me o_me_court_isles p0 p1) (fun (y : Int32 × Ob) => (0 ≤ y.1.toInt ∧ y.1.toInt ≤ 7) ∧ IvX7 y.2 ∧ Kp [] [2] o_me y.2) := by
  have li0 : (1 : Int32).toInt = 1 := by decide
  have li1 : (7 : Int32).toInt = 7 := by decide
  unfold f_X7_awaitChildren
  have t1 := igX2_7 hI_me_court_isles
  have t2 : ((gI o_me_court_isles 7) - (1 : Int32)).toInt = (gI o_me_court_isles 7).toInt - 1 := i32_sub rfl (by decide) (by omega) (by omega)
  refine wp_lt (fun x3 ex3 => ?_)
  have tx3 : x3.toInt = ((gI o_me_court_isles 7) - (1 : Int32)).toInt := by rw [ex3]
  have lp1 : ∀ (N1 : Nat) (v1_1 : Int32) (v3_1 : Int32) (v4_1 : Int32) (o_me_1 : Ob), IvX7 o_me_1 → Kp [] [2] o_me o_me_1 → ((-1) ≤ v1_1.toInt ∧ v1_1.toInt ≤ 6) → (0 ≤ v3_1.toInt ∧ v3_1.toInt ≤ 7) → ((-1) ≤ v4_1.toInt ∧ v4_1.toInt ≤ 6) → (v1_1.toInt ≤ p0.toInt + 0) → (p0.toInt ≤ v1_1.toInt + 0) → (p1.toInt ≤ v3_1.toInt + 0) → (v4_1.toInt ≤ x3.toInt + 0) → (v4_1.toInt ≤ (gI o_me_court_isles 7).toInt + (-1)) → (v4_1.toInt - (-1)).toNat < N1 → wp (lp_X7_awaitChildren_13 o_me_court_isles  N1 (v1_1, v3_1, v4_1, o_me_1)) (fun (y : Int32 × Ob) => (0 ≤ y.1.toInt ∧ y.1.toInt ≤ 7) ∧ IvX7 y.2 ∧ Kp [] [2] o_me y.2) := by
    intro N1
    induction N1 with
    | zero =>
      intro v1_1 v3_1 v4_1 o_me_1 hI_me_1 hkp_me_1 hh4 hh5 hh6 hh7 hh8 hh9 hh10 hh11 hN1
      exact absurd hN1 (Nat.not_lt_zero _)
    | succ N1 ihx =>
      have ih1 := ihx
      intro v1_1 v3_1 v4_1 o_me_1 hI_me_1 hkp_me_1 hh4 hh5 hh6 hh7 hh8 hh9 hh10 hh11 hN1
      show wp (lb_X7_awaitChildren_13 o_me_court_isles  (lp_X7_awaitChildren_13 o_me_court_isles  N1) v1_1 v3_1 v4_1 o_me_1) (fun (y : Int32 × Ob) => (0 ≤ y.1.toInt ∧ y.1.toInt ≤ 7) ∧ IvX7 y.2 ∧ Kp [] [2] o_me y.2)
      unfold lb_X7_awaitChildren_13
      refine wp_if (fun c12 => ?_) (fun c12 => ?_)
      · have c12 := cv_lt (a := v4_1.toInt) (b := 0) rfl (by decide) c12
        refine wp_some ?_
        exact (show (0 ≤ v3_1.toInt ∧ v3_1.toInt ≤ 7) ∧ IvX7 o_me_1 ∧ Kp [] [2] o_me o_me_1 from ⟨⟨by omega, by omega⟩, hI_me_1, hkp_me_1⟩)
      · have c12 := cv_nlt (a := v4_1.toInt) (b := 0) rfl (by decide) c12
        refine wp_gd (zin_of (m := 7) rfl (by omega) (by omega)) ?_
        refine wp_if (fun c13 => ?_) (fun c13 => ?_)
        · have c13 := cv_eq (a := (gA o_me_court_isles 1 v4_1.toNatClampNeg).toInt) (b := v1_1.toInt) rfl rfl c13
          refine wp_if (fun c14 => ?_) (fun c14 => ?_)
          · have c14 := cv_ge (a := v3_1.toInt) (b := 7) rfl (by decide) c14
            unfold bk_X7_awaitChildren_49
            refine wp_lt (fun x15 ex15 => ?_)
            have tx15 : x15.toInt = v4_1.toInt + (-1) := by rw [ex15]; exact i32_add rfl (by decide) (by omega) (by omega)
            exact ih1 v1_1 v3_1 x15 o_me_1 hI_me_1 hkp_me_1 ⟨by omega, by omega⟩ ⟨by omega, by omega⟩ ⟨by omega, by omega⟩ (by omega) (by omega) (by omega) (by omega) (by omega) (by omega)
          · have c14 := cv_nge (a := v3_1.toInt) (b := 7) rfl (by decide) c14
            refine wp_gd (zin_of (m := 7) rfl (by omega) (by omega)) ?_
            refine wp_lt (fun o16 eo16 => ?_)
            have hIo16 : IvX7 o16 := by rw [eo16]; exact ibX7_3 hI_me_1 (by omega) (Or.inr (Or.inr ⟨by omega, by omega⟩))
            have ko16_v : (gA o16 3 v3_1.toNatClampNeg).toInt = v4_1.toInt := by rw [eo16]; exact congrArg Int32.toInt (upd_eq (g := gA o_me_1 3) (i := v3_1) (v := v4_1))
            have hkpo16 : Kp [] [2] o_me o16 := hkp_me_1.trans (by rw [eo16]; exact Kp.tA (by decide))
            refine wp_lt (fun x17 ex17 => ?_)
            have tx17 : x17.toInt = v3_1.toInt + 1 := by rw [ex17]; exact i32_add rfl (by decide) (by omega) (by omega)
            unfold bk_X7_awaitChildren_49
            refine wp_lt (fun x18 ex18 => ?_)
            have tx18 : x18.toInt = v4_1.toInt + (-1) := by rw [ex18]; exact i32_add rfl (by decide) (by omega) (by omega)
            exact ih1 v1_1 x17 x18 o16 hIo16 hkpo16 ⟨by omega, by omega⟩ ⟨by omega, by omega⟩ ⟨by omega, by omega⟩ (by omega) (by omega) (by omega) (by omega) (by omega) (by omega)
        · have c13 := cv_ne (a := (gA o_me_court_isles 1 v4_1.toNatClampNeg).toInt) (b := v1_1.toInt) rfl rfl c13
          unfold bk_X7_awaitChildren_49
          refine wp_lt (fun x19 ex19 => ?_)
          have tx19 : x19.toInt = v4_1.toInt + (-1) := by rw [ex19]; exact i32_add rfl (by decide) (by omega) (by omega)
          exact ih1 v1_1 v3_1 x19 o_me_1 hI_me_1 hkp_me_1 ⟨by omega, by omega⟩ ⟨by omega, by omega⟩ ⟨by omega, by omega⟩ (by omega) (by omega) (by omega) (by omega) (by omega) (by omega)
  exact lp1 zfu p0 p1 x3 o_me hI_me Kp.rf ⟨by omega, by omega⟩ ⟨by omega, by omega⟩ ⟨by omega, by omega⟩ (by omega) (by omega) (by omega) (by omega) (by omega) (by show _ < 100000; omega)

set_option maxHeartbeats 4000000 in
set_option maxRecDepth 100000 in
theorem s_X7_elders (o_me : Ob) (o_me_court_isles : Ob) (p0 : Int32) (hI_me : IvX7 o_me) (hI_me_court_isles : IvX2 o_me_court_isles) (q0 : 0 ≤ p0.toInt ∧ p0.toInt ≤ 6) : wp (f_X7_elders  o_me o_me_court_isles p0) (fun (y : Int32) => (0 ≤ y.toInt ∧ y.toInt ≤ 7)) := by
  have li0 : (0 : Int32).toInt = 0 := by decide
  unfold f_X7_elders
  have lp1 : ∀ (N1 : Nat) (v1_1 : Int32) (v2_1 : Int32) (v3_1 : Int32), (0 ≤ v1_1.toInt ∧ v1_1.toInt ≤ 6) → (0 ≤ v2_1.toInt ∧ v2_1.toInt ≤ 7) → (0 ≤ v3_1.toInt ∧ v3_1.toInt ≤ 6) → (v2_1.toInt ≤ v1_1.toInt + 1) → (v2_1.toInt ≤ v3_1.toInt + 1) → (v3_1.toInt ≤ v1_1.toInt + 0) → (v1_1.toInt ≤ p0.toInt + 0) → (p0.toInt ≤ v1_1.toInt + 0) → (v3_1.toInt ≤ p0.toInt + 0) → (6 - v3_1.toInt).toNat < N1 → wp (lp_X7_elders_4 o_me o_me_court_isles  N1 (v1_1, v2_1, v3_1)) (fun (y : Int32) => (0 ≤ y.toInt ∧ y.toInt ≤ 7)) := by
    intro N1
    induction N1 with
    | zero =>
      intro v1_1 v2_1 v3_1 hh1 hh2 hh3 hh4 hh5 hh6 hh7 hh8 hh9 hN1
      exact absurd hN1 (Nat.not_lt_zero _)
    | succ N1 ihx =>
      have ih1 := ihx
      intro v1_1 v2_1 v3_1 hh1 hh2 hh3 hh4 hh5 hh6 hh7 hh8 hh9 hN1
      show wp (lb_X7_elders_4 o_me o_me_court_isles  (lp_X7_elders_4 o_me o_me_court_isles  N1) v1_1 v2_1 v3_1) (fun (y : Int32) => (0 ≤ y.toInt ∧ y.toInt ≤ 7))
      unfold lb_X7_elders_4
      refine wp_if (fun c10 => ?_) (fun c10 => ?_)
      · have c10 := cv_ge (a := v3_1.toInt) (b := v1_1.toInt) rfl rfl c10
        refine wp_some ?_
        exact (show (0 ≤ v2_1.toInt ∧ v2_1.toInt ≤ 7) from ⟨by omega, by omega⟩)
      · have c10 := cv_nge (a := v3_1.toInt) (b := v1_1.toInt) rfl rfl c10
        refine wp_gd (zin_of (m := 7) rfl (by omega) (by omega)) ?_
        refine wp_gd (zin_of (m := 7) rfl (by omega) (by omega)) ?_
        refine wp_if (fun c11 => ?_) (fun c11 => ?_)
        · have c11 := cv_eq (a := (gA o_me_court_isles 1 v3_1.toNatClampNeg).toInt) (b := (gA o_me_court_isles 1 v1_1.toNatClampNeg).toInt) rfl rfl c11
          refine wp_lt (fun x12 ex12 => ?_)
          have tx12 : x12.toInt = v2_1.toInt + 1 := by rw [ex12]; exact i32_add rfl (by decide) (by omega) (by omega)
          unfold bk_X7_elders_33
          refine wp_lt (fun x13 ex13 => ?_)
          have tx13 : x13.toInt = v3_1.toInt + 1 := by rw [ex13]; exact i32_add rfl (by decide) (by omega) (by omega)
          exact ih1 v1_1 x12 x13  ⟨by omega, by omega⟩ ⟨by omega, by omega⟩ ⟨by omega, by omega⟩ (by omega) (by omega) (by omega) (by omega) (by omega) (by omega) (by omega)
        · have c11 := cv_ne (a := (gA o_me_court_isles 1 v3_1.toNatClampNeg).toInt) (b := (gA o_me_court_isles 1 v1_1.toNatClampNeg).toInt) rfl rfl c11
          unfold bk_X7_elders_33
          refine wp_lt (fun x14 ex14 => ?_)
          have tx14 : x14.toInt = v3_1.toInt + 1 := by rw [ex14]; exact i32_add rfl (by decide) (by omega) (by omega)
          exact ih1 v1_1 v2_1 x14  ⟨by omega, by omega⟩ ⟨by omega, by omega⟩ ⟨by omega, by omega⟩ (by omega) (by omega) (by omega) (by omega) (by omega) (by omega) (by omega)
  exact lp1 zfu p0 (0 : Int32) (0 : Int32)  ⟨by omega, by omega⟩ ⟨by decide, by decide⟩ ⟨by decide, by decide⟩ (by omega) (by omega) (by omega) (by omega) (by omega) (by omega) (by show _ < 100000; omega)

set_option maxHeartbeats 4000000 in
set_option maxRecDepth 100000 in
theorem s_X7_waysUp (o_me : Ob) (p0 : Int32) (p1 : Int32) (hI_me : IvX7 o_me) (q0 : 1 ≤ p0.toInt ∧ p0.toInt ≤ 60) (q1 : 1 ≤ p1.toInt ∧ p1.toInt ≤ 5) : wp (f_X7_waysUp  o_me p0 p1) (fun (y : Int64 × Ob) => IvX7 y.2 ∧ Kp [] [2, 3] o_me y.2) := by
  have li0 : (0 : Int32).toInt = 0 := by decide
  have li1 : (0 : Int64).toInt = 0 := by decide
  have li2 : (1 : Int32).toInt = 1 := by decide
  have li3 : (1 : Int64).toInt = 1 := by decide
  have li4 : (2 : Int32).toInt = 2 := by decide
  have li5 : (60 : Int32).toInt = 60 := by decide
  unfold f_X7_waysUp
  refine wp_lt (fun o1 eo1 => ?_)
  have hIo1 : IvX7 o1 := by rw [eo1]; exact hI_me
  have hkpo1 : Kp [] [2, 3] o_me o1 := Kp.rf.trans (by rw [eo1]; exact Kp.tM)
  have lp1 : ∀ (N1 : Nat) (v1_1 : Int32) (v2_1 : Int32) (v3_1 : Int32) (o_me_1 : Ob), IvX7 o_me_1 → Kp [] [2, 3] o_me o_me_1 → (1 ≤ v1_1.toInt ∧ v1_1.toInt ≤ 60) → (1 ≤ v2_1.toInt ∧ v2_1.toInt ≤ 5) → (1 ≤ v3_1.toInt ∧ v3_1.toInt ≤ 61) → (v3_1.toInt ≤ v1_1.toInt + 1) → (v1_1.toInt ≤ p0.toInt + 0) → (p0.toInt ≤ v1_1.toInt + 0) → (v2_1.toInt ≤ p1.toInt + 0) → (p1.toInt ≤ v2_1.toInt + 0) → (61 - v3_1.toInt).toNat < N1 → wp (lp_X7_waysUp_9   N1 (v1_1, v2_1, v3_1, o_me_1)) (fun (y : Int64 × Ob) => IvX7 y.2 ∧ Kp [] [2, 3] o_me y.2) := by
    intro N1
    induction N1 with
    | zero =>
      intro v1_1 v2_1 v3_1 o_me_1 hI_me_1 hkp_me_1 hh2 hh3 hh4 hh5 hh6 hh7 hh8 hh9 hN1
      exact absurd hN1 (Nat.not_lt_zero _)
    | succ N1 ihx =>
      have ih1 := ihx
      intro v1_1 v2_1 v3_1 o_me_1 hI_me_1 hkp_me_1 hh2 hh3 hh4 hh5 hh6 hh7 hh8 hh9 hN1
      show wp (lb_X7_waysUp_9   (lp_X7_waysUp_9   N1) v1_1 v2_1 v3_1 o_me_1) (fun (y : Int64 × Ob) => IvX7 y.2 ∧ Kp [] [2, 3] o_me y.2)
      unfold lb_X7_waysUp_9
      refine wp_if (fun c10 => ?_) (fun c10 => ?_)
      · have c10 := cv_gt (a := v3_1.toInt) (b := v1_1.toInt) rfl rfl c10
        unfold bk_X7_waysUp_77
        refine wp_if (fun c11 => ?_) (fun c11 => ?_)
        · have c11 := cv_lt (a := v1_1.toInt) (b := 0) rfl (by decide) c11
          exfalso; omega
        · have c11 := cv_nlt (a := v1_1.toInt) (b := 0) rfl (by decide) c11
          refine wp_if (fun c12 => ?_) (fun c12 => ?_)
          · have c12 := cv_gt (a := v1_1.toInt) (b := 60) rfl (by decide) c12
            exfalso; omega
          · have c12 := cv_ngt (a := v1_1.toInt) (b := 60) rfl (by decide) c12
            refine wp_gd (zin_of (m := 61) rfl (by omega) (by omega)) ?_
            refine wp_some ?_
            exact (show IvX7 o_me_1 ∧ Kp [] [2, 3] o_me o_me_1 from ⟨hI_me_1, hkp_me_1⟩)
      · have c10 := cv_ngt (a := v3_1.toInt) (b := v1_1.toInt) rfl rfl c10
        refine wp_if (fun c13 => ?_) (fun c13 => ?_)
        · have c13 := cv_gt (a := v3_1.toInt) (b := 60) rfl (by decide) c13
          exfalso; omega
        · have c13 := cv_ngt (a := v3_1.toInt) (b := 60) rfl (by decide) c13
          have lp2 : ∀ (N2 : Nat) (v1_2 : Int32) (v2_2 : Int32) (v3_2 : Int32) (v4_2 : Int64) (v6_2 : Int32) (o_me_2 : Ob), IvX7 o_me_2 → Kp [] [2, 3] o_me o_me_2 → (1 ≤ v1_2.toInt ∧ v1_2.toInt ≤ 60) → (1 ≤ v2_2.toInt ∧ v2_2.toInt ≤ 5) → (1 ≤ v3_2.toInt ∧ v3_2.toInt ≤ 60) → (1 ≤ v6_2.toInt ∧ v6_2.toInt ≤ 6) → (v3_2.toInt ≤ v1_2.toInt + 0) → (v6_2.toInt ≤ v1_2.toInt + 1) → (v6_2.toInt ≤ v2_2.toInt + 1) → (v6_2.toInt ≤ v3_2.toInt + 1) → (v1_2.toInt ≤ p0.toInt + 0) → (p0.toInt ≤ v1_2.toInt + 0) → (v1_2.toInt ≤ v1_1.toInt + 0) → (v1_1.toInt ≤ v1_2.toInt + 0) → (v3_1.toInt ≤ v1_2.toInt + 0) → (v2_2.toInt ≤ v2_1.toInt + 0) → (v2_1.toInt ≤ v2_2.toInt + 0) → (v2_2.toInt ≤ p1.toInt + 0) → (p1.toInt ≤ v2_2.toInt + 0) → (v3_2.toInt ≤ p0.toInt + 0) → (v3_2.toInt ≤ v1_1.toInt + 0) → (v3_2.toInt ≤ v3_1.toInt + 0) → (v3_1.toInt ≤ v3_2.toInt + 0) → (6 - v6_2.toInt).toNat < N2 → wp (lp_X7_waysUp_26  (lp_X7_waysUp_9   N1) N2 (v1_2, v2_2, v3_2, v4_2, v6_2, o_me_2)) (fun (y : Int64 × Ob) => IvX7 y.2 ∧ Kp [] [2, 3] o_me y.2) := by
            intro N2
            induction N2 with
            | zero =>
              intro v1_2 v2_2 v3_2 v4_2 v6_2 o_me_2 hI_me_2 hkp_me_2 hh14 hh15 hh16 hh17 hh18 hh19 hh20 hh21 hh22 hh23 hh24 hh25 hh26 hh27 hh28 hh29 hh30 hh31 hh32 hh33 hh34 hN2
              exact absurd hN2 (Nat.not_lt_zero _)
            | succ N2 ihx =>
              have ih2 := ihx
              intro v1_2 v2_2 v3_2 v4_2 v6_2 o_me_2 hI_me_2 hkp_me_2 hh14 hh15 hh16 hh17 hh18 hh19 hh20 hh21 hh22 hh23 hh24 hh25 hh26 hh27 hh28 hh29 hh30 hh31 hh32 hh33 hh34 hN2
              show wp (lb_X7_waysUp_26  (lp_X7_waysUp_9   N1) (lp_X7_waysUp_26  (lp_X7_waysUp_9   N1) N2) v1_2 v2_2 v3_2 v4_2 v6_2 o_me_2) (fun (y : Int64 × Ob) => IvX7 y.2 ∧ Kp [] [2, 3] o_me y.2)
              unfold lb_X7_waysUp_26
              refine wp_if (fun c35 => ?_) (fun c35 => ?_)
              · have c35 := cv_gt (a := v6_2.toInt) (b := v2_2.toInt) rfl rfl c35
                unfold bk_X7_waysUp_63
                refine wp_gd (zin_of (m := 61) rfl (by omega) (by omega)) ?_
                refine wp_lt (fun o36 eo36 => ?_)
                have hIo36 : IvX7 o36 := by rw [eo36]; exact hI_me_2
                have hkpo36 : Kp [] [2, 3] o_me o36 := hkp_me_2.trans (by rw [eo36]; exact Kp.tM)
                refine wp_lt (fun x37 ex37 => ?_)
                have tx37 : x37.toInt = v3_2.toInt + 1 := by rw [ex37]; exact i32_add rfl (by decide) (by omega) (by omega)
                exact ih1 v1_2 v2_2 x37 o36 hIo36 hkpo36 ⟨by omega, by omega⟩ ⟨by omega, by omega⟩ ⟨by omega, by omega⟩ (by omega) (by omega) (by omega) (by omega) (by omega) (by omega)
              · have c35 := cv_ngt (a := v6_2.toInt) (b := v2_2.toInt) rfl rfl c35
                refine wp_if (fun c38 => ?_) (fun c38 => ?_)
                · have c38 := cv_gt (a := v6_2.toInt) (b := v3_2.toInt) rfl rfl c38
                  unfold bk_X7_waysUp_63
                  refine wp_gd (zin_of (m := 61) rfl (by omega) (by omega)) ?_
                  refine wp_lt (fun o39 eo39 => ?_)
                  have hIo39 : IvX7 o39 := by rw [eo39]; exact hI_me_2
                  have hkpo39 : Kp [] [2, 3] o_me o39 := hkp_me_2.trans (by rw [eo39]; exact Kp.tM)
                  refine wp_lt (fun x40 ex40 => ?_)
                  have tx40 : x40.toInt = v3_2.toInt + 1 := by rw [ex40]; exact i32_add rfl (by decide) (by omega) (by omega)
                  exact ih1 v1_2 v2_2 x40 o39 hIo39 hkpo39 ⟨by omega, by omega⟩ ⟨by omega, by omega⟩ ⟨by omega, by omega⟩ (by omega) (by omega) (by omega) (by omega) (by omega) (by omega)
                · have c38 := cv_ngt (a := v6_2.toInt) (b := v3_2.toInt) rfl rfl c38
                  refine wp_if (fun c41 => ?_) (fun c41 => ?_)
                  · have c41 := cv_eq (a := v3_2.toInt) (b := 2) rfl (by decide) c41
                    unfold bk_X7_waysUp_63
                    refine wp_gd (zin_of (m := 61) rfl (by omega) (by omega)) ?_
                    refine wp_lt (fun o42 eo42 => ?_)
                    have hIo42 : IvX7 o42 := by rw [eo42]; exact hI_me_2
                    have hkpo42 : Kp [] [2, 3] o_me o42 := hkp_me_2.trans (by rw [eo42]; exact Kp.tM)
                    refine wp_lt (fun x43 ex43 => ?_)
                    have tx43 : x43.toInt = v3_2.toInt + 1 := by rw [ex43]; exact i32_add rfl (by decide) (by omega) (by omega)
                    exact ih1 v1_2 v2_2 x43 o42 hIo42 hkpo42 ⟨by omega, by omega⟩ ⟨by omega, by omega⟩ ⟨by omega, by omega⟩ (by omega) (by omega) (by omega) (by omega) (by omega) (by omega)
                  · have c41 := cv_ne (a := v3_2.toInt) (b := 2) rfl (by decide) c41
                    have t44 : (v3_2 - v6_2).toInt = v3_2.toInt - v6_2.toInt := i32_sub rfl rfl (by omega) (by omega)
                    refine wp_gd (zin_of (m := 61) rfl (by omega) (by omega)) ?_
                    refine wp_lt (fun x45 ex45 => ?_)
                    have tx45 : x45.toInt = (v4_2 + (gM o_me_2 7 (v3_2 - v6_2).toNatClampNeg)).toInt := by rw [ex45]
                    refine wp_lt (fun x46 ex46 => ?_)
                    have tx46 : x46.toInt = v6_2.toInt + 1 := by rw [ex46]; exact i32_add rfl (by decide) (by omega) (by omega)
                    exact ih2 v1_2 v2_2 v3_2 x45 x46 o_me_2 hI_me_2 hkp_me_2 ⟨by omega, by omega⟩ ⟨by omega, by omega⟩ ⟨by omega, by omega⟩ ⟨by omega, by omega⟩ (by omega) (by omega) (by omega) (by omega) (by omega) (by omega) (by omega) (by omega) (by omega) (by omega) (by omega) (by omega) (by omega) (by omega) (by omega) (by omega) (by omega) (by omega)
          exact lp2 zfu v1_1 v2_1 v3_1 (0 : Int64) (1 : Int32) o_me_1 hI_me_1 hkp_me_1 ⟨by omega, by omega⟩ ⟨by omega, by omega⟩ ⟨by omega, by omega⟩ ⟨by decide, by decide⟩ (by omega) (by omega) (by omega) (by omega) (by omega) (by omega) (by omega) (by omega) (by omega) (by omega) (by omega) (by omega) (by omega) (by omega) (by omega) (by omega) (by omega) (by show _ < 100000; omega)
  exact lp1 zfu p0 p1 (1 : Int32) o1 hIo1 hkpo1 ⟨by omega, by omega⟩ ⟨by omega, by omega⟩ ⟨by decide, by decide⟩ (by omega) (by omega) (by omega) (by omega) (by omega) (by show _ < 100000; omega)

set_option maxHeartbeats 4000000 in
set_option maxRecDepth 100000 in
theorem s_X8_ladder (o_me : Ob) (o_me_study : Ob) (p0 : Int32) (p1 : Int32) (hI_me : IvX8 o_me) (hI_me_study : IvX7 o_me_study)  : wp (f_X8_ladder  o_me o_me_study p0 p1) (fun (y : Int64 × Ob) => IvX7 y.2 ∧ Kp [] [2, 3] o_me_study y.2) := by
  have li0 : (-1 : Int64).toInt = (-1) := by decide
  have li1 : (1 : Int32).toInt = 1 := by decide
  have li2 : (5 : Int32).toInt = 5 := by decide
  have li3 : (60 : Int32).toInt = 60 := by decide
  unfold f_X8_ladder
  refine wp_if (fun c1 => ?_) (fun c1 => ?_)
  · have c1 := cv_lt (a := p0.toInt) (b := 1) rfl (by decide) c1
    refine wp_some ?_
    exact (show IvX7 o_me_study ∧ Kp [] [2, 3] o_me_study o_me_study from ⟨hI_me_study, Kp.rf⟩)
  · have c1 := cv_nlt (a := p0.toInt) (b := 1) rfl (by decide) c1
    refine wp_if (fun c2 => ?_) (fun c2 => ?_)
    · have c2 := cv_gt (a := p0.toInt) (b := 60) rfl (by decide) c2
      refine wp_some ?_
      exact (show IvX7 o_me_study ∧ Kp [] [2, 3] o_me_study o_me_study from ⟨hI_me_study, Kp.rf⟩)
    · have c2 := cv_ngt (a := p0.toInt) (b := 60) rfl (by decide) c2
      refine wp_if (fun c3 => ?_) (fun c3 => ?_)
      · have c3 := cv_lt (a := p1.toInt) (b := 1) rfl (by decide) c3
        refine wp_some ?_
        exact (show IvX7 o_me_study ∧ Kp [] [2, 3] o_me_study o_me_study from ⟨hI_me_study, Kp.rf⟩)
      · have c3 := cv_nlt (a := p1.toInt) (b := 1) rfl (by decide) c3
        refine wp_if (fun c4 => ?_) (fun c4 => ?_)
        · have c4 := cv_le (a := p1.toInt) (b := 5) rfl (by decide) c4
          refine wp_bd (s_X7_waysUp o_me_study p0 p1 hI_me_study ⟨by omega, by omega⟩ ⟨by omega, by omega⟩) (fun z5 hz5 => ?_)
          obtain ⟨hz5_0, hz5_1⟩ := hz5
          have hkpz5_me_study : Kp [] [2, 3] o_me_study z5.2 := Kp.rf.trans (hz5_1.mono (by decide) (by decide))
          refine wp_some ?_
          exact (show IvX7 z5.2 ∧ Kp [] [2, 3] o_me_study z5.2 from ⟨hz5_0, hkpz5_me_study⟩)
        · have c4 := cv_nle (a := p1.toInt) (b := 5) rfl (by decide) c4
          refine wp_some ?_
          exact (show IvX7 o_me_study ∧ Kp [] [2, 3] o_me_study o_me_study from ⟨hI_me_study, Kp.rf⟩)

set_option maxHeartbeats 4000000 in
set_option maxRecDepth 100000 in
theorem s_J7_fill_53178_AX7_6 (o_a0 : Ob) (p1 : Int32) (hI_a0 : IvX7 o_a0)  : wp (f_J7_fill_53178_AX7_6  o_a0 p1) (fun (y : Ob) => IvX7 y ∧ Kp [] [2, 3] o_a0 y) := by
  have li0 : (0 : Int32).toInt = 0 := by decide
  have li1 : (10 : Int32).toInt = 10 := by decide
  unfold f_J7_fill_53178_AX7_6
  have lp1 : ∀ (N1 : Nat) (v1_1 : Int32) (v2_1 : Int32) (v3_1 : Int32) (o_a0_1 : Ob), IvX7 o_a0_1 → Kp [] [2, 3] o_a0 o_a0_1 → (0 ≤ v2_1.toInt ∧ v2_1.toInt ≤ 10) → (10 ≤ v3_1.toInt ∧ v3_1.toInt ≤ 10) → (10 - v2_1.toInt).toNat < N1 → wp (lp_J7_fill_53178_AX7_6_5   N1 (v1_1, v2_1, v3_1, o_a0_1)) (fun (y : Ob) => IvX7 y ∧ Kp [] [2, 3] o_a0 y) := by
    intro N1
    induction N1 with
    | zero =>
      intro v1_1 v2_1 v3_1 o_a0_1 hI_a0_1 hkp_a0_1 hh1 hh2 hN1
      exact absurd hN1 (Nat.not_lt_zero _)
    | succ N1 ihx =>
      have ih1 := ihx
      intro v1_1 v2_1 v3_1 o_a0_1 hI_a0_1 hkp_a0_1 hh1 hh2 hN1
      show wp (lb_J7_fill_53178_AX7_6_5   (lp_J7_fill_53178_AX7_6_5   N1) v1_1 v2_1 v3_1 o_a0_1) (fun (y : Ob) => IvX7 y ∧ Kp [] [2, 3] o_a0 y)
      unfold lb_J7_fill_53178_AX7_6_5
      refine wp_if (fun c3 => ?_) (fun c3 => ?_)
      · have c3 := cv_ge (a := v2_1.toInt) (b := v3_1.toInt) rfl rfl c3
        refine wp_some ?_
        exact (show IvX7 o_a0_1 ∧ Kp [] [2, 3] o_a0 o_a0_1 from ⟨hI_a0_1, hkp_a0_1⟩)
      · have c3 := cv_nge (a := v2_1.toInt) (b := v3_1.toInt) rfl rfl c3
        refine wp_gd (zin_of (m := 10) rfl (by omega) (by omega)) ?_
        refine wp_lt (fun o4 eo4 => ?_)
        have hIo4 : IvX7 o4 := by rw [eo4]; exact hI_a0_1
        have ko4_v : (gA o4 6 v2_1.toNatClampNeg).toInt = v1_1.toInt := by rw [eo4]; exact congrArg Int32.toInt (upd_eq (g := gA o_a0_1 6) (i := v2_1) (v := v1_1))
        have hkpo4 : Kp [] [2, 3] o_a0 o4 := hkp_a0_1.trans (by rw [eo4]; exact Kp.tA (by decide))
        refine wp_lt (fun x5 ex5 => ?_)
        have tx5 : x5.toInt = v2_1.toInt + 1 := by rw [ex5]; exact i32_add rfl (by decide) (by omega) (by omega)
        exact ih1 v1_1 x5 v3_1 o4 hIo4 hkpo4 ⟨by omega, by omega⟩ ⟨by omega, by omega⟩ (by omega)
  exact lp1 zfu p1 (0 : Int32) (10 : Int32) o_a0 hI_a0 Kp.rf ⟨by decide, by decide⟩ ⟨by decide, by decide⟩ (by show _ < 100000; omega)

set_option maxHeartbeats 4000000 in
set_option maxRecDepth 100000 in
theorem s_X0_clear (o_me : Ob) (hI_me : IvX0 o_me)  : wp (f_X0_clear 12 400 o_me) (fun (y : Ob) => IvX0 y ∧ Kp [] [] o_me y) := by
  have li0 : (0 : Int32).toInt = 0 := by decide
  unfold f_X0_clear
  refine wp_lt (fun o1 eo1 => ?_)
  have hIo1 : IvX0 o1 := by rw [eo1]; exact ipX0_7 hI_me ⟨by decide, by decide⟩
  have ko1_v : (gI o1 7).toInt = 0 := by rw [eo1]; exact (show ((0 : Int32)).toInt = _ from by decide)
  have hkpo1 : Kp [] [] o_me o1 := Kp.rf.trans (by rw [eo1]; exact Kp.sI (by decide))
  refine wp_lt (fun o2 eo2 => ?_)
  have hIo2 : IvX0 o2 := by rw [eo2]; exact ipX0_8 hIo1 ⟨by decide, by decide⟩
  have ko2_k3 : (gI o2 7).toInt = (gI o1 7).toInt := by rw [eo2]; rfl
  have ko2_v : (gI o2 8).toInt = 0 := by rw [eo2]; exact (show ((0 : Int32)).toInt = _ from by decide)
  have hkpo2 : Kp [] [] o_me o2 := hkpo1.trans (by rw [eo2]; exact Kp.sI (by decide))
  refine wp_some ?_
  exact (show IvX0 o2 ∧ Kp [] [] o_me o2 from ⟨hIo2, hkpo2⟩)

set_option maxHeartbeats 4000000 in
set_option maxRecDepth 100000 in
theorem s_X6_byteAt (o_me : Ob) (p0 : Int32) (hI_me : IvX6 o_me)  : wp (f_X6_byteAt  o_me p0) (fun (y : Int32) => True) := by
  have li0 : (-1 : Int32).toInt = (-1) := by decide
  have li1 : (400 : Int32).toInt = 400 := by decide
  unfold f_X6_byteAt
  refine wp_if (fun c1 => ?_) (fun c1 => ?_)
  · have c1 := cv_lt (a := p0.toInt) (b := 0) rfl (by decide) c1
    refine wp_some ?_
    exact trivial
  · have c1 := cv_nlt (a := p0.toInt) (b := 0) rfl (by decide) c1
    have t2 := igX6_2 hI_me
    refine wp_if (fun c3 => ?_) (fun c3 => ?_)
    · have c3 := cv_ge (a := p0.toInt) (b := (gI o_me 2).toInt) rfl rfl c3
      refine wp_some ?_
      exact trivial
    · have c3 := cv_nge (a := p0.toInt) (b := (gI o_me 2).toInt) rfl rfl c3
      refine wp_if (fun c4 => ?_) (fun c4 => ?_)
      · have c4 := cv_ge (a := p0.toInt) (b := 400) rfl (by decide) c4
        exfalso; omega
      · have c4 := cv_nge (a := p0.toInt) (b := 400) rfl (by decide) c4
        refine wp_gd (zin_of (m := 400) rfl (by omega) (by omega)) ?_
        refine wp_some ?_
        exact trivial

set_option maxHeartbeats 4000000 in
set_option maxRecDepth 100000 in
theorem s_X6_isLetter (p0 : Int32)  : wp (f_X6_isLetter  p0) (fun (y : Int32) => (0 ≤ y.toInt ∧ y.toInt ≤ 1)) := by
  have li0 : (0 : Int32).toInt = 0 := by decide
  have li1 : (1 : Int32).toInt = 1 := by decide
  have li2 : (122 : Int32).toInt = 122 := by decide
  have li3 : (97 : Int32).toInt = 97 := by decide
  unfold f_X6_isLetter
  refine wp_if (fun c1 => ?_) (fun c1 => ?_)
  · have c1 := cv_lt (a := p0.toInt) (b := 97) rfl (by decide) c1
    refine wp_some ?_
    exact (show (0 ≤ (0 : Int32).toInt ∧ (0 : Int32).toInt ≤ 1) from ⟨by decide, by decide⟩)
  · have c1 := cv_nlt (a := p0.toInt) (b := 97) rfl (by decide) c1
    refine wp_if (fun c2 => ?_) (fun c2 => ?_)
    · have c2 := cv_gt (a := p0.toInt) (b := 122) rfl (by decide) c2
      refine wp_some ?_
      exact (show (0 ≤ (0 : Int32).toInt ∧ (0 : Int32).toInt ≤ 1) from ⟨by decide, by decide⟩)
    · have c2 := cv_ngt (a := p0.toInt) (b := 122) rfl (by decide) c2
      refine wp_some ?_
      exact (show (0 ≤ (1 : Int32).toInt ∧ (1 : Int32).toInt ≤ 1) from ⟨by decide, by decide⟩)

set_option maxHeartbeats 4000000 in
set_option maxRecDepth 100000 in
theorem s_X6_isDigit (p0 : Int32)  : wp (f_X6_isDigit  p0) (fun (y : Int32) => (0 ≤ y.toInt ∧ y.toInt ≤ 1)) := by
  have li0 : (0 : Int32).toInt = 0 := by decide
  have li1 : (1 : Int32).toInt = 1 := by decide
  have li2 : (48 : Int32).toInt = 48 := by decide
  have li3 : (57 : Int32).toInt = 57 := by decide
  unfold f_X6_isDigit
  refine wp_if (fun c1 => ?_) (fun c1 => ?_)
  · have c1 := cv_lt (a := p0.toInt) (b := 48) rfl (by decide) c1
    refine wp_some ?_
    exact (show (0 ≤ (0 : Int32).toInt ∧ (0 : Int32).toInt ≤ 1) from ⟨by decide, by decide⟩)
  · have c1 := cv_nlt (a := p0.toInt) (b := 48) rfl (by decide) c1
    refine wp_if (fun c2 => ?_) (fun c2 => ?_)
    · have c2 := cv_gt (a := p0.toInt) (b := 57) rfl (by decide) c2
      refine wp_some ?_
      exact (show (0 ≤ (0 : Int32).toInt ∧ (0 : Int32).toInt ≤ 1) from ⟨by decide, by decide⟩)
    · have c2 := cv_ngt (a := p0.toInt) (b := 57) rfl (by decide) c2
      refine wp_some ?_
      exact (show (0 ≤ (1 : Int32).toInt ∧ (1 : Int32).toInt ≤ 1) from ⟨by decide, by decide⟩)

set_option maxHeartbeats 4000000 in
set_option maxRecDepth 100000 in
theorem s_X6_step (o_me : Ob) (hI_me : IvX6 o_me) (r0 : (gI o_me 8).toInt ≤ (gI o_me 2).toInt + 0) : wp (f_X6_step  o_me) (fun (y : Ob) => IvX6 y ∧ Kp [2, 4, 5] [] o_me y ∧ ((gI y 8).toInt ≤ (gI y 2).toInt + 0)) := by
  have li0 : (0 : Int32).toInt = 0 := by decide
  have li1 : (1 : Int32).toInt = 1 := by decide
  have li2 : (10 : Int32).toInt = 10 := by decide
  have li3 : (1001 : Int32).toInt = 1001 := by decide
  have li4 : (2 : Int32).toInt = 2 := by decide
  have li5 : (3 : Int32).toInt = 3 := by decide
  have li6 : (32 : Int32).toInt = 32 := by decide
  have li7 : (48 : Int32).toInt = 48 := by decide
  unfold f_X6_step
  have t1 := igX6_8 hI_me
  refine wp_lt (fun x2 ex2 => ?_)
  have tx2 : x2.toInt = (gI o_me 8).toInt := by rw [ex2]
  have t3 := igX6_2 hI_me
  have lp1 : ∀ (N1 : Nat) (v1_1 : Int32) (o_me_1 : Ob), IvX6 o_me_1 → Kp [2, 4, 5] [] o_me o_me_1 → (0 ≤ v1_1.toInt ∧ v1_1.toInt ≤ 400) → (0 ≤ (gI o_me_1 2).toInt ∧ (gI o_me_1 2).toInt ≤ 400) → (0 ≤ (gI o_me_1 8).toInt ∧ (gI o_me_1 8).toInt ≤ 400) → (v1_1.toInt ≤ (gI o_me_1 2).toInt + 0) → ((gI o_me_1 8).toInt ≤ v1_1.toInt + 0) → ((gI o_me_1 8).toInt ≤ (gI o_me_1 2).toInt + 0) → (x2.toInt ≤ v1_1.toInt + 0) → (x2.toInt ≤ (gI o_me_1 2).toInt + 0) → ((gI o_me_1 8).toInt ≤ x2.toInt + 0) → (x2.toInt ≤ (gI o_me_1 8).toInt + 0) → (400 - v1_1.toInt).toNat < N1 → wp (lp_X6_step_5   N1 (v1_1, o_me_1)) (fun (y : Ob) => IvX6 y ∧ Kp [2, 4, 5] [] o_me y ∧ ((gI y 8).toInt ≤ (gI y 2).toInt + 0)) := by
    intro N1
    induction N1 with
    | zero =>
      intro v1_1 o_me_1 hI_me_1 hkp_me_1 hh6 hh7 hh8 hh9 hh10 hh11 hh12 hh13 hh14 hh15 hN1
      exact absurd hN1 (Nat.not_lt_zero _)
    | succ N1 ihx =>
      have ih1 := ihx
      intro v1_1 o_me_1 hI_me_1 hkp_me_1 hh6 hh7 hh8 hh9 hh10 hh11 hh12 hh13 hh14 hh15 hN1
      show wp (lb_X6_step_5   (lp_X6_step_5   N1) v1_1 o_me_1) (fun (y : Ob) => IvX6 y ∧ Kp [2, 4, 5] [] o_me y ∧ ((gI y 8).toInt ≤ (gI y 2).toInt + 0))
      unfold lb_X6_step_5
      refine wp_if (fun c16 => ?_) (fun c16 => ?_)
      · have c16 := cv_ge (a := v1_1.toInt) (b := (gI o_me_1 2).toInt) rfl rfl c16
        unfold bk_X6_step_29
        refine wp_lt (fun o17 eo17 => ?_)
        have hIo17 : IvX6 o17 := by rw [eo17]; exact ipX6_7 hI_me_1 ⟨by omega, by omega⟩
        have ko17_k18 : (gI o17 2).toInt = (gI o_me_1 2).toInt := by rw [eo17]; rfl
        have ko17_k19 : (gI o17 8).toInt = (gI o_me_1 8).toInt := by rw [eo17]; rfl
        have ko17_v : (gI o17 7).toInt = v1_1.toInt := by rw [eo17]; rfl
        have hkpo17 : Kp [2, 4, 5] [] o_me o17 := hkp_me_1.trans (by rw [eo17]; exact Kp.sI (by decide))
        have t20 : (v1_1 + (1 : Int32)).toInt = v1_1.toInt + 1 := i32_add rfl (by decide) (by omega) (by omega)
        refine wp_lt (fun o21 eo21 => ?_)
        have hIo21 : IvX6 o21 := by rw [eo21]; exact ipX6_8 hIo17 ⟨by omega, by omega⟩
        have ko21_k22 : (gI o21 2).toInt = (gI o17 2).toInt := by rw [eo21]; rfl
        have ko21_k23 : (gI o21 7).toInt = (gI o17 7).toInt := by rw [eo21]; rfl
        have ko21_v : (gI o21 8).toInt = (v1_1 + (1 : Int32)).toInt := by rw [eo21]; rfl
        have hkpo21 : Kp [2, 4, 5] [] o_me o21 := hkpo17.trans (by rw [eo21]; exact Kp.sI (by decide))
        refine wp_lt (fun o24 eo24 => ?_)
        have hIo24 : IvX6 o24 := by rw [eo24]; exact hIo21
        have ko24_k25 : (gI o24 2).toInt = (gI o21 2).toInt := by rw [eo24]; rfl
        have ko24_k26 : (gI o24 7).toInt = (gI o21 7).toInt := by rw [eo24]; rfl
        have ko24_k27 : (gI o24 8).toInt = (gI o21 8).toInt := by rw [eo24]; rfl
        have ko24_v : (gI o24 9).toInt = 0 := by rw [eo24]; exact (show ((0 : Int32)).toInt = _ from by decide)
        have hkpo24 : Kp [2, 4, 5] [] o_me o24 := hkpo21.trans (by rw [eo24]; exact Kp.sI (by decide))
        refine wp_if (fun c28 => ?_) (fun c28 => ?_)
        · have c28 := cv_lt (a := v1_1.toInt) (b := (gI o24 2).toInt) rfl rfl c28
          exfalso; omega
        · have c28 := cv_nlt (a := v1_1.toInt) (b := (gI o24 2).toInt) rfl rfl c28
          refine wp_lt (fun o29 eo29 => ?_)
          have hIo29 : IvX6 o29 := by rw [eo29]; exact ipX6_6 hIo24 ⟨by decide, by decide⟩
          have ko29_k30 : (gI o29 2).toInt = (gI o24 2).toInt := by rw [eo29]; rfl
          have ko29_k31 : (gI o29 7).toInt = (gI o24 7).toInt := by rw [eo29]; rfl
          have ko29_k32 : (gI o29 8).toInt = (gI o24 8).toInt := by rw [eo29]; rfl
          have ko29_k33 : (gI o29 9).toInt = (gI o24 9).toInt := by rw [eo29]; rfl
          have ko29_v : (gI o29 6).toInt = 0 := by rw [eo29]; exact (show ((0 : Int32)).toInt = _ from by decide)
          have hkpo29 : Kp [2, 4, 5] [] o_me o29 := hkpo24.trans (by rw [eo29]; exact Kp.sI (by decide))
          refine wp_lt (fun o34 eo34 => ?_)
          have hIo34 : IvX6 o34 := by rw [eo34]; exact ipX6_8 hIo29 ⟨by omega, by omega⟩
          have ko34_k35 : (gI o34 2).toInt = (gI o29 2).toInt := by rw [eo34]; rfl
          have ko34_k36 : (gI o34 6).toInt = (gI o29 6).toInt := by rw [eo34]; rfl
          have ko34_k37 : (gI o34 7).toInt = (gI o29 7).toInt := by rw [eo34]; rfl
          have ko34_k38 : (gI o34 9).toInt = (gI o29 9).toInt := by rw [eo34]; rfl
          have ko34_v : (gI o34 8).toInt = v1_1.toInt := by rw [eo34]; rfl
          have hkpo34 : Kp [2, 4, 5] [] o_me o34 := hkpo29.trans (by rw [eo34]; exact Kp.sI (by decide))
          refine wp_some ?_
          exact (show IvX6 o34 ∧ Kp [2, 4, 5] [] o_me o34 ∧ ((gI o34 8).toInt ≤ (gI o34 2).toInt + 0) from ⟨hIo34, hkpo34, (by omega)⟩)
      · have c16 := cv_nge (a := v1_1.toInt) (b := (gI o_me_1 2).toInt) rfl rfl c16
        refine wp_bd (s_X6_byteAt o_me_1 v1_1 hI_me_1 ) (fun z39 hz39 => ?_)
        refine wp_if (fun c40 => ?_) (fun c40 => ?_)
        · have c40 := cv_eq (a := z39.toInt) (b := 32) rfl (by decide) c40
          refine wp_lt (fun x41 ex41 => ?_)
          have tx41 : x41.toInt = v1_1.toInt + 1 := by rw [ex41]; exact i32_add rfl (by decide) (by omega) (by omega)
          exact ih1 x41 o_me_1 hI_me_1 hkp_me_1 ⟨by omega, by omega⟩ ⟨by omega, by omega⟩ ⟨by omega, by omega⟩ (by omega) (by omega) (by omega) (by omega) (by omega) (by omega) (by omega) (by omega)
        · have c40 := cv_ne (a := z39.toInt) (b := 32) rfl (by decide) c40
          unfold bk_X6_step_29
          refine wp_lt (fun o42 eo42 => ?_)
          have hIo42 : IvX6 o42 := by rw [eo42]; exact ipX6_7 hI_me_1 ⟨by omega, by omega⟩
          have ko42_k43 : (gI o42 2).toInt = (gI o_me_1 2).toInt := by rw [eo42]; rfl
          have ko42_k44 : (gI o42 8).toInt = (gI o_me_1 8).toInt := by rw [eo42]; rfl
          have ko42_v : (gI o42 7).toInt = v1_1.toInt := by rw [eo42]; rfl
          have hkpo42 : Kp [2, 4, 5] [] o_me o42 := hkp_me_1.trans (by rw [eo42]; exact Kp.sI (by decide))
          have t45 : (v1_1 + (1 : Int32)).toInt = v1_1.toInt + 1 := i32_add rfl (by decide) (by omega) (by omega)
          refine wp_lt (fun o46 eo46 => ?_)
          have hIo46 : IvX6 o46 := by rw [eo46]; exact ipX6_8 hIo42 ⟨by omega, by omega⟩
          have ko46_k47 : (gI o46 2).toInt = (gI o42 2).toInt := by rw [eo46]; rfl
          have ko46_k48 : (gI o46 7).toInt = (gI o42 7).toInt := by rw [eo46]; rfl
          have ko46_v : (gI o46 8).toInt = (v1_1 + (1 : Int32)).toInt := by rw [eo46]; rfl
          have hkpo46 : Kp [2, 4, 5] [] o_me o46 := hkpo42.trans (by rw [eo46]; exact Kp.sI (by decide))
          refine wp_lt (fun o49 eo49 => ?_)
          have hIo49 : IvX6 o49 := by rw [eo49]; exact hIo46
          have ko49_k50 : (gI o49 2).toInt = (gI o46 2).toInt := by rw [eo49]; rfl
          have ko49_k51 : (gI o49 7).toInt = (gI o46 7).toInt := by rw [eo49]; rfl
          have ko49_k52 : (gI o49 8).toInt = (gI o46 8).toInt := by rw [eo49]; rfl
          have ko49_v : (gI o49 9).toInt = 0 := by rw [eo49]; exact (show ((0 : Int32)).toInt = _ from by decide)
          have hkpo49 : Kp [2, 4, 5] [] o_me o49 := hkpo46.trans (by rw [eo49]; exact Kp.sI (by decide))
          refine wp_if (fun c53 => ?_) (fun c53 => ?_)
          · have c53 := cv_lt (a := v1_1.toInt) (b := (gI o49 2).toInt) rfl rfl c53
            refine wp_bd (s_X6_byteAt o49 v1_1 hIo49 ) (fun z54 hz54 => ?_)
            refine wp_bd (s_X6_isLetter z54  ) (fun z55 hz55 => ?_)
            have hz55_0 := hz55
            refine wp_if (fun c56 => ?_) (fun c56 => ?_)
            · have c56 := cv_eq (a := z55.toInt) (b := 0) rfl (by decide) c56
              refine wp_bd (s_X6_byteAt o49 v1_1 hIo49 ) (fun z57 hz57 => ?_)
              refine wp_bd (s_X6_isDigit z57  ) (fun z58 hz58 => ?_)
              have hz58_0 := hz58
              refine wp_if (fun c59 => ?_) (fun c59 => ?_)
              · have c59 := cv_eq (a := z58.toInt) (b := 0) rfl (by decide) c59
                refine wp_lt (fun o60 eo60 => ?_)
                have hIo60 : IvX6 o60 := by rw [eo60]; exact ipX6_6 hIo49 ⟨by decide, by decide⟩
                have ko60_k61 : (gI o60 2).toInt = (gI o49 2).toInt := by rw [eo60]; rfl
                have ko60_k62 : (gI o60 7).toInt = (gI o49 7).toInt := by rw [eo60]; rfl
                have ko60_k63 : (gI o60 8).toInt = (gI o49 8).toInt := by rw [eo60]; rfl
                have ko60_k64 : (gI o60 9).toInt = (gI o49 9).toInt := by rw [eo60]; rfl
                have ko60_v : (gI o60 6).toInt = 3 := by rw [eo60]; exact (show ((3 : Int32)).toInt = _ from by decide)
                have hkpo60 : Kp [2, 4, 5] [] o_me o60 := hkpo49.trans (by rw [eo60]; exact Kp.sI (by decide))
                refine wp_some ?_
                exact (show IvX6 o60 ∧ Kp [2, 4, 5] [] o_me o60 ∧ ((gI o60 8).toInt ≤ (gI o60 2).toInt + 0) from ⟨hIo60, hkpo60, (by omega)⟩)
              · have c59z := c59
                have c59 := cv_ne (a := z58.toInt) (b := 0) rfl (by decide) c59
                refine wp_lt (fun o65 eo65 => ?_)
                have hIo65 : IvX6 o65 := by rw [eo65]; exact ipX6_6 hIo49 ⟨by decide, by decide⟩
                have ko65_k66 : (gI o65 2).toInt = (gI o49 2).toInt := by rw [eo65]; rfl
                have ko65_k67 : (gI o65 7).toInt = (gI o49 7).toInt := by rw [eo65]; rfl
                have ko65_k68 : (gI o65 8).toInt = (gI o49 8).toInt := by rw [eo65]; rfl
                have ko65_k69 : (gI o65 9).toInt = (gI o49 9).toInt := by rw [eo65]; rfl
                have ko65_v : (gI o65 6).toInt = 2 := by rw [eo65]; exact (show ((2 : Int32)).toInt = _ from by decide)
                have hkpo65 : Kp [2, 4, 5] [] o_me o65 := hkpo49.trans (by rw [eo65]; exact Kp.sI (by decide))
                refine wp_bd (s_X6_byteAt o65 v1_1 hIo65 ) (fun z70 hz70 => ?_)
                refine wp_lt (fun o71 eo71 => ?_)
                have hIo71 : IvX6 o71 := by rw [eo71]; exact hIo65
                have ko71_k72 : (gI o71 2).toInt = (gI o65 2).toInt := by rw [eo71]; rfl
                have ko71_k73 : (gI o71 6).toInt = (gI o65 6).toInt := by rw [eo71]; rfl
                have ko71_k74 : (gI o71 7).toInt = (gI o65 7).toInt := by rw [eo71]; rfl
                have ko71_k75 : (gI o71 8).toInt = (gI o65 8).toInt := by rw [eo71]; rfl
                have ko71_v : (gI o71 9).toInt = (z70 - (48 : Int32)).toInt := by rw [eo71]; rfl
                have hkpo71 : Kp [2, 4, 5] [] o_me o71 := hkpo65.trans (by rw [eo71]; exact Kp.sI (by decide))
                have lp2 : ∀ (N2 : Nat) (o_me_2 : Ob), IvX6 o_me_2 → Kp [2, 4, 5] [] o_me o_me_2 → (1 ≤ (gI o_me_2 2).toInt ∧ (gI o_me_2 2).toInt ≤ 400) → (1 ≤ (gI o_me_2 8).toInt ∧ (gI o_me_2 8).toInt ≤ 400) → ((gI o_me_2 8).toInt ≤ (gI o_me_2 2).toInt + 0) → (v1_1.toInt ≤ (gI o_me_2 2).toInt + (-1)) → (x2.toInt ≤ (gI o_me_2 2).toInt + (-1)) → (v1_1.toInt ≤ (gI o_me_2 8).toInt + (-1)) → (x2.toInt ≤ (gI o_me_2 8).toInt + (-1)) → (400 - (gI o_me_2 8).toInt).toNat < N2 → wp (lp_X6_step_149   N2 o_me_2) (fun (y : Ob) => IvX6 y ∧ Kp [2, 4, 5] [] o_me y ∧ ((gI y 8).toInt ≤ (gI y 2).toInt + 0)) := by
                  intro N2
                  induction N2 with
                  | zero =>
                    intro o_me_2 hI_me_2 hkp_me_2 hh78 hh79 hh80 hh81 hh82 hh83 hh84 hN2
                    exact absurd hN2 (Nat.not_lt_zero _)
                  | succ N2 ihx =>
                    have ih2 := ihx
                    intro o_me_2 hI_me_2 hkp_me_2 hh78 hh79 hh80 hh81 hh82 hh83 hh84 hN2
                    show wp (lb_X6_step_149   (lp_X6_step_149   N2) o_me_2) (fun (y : Ob) => IvX6 y ∧ Kp [2, 4, 5] [] o_me y ∧ ((gI y 8).toInt ≤ (gI y 2).toInt + 0))
                    unfold lb_X6_step_149
                    refine wp_if (fun c85 => ?_) (fun c85 => ?_)
                    · have c85 := cv_ge (a := (gI o_me_2 8).toInt) (b := (gI o_me_2 2).toInt) rfl rfl c85
                      refine wp_some ?_
                      exact (show IvX6 o_me_2 ∧ Kp [2, 4, 5] [] o_me o_me_2 ∧ ((gI o_me_2 8).toInt ≤ (gI o_me_2 2).toInt + 0) from ⟨hI_me_2, hkp_me_2, (by omega)⟩)
                    · have c85 := cv_nge (a := (gI o_me_2 8).toInt) (b := (gI o_me_2 2).toInt) rfl rfl c85
                      refine wp_bd (s_X6_byteAt o_me_2 (gI o_me_2 8) hI_me_2 ) (fun z86 hz86 => ?_)
                      refine wp_bd (s_X6_isDigit z86  ) (fun z87 hz87 => ?_)
                      have hz87_0 := hz87
                      refine wp_if (fun c88 => ?_) (fun c88 => ?_)
                      · have c88 := cv_eq (a := z87.toInt) (b := 0) rfl (by decide) c88
                        refine wp_some ?_
                        exact (show IvX6 o_me_2 ∧ Kp [2, 4, 5] [] o_me o_me_2 ∧ ((gI o_me_2 8).toInt ≤ (gI o_me_2 2).toInt + 0) from ⟨hI_me_2, hkp_me_2, (by omega)⟩)
                      · have c88z := c88
                        have c88 := cv_ne (a := z87.toInt) (b := 0) rfl (by decide) c88
                        refine wp_bd (s_X6_byteAt o_me_2 (gI o_me_2 8) hI_me_2 ) (fun z89 hz89 => ?_)
                        have rg91 := i32_rg ((((gI o_me_2 9) * (10 : Int32)) + z89) - (48 : Int32))
                        have t90 : (-2147483648) ≤ (if ((((gI o_me_2 9) * (10 : Int32)) + z89) - (48 : Int32)) < (1001 : Int32) then ((((gI o_me_2 9) * (10 : Int32)) + z89) - (48 : Int32)) else (1001 : Int32)).toInt ∧ (if ((((gI o_me_2 9) * (10 : Int32)) + z89) - (48 : Int32)) < (1001 : Int32) then ((((gI o_me_2 9) * (10 : Int32)) + z89) - (48 : Int32)) else (1001 : Int32)).toInt ≤ 1001 := z_min (a := 1001) (b := ((((gI o_me_2 9) * (10 : Int32)) + z89) - (48 : Int32)).toInt) (by decide) rfl (by omega) (by omega)
                        refine wp_lt (fun o92 eo92 => ?_)
                        have hIo92 : IvX6 o92 := by rw [eo92]; exact hI_me_2
                        have ko92_k93 : (gI o92 2).toInt = (gI o_me_2 2).toInt := by rw [eo92]; rfl
                        have ko92_k94 : (gI o92 8).toInt = (gI o_me_2 8).toInt := by rw [eo92]; rfl
                        have ko92_v : (gI o92 9).toInt = (if ((((gI o_me_2 9) * (10 : Int32)) + z89) - (48 : Int32)) < (1001 : Int32) then ((((gI o_me_2 9) * (10 : Int32)) + z89) - (48 : Int32)) else (1001 : Int32)).toInt := by rw [eo92]; rfl
                        have hkpo92 : Kp [2, 4, 5] [] o_me o92 := hkp_me_2.trans (by rw [eo92]; exact Kp.sI (by decide))
                        have t95 : ((gI o92 8) + (1 : Int32)).toInt = (gI o92 8).toInt + 1 := i32_add rfl (by decide) (by omega) (by omega)
                        refine wp_lt (fun o96 eo96 => ?_)
                        have hIo96 : IvX6 o96 := by rw [eo96]; exact ipX6_8 hIo92 ⟨by omega, by omega⟩
                        have ko96_k97 : (gI o96 2).toInt = (gI o92 2).toInt := by rw [eo96]; rfl
                        have ko96_k98 : (gI o96 9).toInt = (gI o92 9).toInt := by rw [eo96]; rfl
                        have ko96_v : (gI o96 8).toInt = ((gI o92 8) + (1 : Int32)).toInt := by rw [eo96]; rfl
                        have hkpo96 : Kp [2, 4, 5] [] o_me o96 := hkpo92.trans (by rw [eo96]; exact Kp.sI (by decide))
                        exact ih2 o96 hIo96 hkpo96 ⟨by omega, by omega⟩ ⟨by omega, by omega⟩ (by omega) (by omega) (by omega) (by omega) (by omega) (by omega)
                exact lp2 zfu o71 hIo71 hkpo71 ⟨by omega, by omega⟩ ⟨by omega, by omega⟩ (by omega) (by omega) (by omega) (by omega) (by omega) (by show _ < 100000; omega)
            · have c56z := c56
              have c56 := cv_ne (a := z55.toInt) (b := 0) rfl (by decide) c56
              refine wp_lt (fun o99 eo99 => ?_)
              have hIo99 : IvX6 o99 := by rw [eo99]; exact ipX6_6 hIo49 ⟨by decide, by decide⟩
              have ko99_k100 : (gI o99 2).toInt = (gI o49 2).toInt := by rw [eo99]; rfl
              have ko99_k101 : (gI o99 7).toInt = (gI o49 7).toInt := by rw [eo99]; rfl
              have ko99_k102 : (gI o99 8).toInt = (gI o49 8).toInt := by rw [eo99]; rfl
              have ko99_k103 : (gI o99 9).toInt = (gI o49 9).toInt := by rw [eo99]; rfl
              have ko99_v : (gI o99 6).toInt = 1 := by rw [eo99]; exact (show ((1 : Int32)).toInt = _ from by decide)
              have hkpo99 : Kp [2, 4, 5] [] o_me o99 := hkpo49.trans (by rw [eo99]; exact Kp.sI (by decide))
              have lp3 : ∀ (N3 : Nat) (o_me_3 : Ob), IvX6 o_me_3 → Kp [2, 4, 5] [] o_me o_me_3 → (1 ≤ (gI o_me_3 2).toInt ∧ (gI o_me_3 2).toInt ≤ 400) → (1 ≤ (gI o_me_3 8).toInt ∧ (gI o_me_3 8).toInt ≤ 400) → (0 ≤ (gI o_me_3 9).toInt ∧ (gI o_me_3 9).toInt ≤ 0) → ((gI o_me_3 8).toInt ≤ (gI o_me_3 2).toInt + 0) → (v1_1.toInt ≤ (gI o_me_3 2).toInt + (-1)) → (x2.toInt ≤ (gI o_me_3 2).toInt + (-1)) → (v1_1.toInt ≤ (gI o_me_3 8).toInt + (-1)) → (x2.toInt ≤ (gI o_me_3 8).toInt + (-1)) → (400 - (gI o_me_3 8).toInt).toNat < N3 → wp (lp_X6_step_83   N3 o_me_3) (fun (y : Ob) => IvX6 y ∧ Kp [2, 4, 5] [] o_me y ∧ ((gI y 8).toInt ≤ (gI y 2).toInt + 0)) := by
                intro N3
                induction N3 with
                | zero =>
                  intro o_me_3 hI_me_3 hkp_me_3 hh106 hh107 hh108 hh109 hh110 hh111 hh112 hh113 hN3
                  exact absurd hN3 (Nat.not_lt_zero _)
                | succ N3 ihx =>
                  have ih3 := ihx
                  intro o_me_3 hI_me_3 hkp_me_3 hh106 hh107 hh108 hh109 hh110 hh111 hh112 hh113 hN3
                  show wp (lb_X6_step_83   (lp_X6_step_83   N3) o_me_3) (fun (y : Ob) => IvX6 y ∧ Kp [2, 4, 5] [] o_me y ∧ ((gI y 8).toInt ≤ (gI y 2).toInt + 0))
                  unfold lb_X6_step_83
                  refine wp_if (fun c114 => ?_) (fun c114 => ?_)
                  · have c114 := cv_ge (a := (gI o_me_3 8).toInt) (b := (gI o_me_3 2).toInt) rfl rfl c114
                    refine wp_some ?_
                    exact (show IvX6 o_me_3 ∧ Kp [2, 4, 5] [] o_me o_me_3 ∧ ((gI o_me_3 8).toInt ≤ (gI o_me_3 2).toInt + 0) from ⟨hI_me_3, hkp_me_3, (by omega)⟩)
                  · have c114 := cv_nge (a := (gI o_me_3 8).toInt) (b := (gI o_me_3 2).toInt) rfl rfl c114
                    refine wp_bd (s_X6_byteAt o_me_3 (gI o_me_3 8) hI_me_3 ) (fun z115 hz115 => ?_)
                    refine wp_bd (s_X6_isLetter z115  ) (fun z116 hz116 => ?_)
                    have hz116_0 := hz116
                    refine wp_if (fun c117 => ?_) (fun c117 => ?_)
                    · have c117 := cv_eq (a := z116.toInt) (b := 0) rfl (by decide) c117
                      refine wp_some ?_
                      exact (show IvX6 o_me_3 ∧ Kp [2, 4, 5] [] o_me o_me_3 ∧ ((gI o_me_3 8).toInt ≤ (gI o_me_3 2).toInt + 0) from ⟨hI_me_3, hkp_me_3, (by omega)⟩)
                    · have c117z := c117
                      have c117 := cv_ne (a := z116.toInt) (b := 0) rfl (by decide) c117
                      have t118 : ((gI o_me_3 8) + (1 : Int32)).toInt = (gI o_me_3 8).toInt + 1 := i32_add rfl (by decide) (by omega) (by omega)
                      refine wp_lt (fun o119 eo119 => ?_)
                      have hIo119 : IvX6 o119 := by rw [eo119]; exact ipX6_8 hI_me_3 ⟨by omega, by omega⟩
                      have ko119_k120 : (gI o119 2).toInt = (gI o_me_3 2).toInt := by rw [eo119]; rfl
                      have ko119_k121 : (gI o119 9).toInt = (gI o_me_3 9).toInt := by rw [eo119]; rfl
                      have ko119_v : (gI o119 8).toInt = ((gI o_me_3 8) + (1 : Int32)).toInt := by rw [eo119]; rfl
                      have hkpo119 : Kp [2, 4, 5] [] o_me o119 := hkp_me_3.trans (by rw [eo119]; exact Kp.sI (by decide))
                      exact ih3 o119 hIo119 hkpo119 ⟨by omega, by omega⟩ ⟨by omega, by omega⟩ ⟨by omega, by omega⟩ (by omega) (by omega) (by omega) (by omega) (by omega) (by omega)
              exact lp3 zfu o99 hIo99 hkpo99 ⟨by omega, by omega⟩ ⟨by omega, by omega⟩ ⟨by omega, by omega⟩ (by omega) (by omega) (by omega) (by omega) (by omega) (by show _ < 100000; omega)
          · have c53 := cv_nlt (a := v1_1.toInt) (b := (gI o49 2).toInt) rfl rfl c53
            exfalso; omega
  exact lp1 zfu x2 o_me hI_me Kp.rf ⟨by omega, by omega⟩ ⟨by omega, by omega⟩ ⟨by omega, by omega⟩ (by omega) (by omega) (by omega) (by omega) (by omega) (by omega) (by omega) (by show _ < 100000; omega)

set_option maxHeartbeats 4000000 in
set_option maxRecDepth 100000 in
theorem s_X6_stop (o_me : Ob) (hI_me : IvX6 o_me)  : wp (f_X6_stop  o_me) (fun (y : Int32 × Ob) => (0 ≤ y.1.toInt ∧ y.1.toInt ≤ 0) ∧ IvX6 y.2 ∧ Kp [2, 4, 5, 6, 7, 8] [] o_me y.2) := by
  have li0 : (0 : Int32).toInt = 0 := by decide
  unfold f_X6_stop
  have t1 := igX6_7 hI_me
  refine wp_lt (fun o2 eo2 => ?_)
  have hIo2 : IvX6 o2 := by rw [eo2]; exact hI_me
  have ko2_k3 : (gI o2 7).toInt = (gI o_me 7).toInt := by rw [eo2]; rfl
  have ko2_v : (gI o2 3).toInt = (gI o_me 7).toInt := by rw [eo2]; rfl
  have hkpo2 : Kp [2, 4, 5, 6, 7, 8] [] o_me o2 := Kp.rf.trans (by rw [eo2]; exact Kp.sI (by decide))
  refine wp_some ?_
  exact (show (0 ≤ (0 : Int32).toInt ∧ (0 : Int32).toInt ≤ 0) ∧ IvX6 o2 ∧ Kp [2, 4, 5, 6, 7, 8] [] o_me o2 from ⟨⟨by decide, by decide⟩, hIo2, hkpo2⟩)

set_option maxHeartbeats 4000000 in
set_option maxRecDepth 100000 in
theorem s_X6_isSign (o_me : Ob) (p0 : Int32) (hI_me : IvX6 o_me)  : wp (f_X6_isSign  o_me p0) (fun (y : Int32) => (0 ≤ y.toInt ∧ y.toInt ≤ 1)) := by
  have li0 : (0 : Int32).toInt = 0 := by decide
  have li1 : (1 : Int32).toInt = 1 := by decide
  have li2 : (3 : Int32).toInt = 3 := by decide
  unfold f_X6_isSign
  have t1 := igX6_6 hI_me
  refine wp_if (fun c2 => ?_) (fun c2 => ?_)
  · have c2 := cv_eq (a := (gI o_me 6).toInt) (b := 3) rfl (by decide) c2
    have t3 := igX6_7 hI_me
    refine wp_bd (s_X6_byteAt o_me (gI o_me 7) hI_me ) (fun z4 hz4 => ?_)
    refine wp_if (fun c5 => ?_) (fun c5 => ?_)
    · have c5 := cv_eq (a := z4.toInt) (b := p0.toInt) rfl rfl c5
      refine wp_some ?_
      exact (show (0 ≤ (1 : Int32).toInt ∧ (1 : Int32).toInt ≤ 1) from ⟨by decide, by decide⟩)
    · have c5 := cv_ne (a := z4.toInt) (b := p0.toInt) rfl rfl c5
      refine wp_some ?_
      exact (show (0 ≤ (0 : Int32).toInt ∧ (0 : Int32).toInt ≤ 1) from ⟨by decide, by decide⟩)
  · have c2 := cv_ne (a := (gI o_me 6).toInt) (b := 3) rfl (by decide) c2
    refine wp_some ?_
    exact (show (0 ≤ (0 : Int32).toInt ∧ (0 : Int32).toInt ≤ 1) from ⟨by decide, by decide⟩)

set_option maxHeartbeats 4000000 in
set_option maxRecDepth 100000 in
theorem s_X3_wordOfPerson (p0 : Int32) (p1 : Int32)  : wp (f_X3_wordOfPerson  p0 p1) (fun (y : Int32) => True) := by
  have li0 : (12 : Int32).toInt = 12 := by decide
  have li1 : (5 : Int32).toInt = 5 := by decide
  unfold f_X3_wordOfPerson
  refine wp_if (fun c1 => ?_) (fun c1 => ?_)
  · have c1 := cv_eq (a := p0.toInt) (b := 5) rfl (by decide) c1
    obtain ⟨w2, ew2⟩ : ∃ z : Int32, z = (5 : Int32) := ⟨_, rfl⟩
    have tw2 : w2.toInt = 5 := by rw [ew2]; decide
    rw [show bk_X3_wordOfPerson_11   p1 (5 : Int32) = bk_X3_wordOfPerson_11   p1 w2 from by rw [ew2]]
    unfold bk_X3_wordOfPerson_11
    refine wp_some ?_
    exact trivial
  · have c1 := cv_ne (a := p0.toInt) (b := 5) rfl (by decide) c1
    obtain ⟨w3, ew3⟩ : ∃ z : Int32, z = (12 : Int32) := ⟨_, rfl⟩
    have tw3 : w3.toInt = 12 := by rw [ew3]; decide
    rw [show bk_X3_wordOfPerson_11   p1 (12 : Int32) = bk_X3_wordOfPerson_11   p1 w3 from by rw [ew3]]
    unfold bk_X3_wordOfPerson_11
    refine wp_some ?_
    exact trivial

set_option maxHeartbeats 4000000 in
set_option maxRecDepth 100000 in
theorem s_X3_setOrderWords_O (o_me : Ob) (o_a0 : Ob) (o_a0_now : Ob) (p1 : Int32) (p2 : Int32) (hI_me : IvX3 o_me) (hI_a0 : IvX2 o_a0) (hI_a0_now : IvX4 o_a0_now)  : wp (f_X3_setOrderWords_O  o_me o_a0 o_a0_now p1 p2) (fun (y : Ob) => IvX3 y ∧ Kp [] [] o_me y) := by
  have li0 : (-1 : Int32).toInt = (-1) := by decide
  have li1 : (0 : Int32).toInt = 0 := by decide
  have li2 : (1 : Int32).toInt = 1 := by decide
  have li3 : (12 : Int32).toInt = 12 := by decide
  have li4 : (2 : Int32).toInt = 2 := by decide
  have li5 : (3 : Int32).toInt = 3 := by decide
  have li6 : (4 : Int32).toInt = 4 := by decide
  have li7 : (5 : Int32).toInt = 5 := by decide
  have li8 : (7 : Int32).toInt = 7 := by decide
  unfold f_X3_setOrderWords_O
  refine wp_lt (fun o1 eo1 => ?_)
  have hIo1 : IvX3 o1 := by rw [eo1]; exact hI_me
  have ko1_v : (gA o1 0 (0 : Int32).toNatClampNeg).toInt = (gI o_a0_now 4).toInt := by rw [eo1]; exact congrArg Int32.toInt (upd_eq (g := gA o_me 0) (i := (0 : Int32)) (v := (gI o_a0_now 4)))
  have hkpo1 : Kp [] [] o_me o1 := Kp.rf.trans (by rw [eo1]; exact Kp.tA (by decide))
  refine wp_lt (fun o2 eo2 => ?_)
  have hIo2 : IvX3 o2 := by rw [eo2]; exact hIo1
  have ko2_k3 : (gA o2 0 (0 : Int32).toNatClampNeg).toInt = (gA o1 0 (0 : Int32).toNatClampNeg).toInt := by rw [eo2]; exact congrArg Int32.toInt (upd_ne (g := gA o1 0) (i := (1 : Int32)) (j := (0 : Int32)) (v := p1) (by decide) (by decide) (by decide))
  have ko2_v : (gA o2 0 (1 : Int32).toNatClampNeg).toInt = p1.toInt := by rw [eo2]; exact congrArg Int32.toInt (upd_eq (g := gA o1 0) (i := (1 : Int32)) (v := p1))
  have hkpo2 : Kp [] [] o_me o2 := hkpo1.trans (by rw [eo2]; exact Kp.tA (by decide))
  refine wp_lt (fun o4 eo4 => ?_)
  have hIo4 : IvX3 o4 := by rw [eo4]; exact hIo2
  have ko4_k5 : (gA o4 0 (0 : Int32).toNatClampNeg).toInt = (gA o2 0 (0 : Int32).toNatClampNeg).toInt := by rw [eo4]; exact congrArg Int32.toInt (upd_ne (g := gA o2 0) (i := (2 : Int32)) (j := (0 : Int32)) (v := p2) (by decide) (by decide) (by decide))
  have ko4_k6 : (gA o4 0 (1 : Int32).toNatClampNeg).toInt = (gA o2 0 (1 : Int32).toNatClampNeg).toInt := by rw [eo4]; exact congrArg Int32.toInt (upd_ne (g := gA o2 0) (i := (2 : Int32)) (j := (1 : Int32)) (v := p2) (by decide) (by decide) (by decide))
  have ko4_v : (gA o4 0 (2 : Int32).toNatClampNeg).toInt = p2.toInt := by rw [eo4]; exact congrArg Int32.toInt (upd_eq (g := gA o2 0) (i := (2 : Int32)) (v := p2))
  have hkpo4 : Kp [] [] o_me o4 := hkpo2.trans (by rw [eo4]; exact Kp.tA (by decide))
  refine wp_lt (fun o7 eo7 => ?_)
  have hIo7 : IvX3 o7 := by rw [eo7]; exact hIo4
  have ko7_k8 : (gA o7 0 (0 : Int32).toNatClampNeg).toInt = (gA o4 0 (0 : Int32).toNatClampNeg).toInt := by rw [eo7]; exact congrArg Int32.toInt (upd_ne (g := gA o4 0) (i := (3 : Int32)) (j := (0 : Int32)) (v := (gI o_a0_now 3)) (by decide) (by decide) (by decide))
  have ko7_k9 : (gA o7 0 (1 : Int32).toNatClampNeg).toInt = (gA o4 0 (1 : Int32).toNatClampNeg).toInt := by rw [eo7]; exact congrArg Int32.toInt (upd_ne (g := gA o4 0) (i := (3 : Int32)) (j := (1 : Int32)) (v := (gI o_a0_now 3)) (by decide) (by decide) (by decide))
  have ko7_k10 : (gA o7 0 (2 : Int32).toNatClampNeg).toInt = (gA o4 0 (2 : Int32).toNatClampNeg).toInt := by rw [eo7]; exact congrArg Int32.toInt (upd_ne (g := gA o4 0) (i := (3 : Int32)) (j := (2 : Int32)) (v := (gI o_a0_now 3)) (by decide) (by decide) (by decide))
  have ko7_v : (gA o7 0 (3 : Int32).toNatClampNeg).toInt = (gI o_a0_now 3).toInt := by rw [eo7]; exact congrArg Int32.toInt (upd_eq (g := gA o4 0) (i := (3 : Int32)) (v := (gI o_a0_now 3)))
  have hkpo7 : Kp [] [] o_me o7 := hkpo4.trans (by rw [eo7]; exact Kp.tA (by decide))
  refine wp_bd (s_J6_bitCount_0f7a4 (gI o_a0_now 2)  ) (fun z11 hz11 => ?_)
  have hz11_0 := hz11
  refine wp_lt (fun o12 eo12 => ?_)
  have hIo12 : IvX3 o12 := by rw [eo12]; exact hIo7
  have ko12_k13 : (gA o12 0 (0 : Int32).toNatClampNeg).toInt = (gA o7 0 (0 : Int32).toNatClampNeg).toInt := by rw [eo12]; exact congrArg Int32.toInt (upd_ne (g := gA o7 0) (i := (4 : Int32)) (j := (0 : Int32)) (v := z11) (by decide) (by decide) (by decide))
  have ko12_k14 : (gA o12 0 (1 : Int32).toNatClampNeg).toInt = (gA o7 0 (1 : Int32).toNatClampNeg).toInt := by rw [eo12]; exact congrArg Int32.toInt (upd_ne (g := gA o7 0) (i := (4 : Int32)) (j := (1 : Int32)) (v := z11) (by decide) (by decide) (by decide))
  have ko12_k15 : (gA o12 0 (2 : Int32).toNatClampNeg).toInt = (gA o7 0 (2 : Int32).toNatClampNeg).toInt := by rw [eo12]; exact congrArg Int32.toInt (upd_ne (g := gA o7 0) (i := (4 : Int32)) (j := (2 : Int32)) (v := z11) (by decide) (by decide) (by decide))
  have ko12_k16 : (gA o12 0 (3 : Int32).toNatClampNeg).toInt = (gA o7 0 (3 : Int32).toNatClampNeg).toInt := by rw [eo12]; exact congrArg Int32.toInt (upd_ne (g := gA o7 0) (i := (4 : Int32)) (j := (3 : Int32)) (v := z11) (by decide) (by decide) (by decide))
  have ko12_v : (gA o12 0 (4 : Int32).toNatClampNeg).toInt = z11.toInt := by rw [eo12]; exact congrArg Int32.toInt (upd_eq (g := gA o7 0) (i := (4 : Int32)) (v := z11))
  have hkpo12 : Kp [] [] o_me o12 := hkpo7.trans (by rw [eo12]; exact Kp.tA (by decide))
  have lp1 : ∀ (N1 : Nat) (v4_1 : Int32) (o_me_1 : Ob), IvX3 o_me_1 → Kp [] [] o_me o_me_1 → (0 ≤ v4_1.toInt ∧ v4_1.toInt ≤ 7) → (7 - v4_1.toInt).toNat < N1 → wp (lp_X3_setOrderWords_O_59 o_a0 o_a0_now  N1 (v4_1, o_me_1)) (fun (y : Ob) => IvX3 y ∧ Kp [] [] o_me y) := by
    intro N1
    induction N1 with
    | zero =>
      intro v4_1 o_me_1 hI_me_1 hkp_me_1 hh17 hN1
      exact absurd hN1 (Nat.not_lt_zero _)
    | succ N1 ihx =>
      have ih1 := ihx
      intro v4_1 o_me_1 hI_me_1 hkp_me_1 hh17 hN1
      show wp (lb_X3_setOrderWords_O_59 o_a0 o_a0_now  (lp_X3_setOrderWords_O_59 o_a0 o_a0_now  N1) v4_1 o_me_1) (fun (y : Ob) => IvX3 y ∧ Kp [] [] o_me y)
      unfold lb_X3_setOrderWords_O_59
      refine wp_if (fun c18 => ?_) (fun c18 => ?_)
      · have c18 := cv_ge (a := v4_1.toInt) (b := 7) rfl (by decide) c18
        refine wp_some ?_
        exact (show IvX3 o_me_1 ∧ Kp [] [] o_me o_me_1 from ⟨hI_me_1, hkp_me_1⟩)
      · have c18 := cv_nge (a := v4_1.toInt) (b := 7) rfl (by decide) c18
        have t19 : ((5 : Int32) + v4_1).toInt = 5 + v4_1.toInt := i32_add (by decide) rfl (by omega) (by omega)
        refine wp_bd (s_X2_isPerson o_a0 v4_1 hI_a0 ) (fun z20 hz20 => ?_)
        obtain ⟨hz20_0, hz20_1⟩ := hz20
        refine wp_if (fun c21 => ?_) (fun c21 => ?_)
        · have c21 := cv_eq (a := z20.toInt) (b := 0) rfl (by decide) c21
          obtain ⟨w22, ew22⟩ : ∃ z : Int32, z = (-1 : Int32) := ⟨_, rfl⟩
          have tw22 : w22.toInt = (-1) := by rw [ew22]; decide
          obtain ⟨w23, ew23⟩ : ∃ z : Int32, z = (5 : Int32) + v4_1 := ⟨_, rfl⟩
          have tw23 : w23.toInt = ((5 : Int32) + v4_1).toInt := by rw [ew23]
          rw [show bk_X3_setOrderWords_O_97 o_a0 o_a0_now (lp_X3_setOrderWords_O_59 o_a0 o_a0_now  N1) v4_1 (-1 : Int32) ((5 : Int32) + v4_1) o_me_1 = bk_X3_setOrderWords_O_97 o_a0 o_a0_now (lp_X3_setOrderWords_O_59 o_a0 o_a0_now  N1) v4_1 w22 w23 o_me_1 from by rw [ew22, ew23]]
          unfold bk_X3_setOrderWords_O_97
          refine wp_gd (zin_of (m := 19) rfl (by omega) (by omega)) ?_
          refine wp_lt (fun o24 eo24 => ?_)
          have hIo24 : IvX3 o24 := by rw [eo24]; exact hI_me_1
          have ko24_v : (gA o24 0 w23.toNatClampNeg).toInt = w22.toInt := by rw [eo24]; exact congrArg Int32.toInt (upd_eq (g := gA o_me_1 0) (i := w23) (v := w22))
          have hkpo24 : Kp [] [] o_me o24 := hkp_me_1.trans (by rw [eo24]; exact Kp.tA (by decide))
          have t25 : ((12 : Int32) + v4_1).toInt = 12 + v4_1.toInt := i32_add (by decide) rfl (by omega) (by omega)
          refine wp_bd (s_X2_isPerson o_a0 v4_1 hI_a0 ) (fun z26 hz26 => ?_)
          obtain ⟨hz26_0, hz26_1⟩ := hz26
          refine wp_if (fun c27 => ?_) (fun c27 => ?_)
          · have c27 := cv_eq (a := z26.toInt) (b := 0) rfl (by decide) c27
            obtain ⟨w28, ew28⟩ : ∃ z : Int32, z = (-1 : Int32) := ⟨_, rfl⟩
            have tw28 : w28.toInt = (-1) := by rw [ew28]; decide
            obtain ⟨w29, ew29⟩ : ∃ z : Int32, z = (12 : Int32) + v4_1 := ⟨_, rfl⟩
            have tw29 : w29.toInt = ((12 : Int32) + v4_1).toInt := by rw [ew29]
            rw [show bk_X3_setOrderWords_O_130 o_a0 o_a0_now (lp_X3_setOrderWords_O_59 o_a0 o_a0_now  N1) v4_1 (-1 : Int32) ((12 : Int32) + v4_1) o24 = bk_X3_setOrderWords_O_130 o_a0 o_a0_now (lp_X3_setOrderWords_O_59 o_a0 o_a0_now  N1) v4_1 w28 w29 o24 from by rw [ew28, ew29]]
            unfold bk_X3_setOrderWords_O_130
            refine wp_gd (zin_of (m := 19) rfl (by omega) (by omega)) ?_
            refine wp_lt (fun o30 eo30 => ?_)
            have hIo30 : IvX3 o30 := by rw [eo30]; exact hIo24
            have ko30_k31 : (gA o30 0 w23.toNatClampNeg).toInt = (gA o24 0 w23.toNatClampNeg).toInt := by rw [eo30]; exact congrArg Int32.toInt (upd_ne (g := gA o24 0) (i := w29) (j := w23) (v := w28) (by omega) (by omega) (by omega))
            have ko30_v : (gA o30 0 w29.toNatClampNeg).toInt = w28.toInt := by rw [eo30]; exact congrArg Int32.toInt (upd_eq (g := gA o24 0) (i := w29) (v := w28))
            have hkpo30 : Kp [] [] o_me o30 := hkpo24.trans (by rw [eo30]; exact Kp.tA (by decide))
            refine wp_lt (fun x32 ex32 => ?_)
            have tx32 : x32.toInt = v4_1.toInt + 1 := by rw [ex32]; exact i32_add rfl (by decide) (by omega) (by omega)
            exact ih1 x32 o30 hIo30 hkpo30 ⟨by omega, by omega⟩ (by omega)
          · have c27z := c27
            have c27i := hz26_1 c27
            have c27 := cv_ne (a := z26.toInt) (b := 0) rfl (by decide) c27
            refine wp_gd (zin_of (m := 7) rfl (by omega) (by omega)) ?_
            have t33 := iaX4_0_0 hI_a0_now (j := v4_1) (by omega) (by omega)
            obtain ⟨w34, ew34⟩ : ∃ z : Int32, z = gA o_a0_now 0 v4_1.toNatClampNeg := ⟨_, rfl⟩
            have tw34 : w34.toInt = (gA o_a0_now 0 v4_1.toNatClampNeg).toInt := by rw [ew34]
            obtain ⟨w35, ew35⟩ : ∃ z : Int32, z = (12 : Int32) + v4_1 := ⟨_, rfl⟩
            have tw35 : w35.toInt = ((12 : Int32) + v4_1).toInt := by rw [ew35]
            rw [show bk_X3_setOrderWords_O_130 o_a0 o_a0_now (lp_X3_setOrderWords_O_59 o_a0 o_a0_now  N1) v4_1 (gA o_a0_now 0 v4_1.toNatClampNeg) ((12 : Int32) + v4_1) o24 = bk_X3_setOrderWords_O_130 o_a0 o_a0_now (lp_X3_setOrderWords_O_59 o_a0 o_a0_now  N1) v4_1 w34 w35 o24 from by rw [ew34, ew35]]
            unfold bk_X3_setOrderWords_O_130
            refine wp_gd (zin_of (m := 19) rfl (by omega) (by omega)) ?_
            refine wp_lt (fun o36 eo36 => ?_)
            have hIo36 : IvX3 o36 := by rw [eo36]; exact hIo24
            have ko36_k37 : (gA o36 0 w23.toNatClampNeg).toInt = (gA o24 0 w23.toNatClampNeg).toInt := by rw [eo36]; exact congrArg Int32.toInt (upd_ne (g := gA o24 0) (i := w35) (j := w23) (v := w34) (by omega) (by omega) (by omega))
            have ko36_v : (gA o36 0 w35.toNatClampNeg).toInt = w34.toInt := by rw [eo36]; exact congrArg Int32.toInt (upd_eq (g := gA o24 0) (i := w35) (v := w34))
            have hkpo36 : Kp [] [] o_me o36 := hkpo24.trans (by rw [eo36]; exact Kp.tA (by decide))
            refine wp_lt (fun x38 ex38 => ?_)
            have tx38 : x38.toInt = v4_1.toInt + 1 := by rw [ex38]; exact i32_add rfl (by decide) (by omega) (by omega)
            exact ih1 x38 o36 hIo36 hkpo36 ⟨by omega, by omega⟩ (by omega)
        · have c21z := c21
          have c21i := hz20_1 c21
          have c21 := cv_ne (a := z20.toInt) (b := 0) rfl (by decide) c21
          refine wp_gd (zin_of (m := 7) rfl (by omega) (by omega)) ?_
          obtain ⟨w39, ew39⟩ : ∃ z : Int32, z = gA o_a0_now 1 v4_1.toNatClampNeg := ⟨_, rfl⟩
          have tw39 : w39.toInt = (gA o_a0_now 1 v4_1.toNatClampNeg).toInt := by rw [ew39]
          obtain ⟨w40, ew40⟩ : ∃ z : Int32, z = (5 : Int32) + v4_1 := ⟨_, rfl⟩
          have tw40 : w40.toInt = ((5 : Int32) + v4_1).toInt := by rw [ew40]
          rw [show bk_X3_setOrderWords_O_97 o_a0 o_a0_now (lp_X3_setOrderWords_O_59 o_a0 o_a0_now  N1) v4_1 (gA o_a0_now 1 v4_1.toNatClampNeg) ((5 : Int32) + v4_1) o_me_1 = bk_X3_setOrderWords_O_97 o_a0 o_a0_now (lp_X3_setOrderWords_O_59 o_a0 o_a0_now  N1) v4_1 w39 w40 o_me_1 from by rw [ew39, ew40]]
          unfold bk_X3_setOrderWords_O_97
          refine wp_gd (zin_of (m := 19) rfl (by omega) (by omega)) ?_
          refine wp_lt (fun o41 eo41 => ?_)
          have hIo41 : IvX3 o41 := by rw [eo41]; exact hI_me_1
          have ko41_v : (gA o41 0 w40.toNatClampNeg).toInt = w39.toInt := by rw [eo41]; exact congrArg Int32.toInt (upd_eq (g := gA o_me_1 0) (i := w40) (v := w39))
          have hkpo41 : Kp [] [] o_me o41 := hkp_me_1.trans (by rw [eo41]; exact Kp.tA (by decide))
          have t42 : ((12 : Int32) + v4_1).toInt = 12 + v4_1.toInt := i32_add (by decide) rfl (by omega) (by omega)
          refine wp_bd (s_X2_isPerson o_a0 v4_1 hI_a0 ) (fun z43 hz43 => ?_)
          obtain ⟨hz43_0, hz43_1⟩ := hz43
          refine wp_if (fun c44 => ?_) (fun c44 => ?_)
          · have c44 := cv_eq (a := z43.toInt) (b := 0) rfl (by decide) c44
            obtain ⟨w45, ew45⟩ : ∃ z : Int32, z = (-1 : Int32) := ⟨_, rfl⟩
            have tw45 : w45.toInt = (-1) := by rw [ew45]; decide
            obtain ⟨w46, ew46⟩ : ∃ z : Int32, z = (12 : Int32) + v4_1 := ⟨_, rfl⟩
            have tw46 : w46.toInt = ((12 : Int32) + v4_1).toInt := by rw [ew46]
            rw [show bk_X3_setOrderWords_O_130 o_a0 o_a0_now (lp_X3_setOrderWords_O_59 o_a0 o_a0_now  N1) v4_1 (-1 : Int32) ((12 : Int32) + v4_1) o41 = bk_X3_setOrderWords_O_130 o_a0 o_a0_now (lp_X3_setOrderWords_O_59 o_a0 o_a0_now  N1) v4_1 w45 w46 o41 from by rw [ew45, ew46]]
            unfold bk_X3_setOrderWords_O_130
            refine wp_gd (zin_of (m := 19) rfl (by omega) (by omega)) ?_
            refine wp_lt (fun o47 eo47 => ?_)
            have hIo47 : IvX3 o47 := by rw [eo47]; exact hIo41
            have ko47_k48 : (gA o47 0 w40.toNatClampNeg).toInt = (gA o41 0 w40.toNatClampNeg).toInt := by rw [eo47]; exact congrArg Int32.toInt (upd_ne (g := gA o41 0) (i := w46) (j := w40) (v := w45) (by omega) (by omega) (by omega))
            have ko47_v : (gA o47 0 w46.toNatClampNeg).toInt = w45.toInt := by rw [eo47]; exact congrArg Int32.toInt (upd_eq (g := gA o41 0) (i := w46) (v := w45))
            have hkpo47 : Kp [] [] o_me o47 := hkpo41.trans (by rw [eo47]; exact Kp.tA (by decide))
            refine wp_lt (fun x49 ex49 => ?_)
            have tx49 : x49.toInt = v4_1.toInt + 1 := by rw [ex49]; exact i32_add rfl (by decide) (by omega) (by omega)
            exact ih1 x49 o47 hIo47 hkpo47 ⟨by omega, by omega⟩ (by omega)
          · have c44z := c44
            have c44i := hz43_1 c44
            have c44 := cv_ne (a := z43.toInt) (b := 0) rfl (by decide) c44
            refine wp_gd (zin_of (m := 7) rfl (by omega) (by omega)) ?_
            have t50 := iaX4_0_0 hI_a0_now (j := v4_1) (by omega) (by omega)
            obtain ⟨w51, ew51⟩ : ∃ z : Int32, z = gA o_a0_now 0 v4_1.toNatClampNeg := ⟨_, rfl⟩
            have tw51 : w51.toInt = (gA o_a0_now 0 v4_1.toNatClampNeg).toInt := by rw [ew51]
            obtain ⟨w52, ew52⟩ : ∃ z : Int32, z = (12 : Int32) + v4_1 := ⟨_, rfl⟩
            have tw52 : w52.toInt = ((12 : Int32) + v4_1).toInt := by rw [ew52]
            rw [show bk_X3_setOrderWords_O_130 o_a0 o_a0_now (lp_X3_setOrderWords_O_59 o_a0 o_a0_now  N1) v4_1 (gA o_a0_now 0 v4_1.toNatClampNeg) ((12 : Int32) + v4_1) o41 = bk_X3_setOrderWords_O_130 o_a0 o_a0_now (lp_X3_setOrderWords_O_59 o_a0 o_a0_now  N1) v4_1 w51 w52 o41 from by rw [ew51, ew52]]
            unfold bk_X3_setOrderWords_O_130
            refine wp_gd (zin_of (m := 19) rfl (by omega) (by omega)) ?_
            refine wp_lt (fun o53 eo53 => ?_)
            have hIo53 : IvX3 o53 := by rw [eo53]; exact hIo41
            have ko53_k54 : (gA o53 0 w40.toNatClampNeg).toInt = (gA o41 0 w40.toNatClampNeg).toInt := by rw [eo53]; exact congrArg Int32.toInt (upd_ne (g := gA o41 0) (i := w52) (j := w40) (v := w51) (by omega) (by omega) (by omega))
            have ko53_v : (gA o53 0 w52.toNatClampNeg).toInt = w51.toInt := by rw [eo53]; exact congrArg Int32.toInt (upd_eq (g := gA o41 0) (i := w52) (v := w51))
            have hkpo53 : Kp [] [] o_me o53 := hkpo41.trans (by rw [eo53]; exact Kp.tA (by decide))
            refine wp_lt (fun x55 ex55 => ?_)
            have tx55 : x55.toInt = v4_1.toInt + 1 := by rw [ex55]; exact i32_add rfl (by decide) (by omega) (by omega)
            exact ih1 x55 o53 hIo53 hkpo53 ⟨by omega, by omega⟩ (by omega)
  exact lp1 zfu (0 : Int32) o12 hIo12 hkpo12 ⟨by decide, by decide⟩ (by show _ < 100000; omega)

set_option maxHeartbeats 4000000 in
set_option maxRecDepth 100000 in
theorem s_X8_isTrade (p0 : Int32)  : wp (f_X8_isTrade  p0) (fun (y : Int32) => (0 ≤ y.toInt ∧ y.toInt ≤ 1) ∧ (¬ y = 0 → (0 ≤ p0.toInt ∧ p0.toInt ≤ 9))) := by
  have li0 : (0 : Int32).toInt = 0 := by decide
  have li1 : (1 : Int32).toInt = 1 := by decide
  have li2 : (10 : Int32).toInt = 10 := by decide
  unfold f_X8_isTrade
  refine wp_if (fun c1 => ?_) (fun c1 => ?_)
  · have c1 := cv_lt (a := p0.toInt) (b := 0) rfl (by decide) c1
    refine wp_some ?_
    exact (show (0 ≤ (0 : Int32).toInt ∧ (0 : Int32).toInt ≤ 1) ∧ (¬ (0 : Int32) = 0 → (0 ≤ p0.toInt ∧ p0.toInt ≤ 9)) from ⟨⟨by decide, by decide⟩, (fun h9 => absurd rfl h9)⟩)
  · have c1 := cv_nlt (a := p0.toInt) (b := 0) rfl (by decide) c1
    refine wp_if (fun c2 => ?_) (fun c2 => ?_)
    · have c2 := cv_ge (a := p0.toInt) (b := 10) rfl (by decide) c2
      refine wp_some ?_
      exact (show (0 ≤ (0 : Int32).toInt ∧ (0 : Int32).toInt ≤ 1) ∧ (¬ (0 : Int32) = 0 → (0 ≤ p0.toInt ∧ p0.toInt ≤ 9)) from ⟨⟨by decide, by decide⟩, (fun h9 => absurd rfl h9)⟩)
    · have c2 := cv_nge (a := p0.toInt) (b := 10) rfl (by decide) c2
      refine wp_some ?_
      exact (show (0 ≤ (1 : Int32).toInt ∧ (1 : Int32).toInt ≤ 1) ∧ (¬ (1 : Int32) = 0 → (0 ≤ p0.toInt ∧ p0.toInt ≤ 9)) from ⟨⟨by decide, by decide⟩, (fun h9 => ⟨by omega, by omega⟩)⟩)

set_option maxHeartbeats 4000000 in
set_option maxRecDepth 100000 in
theorem s_X5_clear (o_me : Ob) (hI_me : IvX5 o_me)  : wp (f_X5_clear  o_me) (fun (y : Ob) => IvX5 y ∧ Kp [] [] o_me y) := by
  have li0 : (0 : Int32).toInt = 0 := by decide
  unfold f_X5_clear
  refine wp_lt (fun o1 eo1 => ?_)
  have hIo1 : IvX5 o1 := by rw [eo1]; exact ipX5_2 hI_me ⟨by decide, by decide⟩
  have ko1_v : (gI o1 2).toInt = 0 := by rw [eo1]; exact (show ((0 : Int32)).toInt = _ from by decide)
  have hkpo1 : Kp [] [] o_me o1 := Kp.rf.trans (by rw [eo1]; exact Kp.sI (by decide))
  refine wp_lt (fun o2 eo2 => ?_)
  have hIo2 : IvX5 o2 := by rw [eo2]; exact ipX5_3 hIo1 ⟨by decide, by decide⟩
  have ko2_k3 : (gI o2 2).toInt = (gI o1 2).toInt := by rw [eo2]; rfl
  have ko2_v : (gI o2 3).toInt = 0 := by rw [eo2]; exact (show ((0 : Int32)).toInt = _ from by decide)
  have hkpo2 : Kp [] [] o_me o2 := hkpo1.trans (by rw [eo2]; exact Kp.sI (by decide))
  refine wp_some ?_
  exact (show IvX5 o2 ∧ Kp [] [] o_me o2 from ⟨hIo2, hkpo2⟩)

set_option maxHeartbeats 4000000 in
set_option maxRecDepth 100000 in
theorem s_X2_addPerson (o_me : Ob) (o_me_now : Ob) (p0 : Int32) (p1 : Int32) (hI_me : IvX2 o_me) (hI_me_now : IvX4 o_me_now) (q0 : 0 ≤ p0.toInt ∧ p0.toInt ≤ 9) (q1 : (-1) ≤ p1.toInt ∧ p1.toInt ≤ 6) : wp (f_X2_addPerson  o_me o_me_now p0 p1) (fun (y : Int32 × Ob × Ob) => ((-1) ≤ y.1.toInt ∧ y.1.toInt ≤ 6) ∧ IvX2 y.2.1 ∧ Kp [8, 9, 10] [4] o_me y.2.1 ∧ IvX4 y.2.2 ∧ Kp [] [] o_me_now y.2.2) := by
  have li0 : (-1 : Int32).toInt = (-1) := by decide
  have li1 : (1 : Int32).toInt = 1 := by decide
  have li2 : (7 : Int32).toInt = 7 := by decide
  unfold f_X2_addPerson
  have t1 := igX2_7 hI_me
  refine wp_if (fun c2 => ?_) (fun c2 => ?_)
  · have c2 := cv_lt (a := (gI o_me 7).toInt) (b := 7) rfl (by decide) c2
    refine wp_gd (zin_of (m := 7) rfl (by omega) (by omega)) ?_
    refine wp_lt (fun o3 eo3 => ?_)
    have hIo3 : IvX4 o3 := by rw [eo3]; exact ibX4_0 hI_me_now (by omega) (Or.inr (Or.inr ⟨by omega, by omega⟩))
    have ko3_v : (gA o3 0 (gI o_me 7).toNatClampNeg).toInt = p0.toInt := by rw [eo3]; exact congrArg Int32.toInt (upd_eq (g := gA o_me_now 0) (i := (gI o_me 7)) (v := p0))
    have hkpo3 : Kp [] [] o_me_now o3 := Kp.rf.trans (by rw [eo3]; exact Kp.tA (by decide))
    refine wp_gd (zin_of (m := 7) rfl (by omega) (by omega)) ?_
    refine wp_lt (fun o4 eo4 => ?_)
    have hIo4 : IvX2 o4 := by rw [eo4]; exact hI_me
    have ko4_k5 : (gI o4 7).toInt = (gI o_me 7).toInt := by rw [eo4]; rfl
    have ko4_v : (gA o4 1 (gI o_me 7).toNatClampNeg).toInt = p1.toInt := by rw [eo4]; exact congrArg Int32.toInt (upd_eq (g := gA o_me 1) (i := (gI o_me 7)) (v := p1))
    have hkpo4 : Kp [8, 9, 10] [4] o_me o4 := Kp.rf.trans (by rw [eo4]; exact Kp.tA (by decide))
    have t6 : ((gI o4 7) + (1 : Int32)).toInt = (gI o4 7).toInt + 1 := i32_add rfl (by decide) (by omega) (by omega)
    refine wp_lt (fun o7 eo7 => ?_)
    have hIo7 : IvX2 o7 := by rw [eo7]; exact ipX2_7 hIo4 ⟨by omega, by omega⟩
    have ko7_k8 : (gA o7 1 (gI o_me 7).toNatClampNeg).toInt = (gA o4 1 (gI o_me 7).toNatClampNeg).toInt := by rw [eo7]; rfl
    have ko7_v : (gI o7 7).toInt = ((gI o4 7) + (1 : Int32)).toInt := by rw [eo7]; rfl
    have hkpo7 : Kp [8, 9, 10] [4] o_me o7 := hkpo4.trans (by rw [eo7]; exact Kp.sI (by decide))
    have t9 : ((gI o7 7) - (1 : Int32)).toInt = (gI o7 7).toInt - 1 := i32_sub rfl (by decide) (by omega) (by omega)
    refine wp_some ?_
    exact (show ((-1) ≤ ((gI o7 7) - (1 : Int32)).toInt ∧ ((gI o7 7) - (1 : Int32)).toInt ≤ 6) ∧ IvX2 o7 ∧ Kp [8, 9, 10] [4] o_me o7 ∧ IvX4 o3 ∧ Kp [] [] o_me_now o3 from ⟨⟨by omega, by omega⟩, hIo7, hkpo7, hIo3, hkpo3⟩)
  · have c2 := cv_nlt (a := (gI o_me 7).toInt) (b := 7) rfl (by decide) c2
    refine wp_some ?_
    exact (show ((-1) ≤ (-1 : Int32).toInt ∧ (-1 : Int32).toInt ≤ 6) ∧ IvX2 o_me ∧ Kp [8, 9, 10] [4] o_me o_me ∧ IvX4 o_me_now ∧ Kp [] [] o_me_now o_me_now from ⟨⟨by decide, by decide⟩, hI_me, Kp.rf, hI_me_now, Kp.rf⟩)

set_option maxHeartbeats 4000000 in
set_option maxRecDepth 100000 in
theorem s_X8_person (o_me : Ob) (o_me_isles : Ob) (o_me_isles_now : Ob) (o_me_past : Ob) (p0 : Int32) (p1 : Int32) (hI_me : IvX8 o_me) (hI_me_isles : IvX2 o_me_isles) (hI_me_isles_now : IvX4 o_me_isles_now) (hI_me_past : IvX5 o_me_past)  : wp (f_X8_person  o_me o_me_isles o_me_isles_now o_me_past p0 p1) (fun (y : Int32 × Ob × Ob × Ob × Ob) => IvX8 y.2.1 ∧ Kp [] [] o_me y.2.1 ∧ IvX2 y.2.2.1 ∧ Kp [8, 9, 10] [4] o_me_isles y.2.2.1 ∧ IvX4 y.2.2.2.1 ∧ Kp [] [] o_me_isles_now y.2.2.2.1 ∧ IvX5 y.2.2.2.2 ∧ Kp [] [] o_me_past y.2.2.2.2) := by
  have li0 : (-1 : Int32).toInt = (-1) := by decide
  have li1 : (-5 : Int32).toInt = (-5) := by decide
  have li2 : (7 : Int32).toInt = 7 := by decide
  unfold f_X8_person
  refine wp_bd (s_X8_isTrade p0  ) (fun z1 hz1 => ?_)
  obtain ⟨hz1_0, hz1_1⟩ := hz1
  refine wp_if (fun c2 => ?_) (fun c2 => ?_)
  · have c2 := cv_eq (a := z1.toInt) (b := 0) rfl (by decide) c2
    unfold bk_X8_person_23
    refine wp_bd (s_X8_refuse o_me (-1 : Int32) hI_me ) (fun z3 hz3 => ?_)
    obtain ⟨hz3_0, hz3_1⟩ := hz3
    have hkpz3_me : Kp [] [] o_me z3.2 := Kp.rf.trans (hz3_1.mono (by decide) (by decide))
    refine wp_some ?_
    exact (show IvX8 z3.2 ∧ Kp [] [] o_me z3.2 ∧ IvX2 o_me_isles ∧ Kp [8, 9, 10] [4] o_me_isles o_me_isles ∧ IvX4 o_me_isles_now ∧ Kp [] [] o_me_isles_now o_me_isles_now ∧ IvX5 o_me_past ∧ Kp [] [] o_me_past o_me_past from ⟨hz3_0, hkpz3_me, hI_me_isles, Kp.rf, hI_me_isles_now, Kp.rf, hI_me_past, Kp.rf⟩)
  · have c2z := c2
    have c2i := hz1_1 c2
    have c2 := cv_ne (a := z1.toInt) (b := 0) rfl (by decide) c2
    refine wp_if (fun c4 => ?_) (fun c4 => ?_)
    · have c4 := cv_eq (a := p1.toInt) (b := (-1)) rfl (by decide) c4
      unfold bk_X8_person_29
      have t5 := igX2_7 hI_me_isles
      refine wp_if (fun c6 => ?_) (fun c6 => ?_)
      · have c6 := cv_lt (a := (gI o_me_isles 7).toInt) (b := 7) rfl (by decide) c6
        refine wp_bd (s_X5_clear o_me_past hI_me_past ) (fun z7 hz7 => ?_)
        obtain ⟨hz7_0, hz7_1⟩ := hz7
        have hkpz7_me_past : Kp [] [] o_me_past z7 := Kp.rf.trans (hz7_1.mono (by decide) (by decide))
        refine wp_bd (s_X2_addPerson o_me_isles o_me_isles_now p0 p1 hI_me_isles hI_me_isles_now ⟨by omega, by omega⟩ ⟨by omega, by omega⟩) (fun z8 hz8 => ?_)
        obtain ⟨hz8_0, hz8_1, hz8_2, hz8_3, hz8_4⟩ := hz8
        have hkpz8_me_isles : Kp [8, 9, 10] [4] o_me_isles z8.2.1 := Kp.rf.trans (hz8_2.mono (by decide) (by decide))
        have hkpz8_me_isles_now : Kp [] [] o_me_isles_now z8.2.2 := Kp.rf.trans (hz8_4.mono (by decide) (by decide))
        refine wp_bd (s_X8_grant o_me z8.1 hI_me ) (fun z9 hz9 => ?_)
        obtain ⟨hz9_0, hz9_1⟩ := hz9
        have hkpz9_me : Kp [] [] o_me z9.2 := Kp.rf.trans (hz9_1.mono (by decide) (by decide))
        refine wp_some ?_
        exact (show IvX8 z9.2 ∧ Kp [] [] o_me z9.2 ∧ IvX2 z8.2.1 ∧ Kp [8, 9, 10] [4] o_me_isles z8.2.1 ∧ IvX4 z8.2.2 ∧ Kp [] [] o_me_isles_now z8.2.2 ∧ IvX5 z7 ∧ Kp [] [] o_me_past z7 from ⟨hz9_0, hkpz9_me, hz8_1, hkpz8_me_isles, hz8_3, hkpz8_me_isles_now, hz7_0, hkpz7_me_past⟩)
      · have c6 := cv_nlt (a := (gI o_me_isles 7).toInt) (b := 7) rfl (by decide) c6
        refine wp_bd (s_X8_refuse o_me (-5 : Int32) hI_me ) (fun z10 hz10 => ?_)
        obtain ⟨hz10_0, hz10_1⟩ := hz10
        have hkpz10_me : Kp [] [] o_me z10.2 := Kp.rf.trans (hz10_1.mono (by decide) (by decide))
        refine wp_some ?_
        exact (show IvX8 z10.2 ∧ Kp [] [] o_me z10.2 ∧ IvX2 o_me_isles ∧ Kp [8, 9, 10] [4] o_me_isles o_me_isles ∧ IvX4 o_me_isles_now ∧ Kp [] [] o_me_isles_now o_me_isles_now ∧ IvX5 o_me_past ∧ Kp [] [] o_me_past o_me_past from ⟨hz10_0, hkpz10_me, hI_me_isles, Kp.rf, hI_me_isles_now, Kp.rf, hI_me_past, Kp.rf⟩)
    · have c4 := cv_ne (a := p1.toInt) (b := (-1)) rfl (by decide) c4
      refine wp_bd (s_X2_isPerson o_me_isles p1 hI_me_isles ) (fun z11 hz11 => ?_)
      obtain ⟨hz11_0, hz11_1⟩ := hz11
      refine wp_if (fun c12 => ?_) (fun c12 => ?_)
      · have c12 := cv_eq (a := z11.toInt) (b := 0) rfl (by decide) c12
        unfold bk_X8_person_23
        refine wp_bd (s_X8_refuse o_me (-1 : Int32) hI_me ) (fun z13 hz13 => ?_)
        obtain ⟨hz13_0, hz13_1⟩ := hz13
        have hkpz13_me : Kp [] [] o_me z13.2 := Kp.rf.trans (hz13_1.mono (by decide) (by decide))
        refine wp_some ?_
        exact (show IvX8 z13.2 ∧ Kp [] [] o_me z13.2 ∧ IvX2 o_me_isles ∧ Kp [8, 9, 10] [4] o_me_isles o_me_isles ∧ IvX4 o_me_isles_now ∧ Kp [] [] o_me_isles_now o_me_isles_now ∧ IvX5 o_me_past ∧ Kp [] [] o_me_past o_me_past from ⟨hz13_0, hkpz13_me, hI_me_isles, Kp.rf, hI_me_isles_now, Kp.rf, hI_me_past, Kp.rf⟩)
      · have c12z := c12
        have c12i := hz11_1 c12
        have c12 := cv_ne (a := z11.toInt) (b := 0) rfl (by decide) c12
        unfold bk_X8_person_29
        have t14 := igX2_7 hI_me_isles
        refine wp_if (fun c15 => ?_) (fun c15 => ?_)
        · have c15 := cv_lt (a := (gI o_me_isles 7).toInt) (b := 7) rfl (by decide) c15
          refine wp_bd (s_X5_clear o_me_past hI_me_past ) (fun z16 hz16 => ?_)
          obtain ⟨hz16_0, hz16_1⟩ := hz16
          have hkpz16_me_past : Kp [] [] o_me_past z16 := Kp.rf.trans (hz16_1.mono (by decide) (by decide))
          refine wp_bd (s_X2_addPerson o_me_isles o_me_isles_now p0 p1 hI_me_isles hI_me_isles_now ⟨by omega, by omega⟩ ⟨by omega, by omega⟩) (fun z17 hz17 => ?_)
          obtain ⟨hz17_0, hz17_1, hz17_2, hz17_3, hz17_4⟩ := hz17
          have hkpz17_me_isles : Kp [8, 9, 10] [4] o_me_isles z17.2.1 := Kp.rf.trans (hz17_2.mono (by decide) (by decide))
          have hkpz17_me_isles_now : Kp [] [] o_me_isles_now z17.2.2 := Kp.rf.trans (hz17_4.mono (by decide) (by decide))
          refine wp_bd (s_X8_grant o_me z17.1 hI_me ) (fun z18 hz18 => ?_)
          obtain ⟨hz18_0, hz18_1⟩ := hz18
          have hkpz18_me : Kp [] [] o_me z18.2 := Kp.rf.trans (hz18_1.mono (by decide) (by decide))
          refine wp_some ?_
          exact (show IvX8 z18.2 ∧ Kp [] [] o_me z18.2 ∧ IvX2 z17.2.1 ∧ Kp [8, 9, 10] [4] o_me_isles z17.2.1 ∧ IvX4 z17.2.2 ∧ Kp [] [] o_me_isles_now z17.2.2 ∧ IvX5 z16 ∧ Kp [] [] o_me_past z16 from ⟨hz18_0, hkpz18_me, hz17_1, hkpz17_me_isles, hz17_3, hkpz17_me_isles_now, hz16_0, hkpz16_me_past⟩)
        · have c15 := cv_nlt (a := (gI o_me_isles 7).toInt) (b := 7) rfl (by decide) c15
          refine wp_bd (s_X8_refuse o_me (-5 : Int32) hI_me ) (fun z19 hz19 => ?_)
          obtain ⟨hz19_0, hz19_1⟩ := hz19
          have hkpz19_me : Kp [] [] o_me z19.2 := Kp.rf.trans (hz19_1.mono (by decide) (by decide))
          refine wp_some ?_
          exact (show IvX8 z19.2 ∧ Kp [] [] o_me z19.2 ∧ IvX2 o_me_isles ∧ Kp [8, 9, 10] [4] o_me_isles o_me_isles ∧ IvX4 o_me_isles_now ∧ Kp [] [] o_me_isles_now o_me_isles_now ∧ IvX5 o_me_past ∧ Kp [] [] o_me_past o_me_past from ⟨hz19_0, hkpz19_me, hI_me_isles, Kp.rf, hI_me_isles_now, Kp.rf, hI_me_past, Kp.rf⟩)

set_option maxHeartbeats 4000000 in
set_option maxRecDepth 100000 in
theorem s_X8_tellRow (o_me : Ob) (o_me_reader : Ob) (o_me_isles : Ob) (p0 : Int32) (hI_me : IvX8 o_me) (hI_me_reader : IvX6 o_me_reader) (hI_me_isles : IvX2 o_me_isles)  : wp (f_X8_tellRow  o_me o_me_reader o_me_isles p0) (fun (y : Int32 × Ob) => (0 ≤ y.1.toInt ∧ y.1.toInt ≤ 1) ∧ IvX2 y.2 ∧ Kp [7, 8, 9, 10] [4] o_me_isles y.2) := by
  have li0 : (0 : Int32).toInt = 0 := by decide
  have li1 : (1 : Int32).toInt = 1 := by decide
  have li2 : (4 : Int32).toInt = 4 := by decide
  have li3 : (9 : Int32).toInt = 9 := by decide
  unfold f_X8_tellRow
  refine wp_bd (s_X6_byteAt o_me_reader p0 hI_me_reader ) (fun z1 hz1 => ?_)
  refine wp_bd (s_X2_isPerson o_me_isles z1 hI_me_isles ) (fun z2 hz2 => ?_)
  obtain ⟨hz2_0, hz2_1⟩ := hz2
  refine wp_if (fun c3 => ?_) (fun c3 => ?_)
  · have c3 := cv_eq (a := z2.toInt) (b := 0) rfl (by decide) c3
    refine wp_some ?_
    exact (show (0 ≤ (0 : Int32).toInt ∧ (0 : Int32).toInt ≤ 1) ∧ IvX2 o_me_isles ∧ Kp [7, 8, 9, 10] [4] o_me_isles o_me_isles from ⟨⟨by decide, by decide⟩, hI_me_isles, Kp.rf⟩)
  · have c3z := c3
    have c3i := hz2_1 c3
    have c3 := cv_ne (a := z2.toInt) (b := 0) rfl (by decide) c3
    have lp1 : ∀ (N1 : Nat) (v1_1 : Int32) (v2_1 : Int32) (v3_1 : Int32) (o_me_isles_1 : Ob), IvX2 o_me_isles_1 → Kp [7, 8, 9, 10] [4] o_me_isles o_me_isles_1 → (0 ≤ v2_1.toInt ∧ v2_1.toInt ≤ 6) → (0 ≤ v3_1.toInt ∧ v3_1.toInt ≤ 4) → (v2_1.toInt ≤ z1.toInt + 0) → (z1.toInt ≤ v2_1.toInt + 0) → (4 - v3_1.toInt).toNat < N1 → wp (lp_X8_tellRow_24 o_me o_me_reader  N1 (v1_1, v2_1, v3_1, o_me_isles_1)) (fun (y : Int32 × Ob) => (0 ≤ y.1.toInt ∧ y.1.toInt ≤ 1) ∧ IvX2 y.2 ∧ Kp [7, 8, 9, 10] [4] o_me_isles y.2) := by
      intro N1
      induction N1 with
      | zero =>
        intro v1_1 v2_1 v3_1 o_me_isles_1 hI_me_isles_1 hkp_me_isles_1 hh4 hh5 hh6 hh7 hN1
        exact absurd hN1 (Nat.not_lt_zero _)
      | succ N1 ihx =>
        have ih1 := ihx
        intro v1_1 v2_1 v3_1 o_me_isles_1 hI_me_isles_1 hkp_me_isles_1 hh4 hh5 hh6 hh7 hN1
        show wp (lb_X8_tellRow_24 o_me o_me_reader  (lp_X8_tellRow_24 o_me o_me_reader  N1) v1_1 v2_1 v3_1 o_me_isles_1) (fun (y : Int32 × Ob) => (0 ≤ y.1.toInt ∧ y.1.toInt ≤ 1) ∧ IvX2 y.2 ∧ Kp [7, 8, 9, 10] [4] o_me_isles y.2)
        unfold lb_X8_tellRow_24
        refine wp_if (fun c8 => ?_) (fun c8 => ?_)
        · have c8 := cv_ge (a := v3_1.toInt) (b := 4) rfl (by decide) c8
          have lp2 : ∀ (N2 : Nat) (v1_2 : Int32) (v2_2 : Int32) (v3_2 : Int32) (o_me_isles_2 : Ob), IvX2 o_me_isles_2 → Kp [7, 8, 9, 10] [4] o_me_isles o_me_isles_2 → (0 ≤ v2_2.toInt ∧ v2_2.toInt ≤ 6) → (0 ≤ v3_2.toInt ∧ v3_2.toInt ≤ 4) → (v2_2.toInt ≤ z1.toInt + 0) → (z1.toInt ≤ v2_2.toInt + 0) → (v2_2.toInt ≤ v2_1.toInt + 0) → (v2_1.toInt ≤ v2_2.toInt + 0) → (4 - v3_2.toInt).toNat < N2 → wp (lp_X8_tellRow_65 o_me o_me_reader  N2 (v1_2, v2_2, v3_2, o_me_isles_2)) (fun (y : Int32 × Ob) => (0 ≤ y.1.toInt ∧ y.1.toInt ≤ 1) ∧ IvX2 y.2 ∧ Kp [7, 8, 9, 10] [4] o_me_isles y.2) := by
            intro N2
            induction N2 with
            | zero =>
              intro v1_2 v2_2 v3_2 o_me_isles_2 hI_me_isles_2 hkp_me_isles_2 hh9 hh10 hh11 hh12 hh13 hh14 hN2
              exact absurd hN2 (Nat.not_lt_zero _)
            | succ N2 ihx =>
              have ih2 := ihx
              intro v1_2 v2_2 v3_2 o_me_isles_2 hI_me_isles_2 hkp_me_isles_2 hh9 hh10 hh11 hh12 hh13 hh14 hN2
              show wp (lb_X8_tellRow_65 o_me o_me_reader  (lp_X8_tellRow_65 o_me o_me_reader  N2) v1_2 v2_2 v3_2 o_me_isles_2) (fun (y : Int32 × Ob) => (0 ≤ y.1.toInt ∧ y.1.toInt ≤ 1) ∧ IvX2 y.2 ∧ Kp [7, 8, 9, 10] [4] o_me_isles y.2)
              unfold lb_X8_tellRow_65
              refine wp_if (fun c15 => ?_) (fun c15 => ?_)
              · have c15 := cv_ge (a := v3_2.toInt) (b := 4) rfl (by decide) c15
                refine wp_some ?_
                exact (show (0 ≤ (1 : Int32).toInt ∧ (1 : Int32).toInt ≤ 1) ∧ IvX2 o_me_isles_2 ∧ Kp [7, 8, 9, 10] [4] o_me_isles o_me_isles_2 from ⟨⟨by decide, by decide⟩, hI_me_isles_2, hkp_me_isles_2⟩)
              · have c15 := cv_nge (a := v3_2.toInt) (b := 4) rfl (by decide) c15
                have t16 : (v2_2 * (4 : Int32)).toInt = v2_2.toInt * 4 := i32_mul rfl (by decide) (by omega) (by omega)
                have t17 : ((v2_2 * (4 : Int32)) + v3_2).toInt = (v2_2 * (4 : Int32)).toInt + v3_2.toInt := i32_add rfl rfl (by omega) (by omega)
                refine wp_bd (s_X6_byteAt o_me_reader ((v1_2 + (1 : Int32)) + v3_2) hI_me_reader ) (fun z18 hz18 => ?_)
                refine wp_gd (zin_of (m := 28) rfl (by omega) (by omega)) ?_
                refine wp_lt (fun o19 eo19 => ?_)
                have hIo19 : IvX2 o19 := by rw [eo19]; exact hI_me_isles_2
                have ko19_v : (gA o19 2 ((v2_2 * (4 : Int32)) + v3_2).toNatClampNeg).toInt = z18.toInt := by rw [eo19]; exact congrArg Int32.toInt (upd_eq (g := gA o_me_isles_2 2) (i := ((v2_2 * (4 : Int32)) + v3_2)) (v := z18))
                have hkpo19 : Kp [7, 8, 9, 10] [4] o_me_isles o19 := hkp_me_isles_2.trans (by rw [eo19]; exact Kp.tA (by decide))
                refine wp_lt (fun x20 ex20 => ?_)
                have tx20 : x20.toInt = v3_2.toInt + 1 := by rw [ex20]; exact i32_add rfl (by decide) (by omega) (by omega)
                exact ih2 v1_2 v2_2 x20 o19 hIo19 hkpo19 ⟨by omega, by omega⟩ ⟨by omega, by omega⟩ (by omega) (by omega) (by omega) (by omega) (by omega)
          exact lp2 zfu v1_1 v2_1 (0 : Int32) o_me_isles_1 hI_me_isles_1 hkp_me_isles_1 ⟨by omega, by omega⟩ ⟨by decide, by decide⟩ (by omega) (by omega) (by omega) (by omega) (by show _ < 100000; omega)
        · have c8 := cv_nge (a := v3_1.toInt) (b := 4) rfl (by decide) c8
          refine wp_bd (s_X6_byteAt o_me_reader ((v1_1 + (1 : Int32)) + v3_1) hI_me_reader ) (fun z21 hz21 => ?_)
          refine wp_if (fun c22 => ?_) (fun c22 => ?_)
          · have c22 := cv_lt (a := z21.toInt) (b := 0) rfl (by decide) c22
            refine wp_some ?_
            exact (show (0 ≤ (0 : Int32).toInt ∧ (0 : Int32).toInt ≤ 1) ∧ IvX2 o_me_isles_1 ∧ Kp [7, 8, 9, 10] [4] o_me_isles o_me_isles_1 from ⟨⟨by decide, by decide⟩, hI_me_isles_1, hkp_me_isles_1⟩)
          · have c22 := cv_nlt (a := z21.toInt) (b := 0) rfl (by decide) c22
            refine wp_if (fun c23 => ?_) (fun c23 => ?_)
            · have c23 := cv_le (a := z21.toInt) (b := 9) rfl (by decide) c23
              refine wp_lt (fun x24 ex24 => ?_)
              have tx24 : x24.toInt = v3_1.toInt + 1 := by rw [ex24]; exact i32_add rfl (by decide) (by omega) (by omega)
              exact ih1 v1_1 v2_1 x24 o_me_isles_1 hI_me_isles_1 hkp_me_isles_1 ⟨by omega, by omega⟩ ⟨by omega, by omega⟩ (by omega) (by omega) (by omega)
            · have c23 := cv_nle (a := z21.toInt) (b := 9) rfl (by decide) c23
              refine wp_some ?_
              exact (show (0 ≤ (0 : Int32).toInt ∧ (0 : Int32).toInt ≤ 1) ∧ IvX2 o_me_isles_1 ∧ Kp [7, 8, 9, 10] [4] o_me_isles o_me_isles_1 from ⟨⟨by decide, by decide⟩, hI_me_isles_1, hkp_me_isles_1⟩)
    exact lp1 zfu p0 z1 (0 : Int32) o_me_isles hI_me_isles Kp.rf ⟨by omega, by omega⟩ ⟨by decide, by decide⟩ (by omega) (by omega) (by show _ < 100000; omega)

set_option maxHeartbeats 4000000 in
set_option maxRecDepth 100000 in
theorem s_X8_row (o_me : Ob) (o_me_reader : Ob) (o_me_isles : Ob) (hI_me : IvX8 o_me) (hI_me_reader : IvX6 o_me_reader) (hI_me_isles : IvX2 o_me_isles)  : wp (f_X8_row  o_me o_me_reader o_me_isles) (fun (y : Int32 × Ob × Ob × Ob) => IvX8 y.2.1 ∧ Kp [] [] o_me y.2.1 ∧ IvX6 y.2.2.1 ∧ Kp [4, 5, 6, 7, 8] [] o_me_reader y.2.2.1 ∧ IvX2 y.2.2.2 ∧ Kp [7, 8, 9, 10] [4] o_me_isles y.2.2.2) := by
  have li0 : (-6 : Int32).toInt = (-6) := by decide
  have li1 : (0 : Int32).toInt = 0 := by decide
  have li2 : (1 : Int32).toInt = 1 := by decide
  unfold f_X8_row
  have t1 := igX6_2 hI_me_reader
  refine wp_if (fun c2 => ?_) (fun c2 => ?_)
  · have c2 := cv_eq (a := (gI o_me_reader 2).toInt) (b := 0) rfl (by decide) c2
    refine wp_bd (s_X8_refuse o_me (-6 : Int32) hI_me ) (fun z3 hz3 => ?_)
    obtain ⟨hz3_0, hz3_1⟩ := hz3
    have hkpz3_me : Kp [] [] o_me z3.2 := Kp.rf.trans (hz3_1.mono (by decide) (by decide))
    refine wp_some ?_
    exact (show IvX8 z3.2 ∧ Kp [] [] o_me z3.2 ∧ IvX6 o_me_reader ∧ Kp [4, 5, 6, 7, 8] [] o_me_reader o_me_reader ∧ IvX2 o_me_isles ∧ Kp [7, 8, 9, 10] [4] o_me_isles o_me_isles from ⟨hz3_0, hkpz3_me, hI_me_reader, Kp.rf, hI_me_isles, Kp.rf⟩)
  · have c2z := c2
    have c2 := cv_ne (a := (gI o_me_reader 2).toInt) (b := 0) rfl (by decide) c2
    refine wp_lt (fun o4 eo4 => ?_)
    have hIo4 : IvX8 o4 := by rw [eo4]; exact hI_me
    have ko4_v : (gI o4 13).toInt = 0 := by rw [eo4]; exact (show ((0 : Int32)).toInt = _ from by decide)
    have hkpo4 : Kp [] [] o_me o4 := Kp.rf.trans (by rw [eo4]; exact Kp.sI (by decide))
    have lp1 : ∀ (N1 : Nat) (v1_1 : Int32) (v2_1 : Int32) (o_me_1 : Ob) (o_me_reader_1 : Ob) (o_me_isles_1 : Ob), IvX8 o_me_1 → Kp [] [] o_me o_me_1 → IvX6 o_me_reader_1 → Kp [4, 5, 6, 7, 8] [] o_me_reader o_me_reader_1 → IvX2 o_me_isles_1 → Kp [7, 8, 9, 10] [4] o_me_isles o_me_isles_1 → (0 ≤ v1_1.toInt ∧ v1_1.toInt ≤ 401) → (0 ≤ v2_1.toInt ∧ v2_1.toInt ≤ 404) → (0 ≤ (gI o_me_1 13).toInt ∧ (gI o_me_1 13).toInt ≤ 401) → (1 ≤ (gI o_me_reader_1 2).toInt ∧ (gI o_me_reader_1 2).toInt ≤ 400) → (v1_1.toInt ≤ v2_1.toInt + 0) → (v1_1.toInt ≤ (gI o_me_reader_1 2).toInt + 1) → ((gI o_me_1 13).toInt ≤ v2_1.toInt + 0) → ((gI o_me_1 13).toInt ≤ (gI o_me_reader_1 2).toInt + 1) → (404 - v2_1.toInt).toNat < N1 → wp (lp_X8_row_26   N1 (v1_1, v2_1, o_me_1, o_me_reader_1, o_me_isles_1)) (fun (y : Int32 × Ob × Ob × Ob) => IvX8 y.2.1 ∧ Kp [] [] o_me y.2.1 ∧ IvX6 y.2.2.1 ∧ Kp [4, 5, 6, 7, 8] [] o_me_reader y.2.2.1 ∧ IvX2 y.2.2.2 ∧ Kp [7, 8, 9, 10] [4] o_me_isles y.2.2.2) := by
      intro N1
      induction N1 with
      | zero =>
        intro v1_1 v2_1 o_me_1 o_me_reader_1 o_me_isles_1 hI_me_1 hkp_me_1 hI_me_reader_1 hkp_me_reader_1 hI_me_isles_1 hkp_me_isles_1 hh6 hh7 hh8 hh9 hh10 hh11 hh12 hh13 hN1
        exact absurd hN1 (Nat.not_lt_zero _)
      | succ N1 ihx =>
        have ih1 := ihx
        intro v1_1 v2_1 o_me_1 o_me_reader_1 o_me_isles_1 hI_me_1 hkp_me_1 hI_me_reader_1 hkp_me_reader_1 hI_me_isles_1 hkp_me_isles_1 hh6 hh7 hh8 hh9 hh10 hh11 hh12 hh13 hN1
        show wp (lb_X8_row_26   (lp_X8_row_26   N1) v1_1 v2_1 o_me_1 o_me_reader_1 o_me_isles_1) (fun (y : Int32 × Ob × Ob × Ob) => IvX8 y.2.1 ∧ Kp [] [] o_me y.2.1 ∧ IvX6 y.2.2.1 ∧ Kp [4, 5, 6, 7, 8] [] o_me_reader y.2.2.1 ∧ IvX2 y.2.2.2 ∧ Kp [7, 8, 9, 10] [4] o_me_isles y.2.2.2)
        unfold lb_X8_row_26
        refine wp_if (fun c14 => ?_) (fun c14 => ?_)
        · have c14 := cv_ge (a := v2_1.toInt) (b := (gI o_me_reader_1 2).toInt) rfl rfl c14
          refine wp_lt (fun o15 eo15 => ?_)
          have hIo15 : IvX6 o15 := by rw [eo15]; exact ipX6_2 hI_me_reader_1 ⟨by decide, by decide⟩
          have ko15_v : (gI o15 2).toInt = 0 := by rw [eo15]; exact (show ((0 : Int32)).toInt = _ from by decide)
          have hkpo15 : Kp [4, 5, 6, 7, 8] [] o_me_reader o15 := hkp_me_reader_1.trans (by rw [eo15]; exact Kp.sI (by decide))
          refine wp_bd (s_X8_grant o_me_1 v1_1 hI_me_1 ) (fun z16 hz16 => ?_)
          obtain ⟨hz16_0, hz16_1⟩ := hz16
          have hkpz16_me : Kp [] [] o_me z16.2 := hkp_me_1.trans (hz16_1.mono (by decide) (by decide))
          refine wp_some ?_
          exact (show IvX8 z16.2 ∧ Kp [] [] o_me z16.2 ∧ IvX6 o15 ∧ Kp [4, 5, 6, 7, 8] [] o_me_reader o15 ∧ IvX2 o_me_isles_1 ∧ Kp [7, 8, 9, 10] [4] o_me_isles o_me_isles_1 from ⟨hz16_0, hkpz16_me, hIo15, hkpo15, hI_me_isles_1, hkp_me_isles_1⟩)
        · have c14 := cv_nge (a := v2_1.toInt) (b := (gI o_me_reader_1 2).toInt) rfl rfl c14
          refine wp_bd (s_X8_tellRow o_me_1 o_me_reader_1 o_me_isles_1 v2_1 hI_me_1 hI_me_reader_1 hI_me_isles_1 ) (fun z17 hz17 => ?_)
          obtain ⟨hz17_0, hz17_1, hz17_2⟩ := hz17
          have hkpz17_me_isles : Kp [7, 8, 9, 10] [4] o_me_isles z17.2 := hkp_me_isles_1.trans (hz17_2.mono (by decide) (by decide))
          refine wp_if (fun c18 => ?_) (fun c18 => ?_)
          · have c18 := cv_eq (a := z17.1.toInt) (b := 0) rfl (by decide) c18
            have t19 : ((gI o_me_1 13) + (1 : Int32)).toInt = (gI o_me_1 13).toInt + 1 := i32_add rfl (by decide) (by omega) (by omega)
            refine wp_lt (fun o20 eo20 => ?_)
            have hIo20 : IvX8 o20 := by rw [eo20]; exact hI_me_1
            have ko20_v : (gI o20 13).toInt = ((gI o_me_1 13) + (1 : Int32)).toInt := by rw [eo20]; rfl
            have hkpo20 : Kp [] [] o_me o20 := hkp_me_1.trans (by rw [eo20]; exact Kp.sI (by decide))
            unfold bk_X8_row_61
            refine wp_lt (fun x21 ex21 => ?_)
            have tx21 : x21.toInt = v2_1.toInt + 5 := by rw [ex21]; exact i32_add rfl (by decide) (by omega) (by omega)
            exact ih1 v1_1 x21 o20 o_me_reader_1 z17.2 hIo20 hkpo20 hI_me_reader_1 hkp_me_reader_1 hz17_1 hkpz17_me_isles ⟨by omega, by omega⟩ ⟨by omega, by omega⟩ ⟨by omega, by omega⟩ ⟨by omega, by omega⟩ (by omega) (by omega) (by omega) (by omega) (by omega)
          · have c18z := c18
            have c18 := cv_ne (a := z17.1.toInt) (b := 0) rfl (by decide) c18
            refine wp_lt (fun x22 ex22 => ?_)
            have tx22 : x22.toInt = v1_1.toInt + 1 := by rw [ex22]; exact i32_add rfl (by decide) (by omega) (by omega)
            unfold bk_X8_row_61
            refine wp_lt (fun x23 ex23 => ?_)
            have tx23 : x23.toInt = v2_1.toInt + 5 := by rw [ex23]; exact i32_add rfl (by decide) (by omega) (by omega)
            exact ih1 x22 x23 o_me_1 o_me_reader_1 z17.2 hI_me_1 hkp_me_1 hI_me_reader_1 hkp_me_reader_1 hz17_1 hkpz17_me_isles ⟨by omega, by omega⟩ ⟨by omega, by omega⟩ ⟨by omega, by omega⟩ ⟨by omega, by omega⟩ (by omega) (by omega) (by omega) (by omega) (by omega)
    exact lp1 zfu (0 : Int32) (0 : Int32) o4 o_me_reader o_me_isles hIo4 hkpo4 hI_me_reader Kp.rf hI_me_isles Kp.rf ⟨by decide, by decide⟩ ⟨by decide, by decide⟩ ⟨by omega, by omega⟩ ⟨by omega, by omega⟩ (by omega) (by omega) (by omega) (by omega) (by show _ < 100000; omega)

set_option maxHeartbeats 4000000 in
set_option maxRecDepth 100000 in
theorem s_X2_addSeen (o_me : Ob) (p0 : Int32) (p1 : Int32) (hI_me : IvX2 o_me) (q0 : 0 ≤ p0.toInt ∧ p0.toInt ≤ 3) (q1 : 0 ≤ p1.toInt ∧ p1.toInt ≤ 9) : wp (f_X2_addSeen  o_me p0 p1) (fun (y : Int32 × Ob) => (1 ≤ y.1.toInt ∧ y.1.toInt ≤ 6) ∧ IvX2 y.2 ∧ Kp [7, 9, 10] [] o_me y.2) := by
  have li0 : (1 : Int32).toInt = 1 := by decide
  have li1 : (6 : Int32).toInt = 6 := by decide
  unfold f_X2_addSeen
  have t1 := igX2_8 hI_me
  refine wp_if (fun c2 => ?_) (fun c2 => ?_)
  · have c2 := cv_ge (a := (gI o_me 8).toInt) (b := 6) rfl (by decide) c2
    unfold bk_X2_addSeen_39
    refine wp_some ?_
    exact (show (1 ≤ (gI o_me 8).toInt ∧ (gI o_me 8).toInt ≤ 6) ∧ IvX2 o_me ∧ Kp [7, 9, 10] [] o_me o_me from ⟨⟨by omega, by omega⟩, hI_me, Kp.rf⟩)
  · have c2 := cv_nge (a := (gI o_me 8).toInt) (b := 6) rfl (by decide) c2
    refine wp_gd (zin_of (m := 6) rfl (by omega) (by omega)) ?_
    refine wp_lt (fun o3 eo3 => ?_)
    have hIo3 : IvX2 o3 := by rw [eo3]; exact ibX2_4 hI_me (by omega) (Or.inr (Or.inr ⟨by omega, by omega⟩))
    have ko3_k4 : (gI o3 8).toInt = (gI o_me 8).toInt := by rw [eo3]; rfl
    have ko3_v : (gA o3 4 (gI o_me 8).toNatClampNeg).toInt = p0.toInt := by rw [eo3]; exact congrArg Int32.toInt (upd_eq (g := gA o_me 4) (i := (gI o_me 8)) (v := p0))
    have hkpo3 : Kp [7, 9, 10] [] o_me o3 := Kp.rf.trans (by rw [eo3]; exact Kp.tA (by decide))
    refine wp_gd (zin_of (m := 6) rfl (by omega) (by omega)) ?_
    refine wp_lt (fun o5 eo5 => ?_)
    have hIo5 : IvX2 o5 := by rw [eo5]; exact hIo3
    have ko5_k6 : (gA o5 4 (gI o_me 8).toNatClampNeg).toInt = (gA o3 4 (gI o_me 8).toNatClampNeg).toInt := by rw [eo5]; rfl
    have ko5_k7 : (gI o5 8).toInt = (gI o3 8).toInt := by rw [eo5]; rfl
    have ko5_v : (gA o5 5 (gI o3 8).toNatClampNeg).toInt = p1.toInt := by rw [eo5]; exact congrArg Int32.toInt (upd_eq (g := gA o3 5) (i := (gI o3 8)) (v := p1))
    have hkpo5 : Kp [7, 9, 10] [] o_me o5 := hkpo3.trans (by rw [eo5]; exact Kp.tA (by decide))
    have t8 : ((gI o5 8) + (1 : Int32)).toInt = (gI o5 8).toInt + 1 := i32_add rfl (by decide) (by omega) (by omega)
    refine wp_lt (fun o9 eo9 => ?_)
    have hIo9 : IvX2 o9 := by rw [eo9]; exact ipX2_8 hIo5 ⟨by omega, by omega⟩
    have ko9_k10 : (gA o9 4 (gI o_me 8).toNatClampNeg).toInt = (gA o5 4 (gI o_me 8).toNatClampNeg).toInt := by rw [eo9]; rfl
    have ko9_k11 : (gA o9 5 (gI o3 8).toNatClampNeg).toInt = (gA o5 5 (gI o3 8).toNatClampNeg).toInt := by rw [eo9]; rfl
    have ko9_v : (gI o9 8).toInt = ((gI o5 8) + (1 : Int32)).toInt := by rw [eo9]; rfl
    have hkpo9 : Kp [7, 9, 10] [] o_me o9 := hkpo5.trans (by rw [eo9]; exact Kp.sI (by decide))
    unfold bk_X2_addSeen_39
    refine wp_some ?_
    exact (show (1 ≤ (gI o9 8).toInt ∧ (gI o9 8).toInt ≤ 6) ∧ IvX2 o9 ∧ Kp [7, 9, 10] [] o_me o9 from ⟨⟨by omega, by omega⟩, hIo9, hkpo9⟩)

set_option maxHeartbeats 4000000 in
set_option maxRecDepth 100000 in
theorem s_X8_seen (o_me : Ob) (o_me_isles : Ob) (p0 : Int32) (p1 : Int32) (hI_me : IvX8 o_me) (hI_me_isles : IvX2 o_me_isles)  : wp (f_X8_seen  o_me o_me_isles p0 p1) (fun (y : Int32 × Ob × Ob) => IvX8 y.2.1 ∧ Kp [] [] o_me y.2.1 ∧ IvX2 y.2.2 ∧ Kp [7, 9, 10] [] o_me_isles y.2.2) := by
  have li0 : (-1 : Int32).toInt = (-1) := by decide
  have li1 : (-5 : Int32).toInt = (-5) := by decide
  have li2 : (6 : Int32).toInt = 6 := by decide
  unfold f_X8_seen
  refine wp_bd (s_X8_isRace p0  ) (fun z1 hz1 => ?_)
  obtain ⟨hz1_0, hz1_1⟩ := hz1
  refine wp_if (fun c2 => ?_) (fun c2 => ?_)
  · have c2 := cv_eq (a := z1.toInt) (b := 0) rfl (by decide) c2
    unfold bk_X8_seen_14
    refine wp_bd (s_X8_refuse o_me (-1 : Int32) hI_me ) (fun z3 hz3 => ?_)
    obtain ⟨hz3_0, hz3_1⟩ := hz3
    have hkpz3_me : Kp [] [] o_me z3.2 := Kp.rf.trans (hz3_1.mono (by decide) (by decide))
    refine wp_some ?_
    exact (show IvX8 z3.2 ∧ Kp [] [] o_me z3.2 ∧ IvX2 o_me_isles ∧ Kp [7, 9, 10] [] o_me_isles o_me_isles from ⟨hz3_0, hkpz3_me, hI_me_isles, Kp.rf⟩)
  · have c2z := c2
    have c2i := hz1_1 c2
    have c2 := cv_ne (a := z1.toInt) (b := 0) rfl (by decide) c2
    refine wp_bd (s_X8_isTrade p1  ) (fun z4 hz4 => ?_)
    obtain ⟨hz4_0, hz4_1⟩ := hz4
    refine wp_if (fun c5 => ?_) (fun c5 => ?_)
    · have c5 := cv_eq (a := z4.toInt) (b := 0) rfl (by decide) c5
      unfold bk_X8_seen_14
      refine wp_bd (s_X8_refuse o_me (-1 : Int32) hI_me ) (fun z6 hz6 => ?_)
      obtain ⟨hz6_0, hz6_1⟩ := hz6
      have hkpz6_me : Kp [] [] o_me z6.2 := Kp.rf.trans (hz6_1.mono (by decide) (by decide))
      refine wp_some ?_
      exact (show IvX8 z6.2 ∧ Kp [] [] o_me z6.2 ∧ IvX2 o_me_isles ∧ Kp [7, 9, 10] [] o_me_isles o_me_isles from ⟨hz6_0, hkpz6_me, hI_me_isles, Kp.rf⟩)
    · have c5z := c5
      have c5i := hz4_1 c5
      have c5 := cv_ne (a := z4.toInt) (b := 0) rfl (by decide) c5
      have t7 := igX2_8 hI_me_isles
      refine wp_if (fun c8 => ?_) (fun c8 => ?_)
      · have c8 := cv_lt (a := (gI o_me_isles 8).toInt) (b := 6) rfl (by decide) c8
        refine wp_bd (s_X2_addSeen o_me_isles p0 p1 hI_me_isles ⟨by omega, by omega⟩ ⟨by omega, by omega⟩) (fun z9 hz9 => ?_)
        obtain ⟨hz9_0, hz9_1, hz9_2⟩ := hz9
        have hkpz9_me_isles : Kp [7, 9, 10] [] o_me_isles z9.2 := Kp.rf.trans (hz9_2.mono (by decide) (by decide))
        refine wp_bd (s_X8_grant o_me z9.1 hI_me ) (fun z10 hz10 => ?_)
        obtain ⟨hz10_0, hz10_1⟩ := hz10
        have hkpz10_me : Kp [] [] o_me z10.2 := Kp.rf.trans (hz10_1.mono (by decide) (by decide))
        refine wp_some ?_
        exact (show IvX8 z10.2 ∧ Kp [] [] o_me z10.2 ∧ IvX2 z9.2 ∧ Kp [7, 9, 10] [] o_me_isles z9.2 from ⟨hz10_0, hkpz10_me, hz9_1, hkpz9_me_isles⟩)
      · have c8 := cv_nlt (a := (gI o_me_isles 8).toInt) (b := 6) rfl (by decide) c8
        refine wp_bd (s_X8_refuse o_me (-5 : Int32) hI_me ) (fun z11 hz11 => ?_)
        obtain ⟨hz11_0, hz11_1⟩ := hz11
        have hkpz11_me : Kp [] [] o_me z11.2 := Kp.rf.trans (hz11_1.mono (by decide) (by decide))
        refine wp_some ?_
        exact (show IvX8 z11.2 ∧ Kp [] [] o_me z11.2 ∧ IvX2 o_me_isles ∧ Kp [7, 9, 10] [] o_me_isles o_me_isles from ⟨hz11_0, hkpz11_me, hI_me_isles, Kp.rf⟩)

set_option maxHeartbeats 4000000 in
set_option maxRecDepth 100000 in
theorem s_X8_status (o_me : Ob) (hI_me : IvX8 o_me)  : wp (f_X8_status  o_me) (fun (y : Int32) => True) := by
  unfold f_X8_status
  refine wp_some ?_
  exact trivial

set_option maxHeartbeats 4000000 in
set_option maxRecDepth 100000 in
theorem s_X8_stopped (o_me : Ob) (hI_me : IvX8 o_me)  : wp (f_X8_stopped  o_me) (fun (y : Int32) => True) := by
  unfold f_X8_stopped
  refine wp_some ?_
  exact trivial

set_option maxHeartbeats 4000000 in
set_option maxRecDepth 100000 in
theorem s_X8_strength (o_me : Ob) (o_me_isles : Ob) (p0 : Int32) (p1 : Int32) (p2 : Int32) (hI_me : IvX8 o_me) (hI_me_isles : IvX2 o_me_isles)  : wp (f_X8_strength  o_me o_me_isles p0 p1 p2) (fun (y : Int32 × Ob × Ob) => IvX8 y.2.1 ∧ Kp [] [] o_me y.2.1 ∧ IvX2 y.2.2 ∧ Kp [7, 8, 9, 10] [4] o_me_isles y.2.2) := by
  have li0 : (-1 : Int32).toInt = (-1) := by decide
  have li1 : (-2 : Int32).toInt = (-2) := by decide
  have li2 : (4 : Int32).toInt = 4 := by decide
  have li3 : (9 : Int32).toInt = 9 := by decide
  unfold f_X8_strength
  refine wp_bd (s_X8_isRace p1  ) (fun z1 hz1 => ?_)
  obtain ⟨hz1_0, hz1_1⟩ := hz1
  refine wp_if (fun c2 => ?_) (fun c2 => ?_)
  · have c2 := cv_eq (a := z1.toInt) (b := 0) rfl (by decide) c2
    unfold bk_X8_strength_17
    refine wp_bd (s_X8_refuse o_me (-1 : Int32) hI_me ) (fun z3 hz3 => ?_)
    obtain ⟨hz3_0, hz3_1⟩ := hz3
    have hkpz3_me : Kp [] [] o_me z3.2 := Kp.rf.trans (hz3_1.mono (by decide) (by decide))
    refine wp_some ?_
    exact (show IvX8 z3.2 ∧ Kp [] [] o_me z3.2 ∧ IvX2 o_me_isles ∧ Kp [7, 8, 9, 10] [4] o_me_isles o_me_isles from ⟨hz3_0, hkpz3_me, hI_me_isles, Kp.rf⟩)
  · have c2z := c2
    have c2i := hz1_1 c2
    have c2 := cv_ne (a := z1.toInt) (b := 0) rfl (by decide) c2
    refine wp_if (fun c4 => ?_) (fun c4 => ?_)
    · have c4 := cv_lt (a := p2.toInt) (b := 0) rfl (by decide) c4
      unfold bk_X8_strength_17
      refine wp_bd (s_X8_refuse o_me (-1 : Int32) hI_me ) (fun z5 hz5 => ?_)
      obtain ⟨hz5_0, hz5_1⟩ := hz5
      have hkpz5_me : Kp [] [] o_me z5.2 := Kp.rf.trans (hz5_1.mono (by decide) (by decide))
      refine wp_some ?_
      exact (show IvX8 z5.2 ∧ Kp [] [] o_me z5.2 ∧ IvX2 o_me_isles ∧ Kp [7, 8, 9, 10] [4] o_me_isles o_me_isles from ⟨hz5_0, hkpz5_me, hI_me_isles, Kp.rf⟩)
    · have c4 := cv_nlt (a := p2.toInt) (b := 0) rfl (by decide) c4
      refine wp_if (fun c6 => ?_) (fun c6 => ?_)
      · have c6 := cv_le (a := p2.toInt) (b := 9) rfl (by decide) c6
        refine wp_bd (s_X2_isPerson o_me_isles p0 hI_me_isles ) (fun z7 hz7 => ?_)
        obtain ⟨hz7_0, hz7_1⟩ := hz7
        refine wp_if (fun c8 => ?_) (fun c8 => ?_)
        · have c8 := cv_eq (a := z7.toInt) (b := 0) rfl (by decide) c8
          refine wp_bd (s_X8_refuse o_me (-2 : Int32) hI_me ) (fun z9 hz9 => ?_)
          obtain ⟨hz9_0, hz9_1⟩ := hz9
          have hkpz9_me : Kp [] [] o_me z9.2 := Kp.rf.trans (hz9_1.mono (by decide) (by decide))
          refine wp_some ?_
          exact (show IvX8 z9.2 ∧ Kp [] [] o_me z9.2 ∧ IvX2 o_me_isles ∧ Kp [7, 8, 9, 10] [4] o_me_isles o_me_isles from ⟨hz9_0, hkpz9_me, hI_me_isles, Kp.rf⟩)
        · have c8z := c8
          have c8i := hz7_1 c8
          have c8 := cv_ne (a := z7.toInt) (b := 0) rfl (by decide) c8
          have t10 : (p0 * (4 : Int32)).toInt = p0.toInt * 4 := i32_mul rfl (by decide) (by omega) (by omega)
          have t11 : ((p0 * (4 : Int32)) + p1).toInt = (p0 * (4 : Int32)).toInt + p1.toInt := i32_add rfl rfl (by omega) (by omega)
          refine wp_lt (fun x12 ex12 => ?_)
          have tx12 : x12.toInt = ((p0 * (4 : Int32)) + p1).toInt := by rw [ex12]
          refine wp_gd (zin_of (m := 28) rfl (by omega) (by omega)) ?_
          refine wp_lt (fun x13 ex13 => ?_)
          have tx13 : x13.toInt = (gA o_me_isles 2 x12.toNatClampNeg).toInt := by rw [ex13]
          refine wp_gd (zin_of (m := 28) rfl (by omega) (by omega)) ?_
          refine wp_lt (fun o14 eo14 => ?_)
          have hIo14 : IvX2 o14 := by rw [eo14]; exact hI_me_isles
          have ko14_k15 : (gI o14 7).toInt = (gI o_me_isles 7).toInt := by rw [eo14]; rfl
          have ko14_v : (gA o14 2 x12.toNatClampNeg).toInt = p2.toInt := by rw [eo14]; exact congrArg Int32.toInt (upd_eq (g := gA o_me_isles 2) (i := x12) (v := p2))
          have hkpo14 : Kp [7, 8, 9, 10] [4] o_me_isles o14 := Kp.rf.trans (by rw [eo14]; exact Kp.tA (by decide))
          refine wp_bd (s_X8_grant o_me x13 hI_me ) (fun z16 hz16 => ?_)
          obtain ⟨hz16_0, hz16_1⟩ := hz16
          have hkpz16_me : Kp [] [] o_me z16.2 := Kp.rf.trans (hz16_1.mono (by decide) (by decide))
          refine wp_some ?_
          exact (show IvX8 z16.2 ∧ Kp [] [] o_me z16.2 ∧ IvX2 o14 ∧ Kp [7, 8, 9, 10] [4] o_me_isles o14 from ⟨hz16_0, hkpz16_me, hIo14, hkpo14⟩)
      · have c6 := cv_nle (a := p2.toInt) (b := 9) rfl (by decide) c6
        unfold bk_X8_strength_17
        refine wp_bd (s_X8_refuse o_me (-1 : Int32) hI_me ) (fun z17 hz17 => ?_)
        obtain ⟨hz17_0, hz17_1⟩ := hz17
        have hkpz17_me : Kp [] [] o_me z17.2 := Kp.rf.trans (hz17_1.mono (by decide) (by decide))
        refine wp_some ?_
        exact (show IvX8 z17.2 ∧ Kp [] [] o_me z17.2 ∧ IvX2 o_me_isles ∧ Kp [7, 8, 9, 10] [4] o_me_isles o_me_isles from ⟨hz17_0, hkpz17_me, hI_me_isles, Kp.rf⟩)

set_option maxHeartbeats 4000000 in
set_option maxRecDepth 100000 in
theorem s_X2_setTerm (o_me : Ob) (o_me_now : Ob) (p0 : Int32) (p1 : Int32) (hI_me : IvX2 o_me) (hI_me_now : IvX4 o_me_now)  : wp (f_X2_setTerm  o_me o_me_now p0 p1) (fun (y : Ob × Ob) => IvX2 y.1 ∧ Kp [7, 8, 9, 10] [4] o_me y.1 ∧ IvX4 y.2 ∧ Kp [] [0] o_me_now y.2) := by
  have li0 : (1 : Int32).toInt = 1 := by decide
  unfold f_X2_setTerm
  refine wp_if (fun c1 => ?_) (fun c1 => ?_)
  · have c1 := cv_eq (a := p0.toInt) (b := 0) rfl (by decide) c1
    refine wp_lt (fun o2 eo2 => ?_)
    have hIo2 : IvX4 o2 := by rw [eo2]; exact hI_me_now
    have ko2_v : (gI o2 4).toInt = p1.toInt := by rw [eo2]; rfl
    have hkpo2 : Kp [] [0] o_me_now o2 := Kp.rf.trans (by rw [eo2]; exact Kp.sI (by decide))
    refine wp_some ?_
    exact (show IvX2 o_me ∧ Kp [7, 8, 9, 10] [4] o_me o_me ∧ IvX4 o2 ∧ Kp [] [0] o_me_now o2 from ⟨hI_me, Kp.rf, hIo2, hkpo2⟩)
  · have c1z := c1
    have c1 := cv_ne (a := p0.toInt) (b := 0) rfl (by decide) c1
    refine wp_if (fun c3 => ?_) (fun c3 => ?_)
    · have c3 := cv_eq (a := p0.toInt) (b := 1) rfl (by decide) c3
      refine wp_lt (fun o4 eo4 => ?_)
      have hIo4 : IvX2 o4 := by rw [eo4]; exact hI_me
      have ko4_v : (gI o4 11).toInt = p1.toInt := by rw [eo4]; rfl
      have hkpo4 : Kp [7, 8, 9, 10] [4] o_me o4 := Kp.rf.trans (by rw [eo4]; exact Kp.sI (by decide))
      refine wp_some ?_
      exact (show IvX2 o4 ∧ Kp [7, 8, 9, 10] [4] o_me o4 ∧ IvX4 o_me_now ∧ Kp [] [0] o_me_now o_me_now from ⟨hIo4, hkpo4, hI_me_now, Kp.rf⟩)
    · have c3 := cv_ne (a := p0.toInt) (b := 1) rfl (by decide) c3
      refine wp_lt (fun o5 eo5 => ?_)
      have hIo5 : IvX2 o5 := by rw [eo5]; exact hI_me
      have ko5_v : (gI o5 12).toInt = p1.toInt := by rw [eo5]; rfl
      have hkpo5 : Kp [7, 8, 9, 10] [4] o_me o5 := Kp.rf.trans (by rw [eo5]; exact Kp.sI (by decide))
      refine wp_some ?_
      exact (show IvX2 o5 ∧ Kp [7, 8, 9, 10] [4] o_me o5 ∧ IvX4 o_me_now ∧ Kp [] [0] o_me_now o_me_now from ⟨hIo5, hkpo5, hI_me_now, Kp.rf⟩)

set_option maxHeartbeats 4000000 in
set_option maxRecDepth 100000 in
theorem s_X8_terms (o_me : Ob) (o_me_isles : Ob) (o_me_isles_now : Ob) (o_me_past : Ob) (p0 : Int32) (p1 : Int32) (hI_me : IvX8 o_me) (hI_me_isles : IvX2 o_me_isles) (hI_me_isles_now : IvX4 o_me_isles_now) (hI_me_past : IvX5 o_me_past)  : wp (f_X8_terms  o_me o_me_isles o_me_isles_now o_me_past p0 p1) (fun (y : Int32 × Ob × Ob × Ob × Ob) => IvX8 y.2.1 ∧ Kp [] [] o_me y.2.1 ∧ IvX2 y.2.2.1 ∧ Kp [7, 8, 9, 10] [4] o_me_isles y.2.2.1 ∧ IvX4 y.2.2.2.1 ∧ Kp [] [0] o_me_isles_now y.2.2.2.1 ∧ IvX5 y.2.2.2.2 ∧ Kp [] [] o_me_past y.2.2.2.2) := by
  have li0 : (-1 : Int32).toInt = (-1) := by decide
  have li1 : (1 : Int32).toInt = 1 := by decide
  have li2 : (10 : Int32).toInt = 10 := by decide
  have li3 : (2 : Int32).toInt = 2 := by decide
  have li4 : (9 : Int32).toInt = 9 := by decide
  have li5 : (999 : Int32).toInt = 999 := by decide
  unfold f_X8_terms
  refine wp_if (fun c1 => ?_) (fun c1 => ?_)
  · have c1 := cv_eq (a := p0.toInt) (b := 0) rfl (by decide) c1
    obtain ⟨w2, ew2⟩ : ∃ z : Int32, z = (999 : Int32) := ⟨_, rfl⟩
    have tw2 : w2.toInt = 999 := by rw [ew2]; decide
    rw [show bk_X8_terms_31   p0 p1 (999 : Int32) o_me o_me_isles o_me_isles_now o_me_past = bk_X8_terms_31   p0 p1 w2 o_me o_me_isles o_me_isles_now o_me_past from by rw [ew2]]
    unfold bk_X8_terms_31
    refine wp_if (fun c3 => ?_) (fun c3 => ?_)
    · have c3 := cv_lt (a := p1.toInt) (b := 0) rfl (by decide) c3
      unfold bk_X8_terms_41
      refine wp_bd (s_X8_refuse o_me (-1 : Int32) hI_me ) (fun z4 hz4 => ?_)
      obtain ⟨hz4_0, hz4_1⟩ := hz4
      have hkpz4_me : Kp [] [] o_me z4.2 := Kp.rf.trans (hz4_1.mono (by decide) (by decide))
      refine wp_some ?_
      exact (show IvX8 z4.2 ∧ Kp [] [] o_me z4.2 ∧ IvX2 o_me_isles ∧ Kp [7, 8, 9, 10] [4] o_me_isles o_me_isles ∧ IvX4 o_me_isles_now ∧ Kp [] [0] o_me_isles_now o_me_isles_now ∧ IvX5 o_me_past ∧ Kp [] [] o_me_past o_me_past from ⟨hz4_0, hkpz4_me, hI_me_isles, Kp.rf, hI_me_isles_now, Kp.rf, hI_me_past, Kp.rf⟩)
    · have c3 := cv_nlt (a := p1.toInt) (b := 0) rfl (by decide) c3
      refine wp_if (fun c5 => ?_) (fun c5 => ?_)
      · have c5 := cv_le (a := p1.toInt) (b := w2.toInt) rfl rfl c5
        refine wp_bd (s_X2_term o_me_isles o_me_isles_now p0 hI_me_isles hI_me_isles_now ) (fun z6 hz6 => ?_)
        refine wp_bd (s_X2_setTerm o_me_isles o_me_isles_now p0 p1 hI_me_isles hI_me_isles_now ) (fun z7 hz7 => ?_)
        obtain ⟨hz7_0, hz7_1, hz7_2, hz7_3⟩ := hz7
        have hkpz7_me_isles : Kp [7, 8, 9, 10] [4] o_me_isles z7.1 := Kp.rf.trans (hz7_1.mono (by decide) (by decide))
        have hkpz7_me_isles_now : Kp [] [0] o_me_isles_now z7.2 := Kp.rf.trans (hz7_3.mono (by decide) (by decide))
        refine wp_bd (s_X5_clear o_me_past hI_me_past ) (fun z8 hz8 => ?_)
        obtain ⟨hz8_0, hz8_1⟩ := hz8
        have hkpz8_me_past : Kp [] [] o_me_past z8 := Kp.rf.trans (hz8_1.mono (by decide) (by decide))
        refine wp_bd (s_X8_grant o_me z6 hI_me ) (fun z9 hz9 => ?_)
        obtain ⟨hz9_0, hz9_1⟩ := hz9
        have hkpz9_me : Kp [] [] o_me z9.2 := Kp.rf.trans (hz9_1.mono (by decide) (by decide))
        refine wp_some ?_
        exact (show IvX8 z9.2 ∧ Kp [] [] o_me z9.2 ∧ IvX2 z7.1 ∧ Kp [7, 8, 9, 10] [4] o_me_isles z7.1 ∧ IvX4 z7.2 ∧ Kp [] [0] o_me_isles_now z7.2 ∧ IvX5 z8 ∧ Kp [] [] o_me_past z8 from ⟨hz9_0, hkpz9_me, hz7_0, hkpz7_me_isles, hz7_2, hkpz7_me_isles_now, hz8_0, hkpz8_me_past⟩)
      · have c5 := cv_nle (a := p1.toInt) (b := w2.toInt) rfl rfl c5
        unfold bk_X8_terms_41
        refine wp_bd (s_X8_refuse o_me (-1 : Int32) hI_me ) (fun z10 hz10 => ?_)
        obtain ⟨hz10_0, hz10_1⟩ := hz10
        have hkpz10_me : Kp [] [] o_me z10.2 := Kp.rf.trans (hz10_1.mono (by decide) (by decide))
        refine wp_some ?_
        exact (show IvX8 z10.2 ∧ Kp [] [] o_me z10.2 ∧ IvX2 o_me_isles ∧ Kp [7, 8, 9, 10] [4] o_me_isles o_me_isles ∧ IvX4 o_me_isles_now ∧ Kp [] [0] o_me_isles_now o_me_isles_now ∧ IvX5 o_me_past ∧ Kp [] [] o_me_past o_me_past from ⟨hz10_0, hkpz10_me, hI_me_isles, Kp.rf, hI_me_isles_now, Kp.rf, hI_me_past, Kp.rf⟩)
  · have c1z := c1
    have c1 := cv_ne (a := p0.toInt) (b := 0) rfl (by decide) c1
    refine wp_if (fun c11 => ?_) (fun c11 => ?_)
    · have c11 := cv_eq (a := p0.toInt) (b := 1) rfl (by decide) c11
      obtain ⟨w12, ew12⟩ : ∃ z : Int32, z = (10 : Int32) := ⟨_, rfl⟩
      have tw12 : w12.toInt = 10 := by rw [ew12]; decide
      rw [show bk_X8_terms_31   p0 p1 (10 : Int32) o_me o_me_isles o_me_isles_now o_me_past = bk_X8_terms_31   p0 p1 w12 o_me o_me_isles o_me_isles_now o_me_past from by rw [ew12]]
      unfold bk_X8_terms_31
      refine wp_if (fun c13 => ?_) (fun c13 => ?_)
      · have c13 := cv_lt (a := p1.toInt) (b := 0) rfl (by decide) c13
        unfold bk_X8_terms_41
        refine wp_bd (s_X8_refuse o_me (-1 : Int32) hI_me ) (fun z14 hz14 => ?_)
        obtain ⟨hz14_0, hz14_1⟩ := hz14
        have hkpz14_me : Kp [] [] o_me z14.2 := Kp.rf.trans (hz14_1.mono (by decide) (by decide))
        refine wp_some ?_
        exact (show IvX8 z14.2 ∧ Kp [] [] o_me z14.2 ∧ IvX2 o_me_isles ∧ Kp [7, 8, 9, 10] [4] o_me_isles o_me_isles ∧ IvX4 o_me_isles_now ∧ Kp [] [0] o_me_isles_now o_me_isles_now ∧ IvX5 o_me_past ∧ Kp [] [] o_me_past o_me_past from ⟨hz14_0, hkpz14_me, hI_me_isles, Kp.rf, hI_me_isles_now, Kp.rf, hI_me_past, Kp.rf⟩)
      · have c13 := cv_nlt (a := p1.toInt) (b := 0) rfl (by decide) c13
        refine wp_if (fun c15 => ?_) (fun c15 => ?_)
        · have c15 := cv_le (a := p1.toInt) (b := w12.toInt) rfl rfl c15
          refine wp_bd (s_X2_term o_me_isles o_me_isles_now p0 hI_me_isles hI_me_isles_now ) (fun z16 hz16 => ?_)
          refine wp_bd (s_X2_setTerm o_me_isles o_me_isles_now p0 p1 hI_me_isles hI_me_isles_now ) (fun z17 hz17 => ?_)
          obtain ⟨hz17_0, hz17_1, hz17_2, hz17_3⟩ := hz17
          have hkpz17_me_isles : Kp [7, 8, 9, 10] [4] o_me_isles z17.1 := Kp.rf.trans (hz17_1.mono (by decide) (by decide))
          have hkpz17_me_isles_now : Kp [] [0] o_me_isles_now z17.2 := Kp.rf.trans (hz17_3.mono (by decide) (by decide))
          refine wp_bd (s_X5_clear o_me_past hI_me_past ) (fun z18 hz18 => ?_)
          obtain ⟨hz18_0, hz18_1⟩ := hz18
          have hkpz18_me_past : Kp [] [] o_me_past z18 := Kp.rf.trans (hz18_1.mono (by decide) (by decide))
          refine wp_bd (s_X8_grant o_me z16 hI_me ) (fun z19 hz19 => ?_)
          obtain ⟨hz19_0, hz19_1⟩ := hz19
          have hkpz19_me : Kp [] [] o_me z19.2 := Kp.rf.trans (hz19_1.mono (by decide) (by decide))
          refine wp_some ?_
          exact (show IvX8 z19.2 ∧ Kp [] [] o_me z19.2 ∧ IvX2 z17.1 ∧ Kp [7, 8, 9, 10] [4] o_me_isles z17.1 ∧ IvX4 z17.2 ∧ Kp [] [0] o_me_isles_now z17.2 ∧ IvX5 z18 ∧ Kp [] [] o_me_past z18 from ⟨hz19_0, hkpz19_me, hz17_0, hkpz17_me_isles, hz17_2, hkpz17_me_isles_now, hz18_0, hkpz18_me_past⟩)
        · have c15 := cv_nle (a := p1.toInt) (b := w12.toInt) rfl rfl c15
          unfold bk_X8_terms_41
          refine wp_bd (s_X8_refuse o_me (-1 : Int32) hI_me ) (fun z20 hz20 => ?_)
          obtain ⟨hz20_0, hz20_1⟩ := hz20
          have hkpz20_me : Kp [] [] o_me z20.2 := Kp.rf.trans (hz20_1.mono (by decide) (by decide))
          refine wp_some ?_
          exact (show IvX8 z20.2 ∧ Kp [] [] o_me z20.2 ∧ IvX2 o_me_isles ∧ Kp [7, 8, 9, 10] [4] o_me_isles o_me_isles ∧ IvX4 o_me_isles_now ∧ Kp [] [0] o_me_isles_now o_me_isles_now ∧ IvX5 o_me_past ∧ Kp [] [] o_me_past o_me_past from ⟨hz20_0, hkpz20_me, hI_me_isles, Kp.rf, hI_me_isles_now, Kp.rf, hI_me_past, Kp.rf⟩)
    · have c11 := cv_ne (a := p0.toInt) (b := 1) rfl (by decide) c11
      refine wp_if (fun c21 => ?_) (fun c21 => ?_)
      · have c21 := cv_eq (a := p0.toInt) (b := 2) rfl (by decide) c21
        obtain ⟨w22, ew22⟩ : ∃ z : Int32, z = (9 : Int32) := ⟨_, rfl⟩
        have tw22 : w22.toInt = 9 := by rw [ew22]; decide
        rw [show bk_X8_terms_31   p0 p1 (9 : Int32) o_me o_me_isles o_me_isles_now o_me_past = bk_X8_terms_31   p0 p1 w22 o_me o_me_isles o_me_isles_now o_me_past from by rw [ew22]]
        unfold bk_X8_terms_31
        refine wp_if (fun c23 => ?_) (fun c23 => ?_)
        · have c23 := cv_lt (a := p1.toInt) (b := 0) rfl (by decide) c23
          unfold bk_X8_terms_41
          refine wp_bd (s_X8_refuse o_me (-1 : Int32) hI_me ) (fun z24 hz24 => ?_)
          obtain ⟨hz24_0, hz24_1⟩ := hz24
          have hkpz24_me : Kp [] [] o_me z24.2 := Kp.rf.trans (hz24_1.mono (by decide) (by decide))
          refine wp_some ?_
          exact (show IvX8 z24.2 ∧ Kp [] [] o_me z24.2 ∧ IvX2 o_me_isles ∧ Kp [7, 8, 9, 10] [4] o_me_isles o_me_isles ∧ IvX4 o_me_isles_now ∧ Kp [] [0] o_me_isles_now o_me_isles_now ∧ IvX5 o_me_past ∧ Kp [] [] o_me_past o_me_past from ⟨hz24_0, hkpz24_me, hI_me_isles, Kp.rf, hI_me_isles_now, Kp.rf, hI_me_past, Kp.rf⟩)
        · have c23 := cv_nlt (a := p1.toInt) (b := 0) rfl (by decide) c23
          refine wp_if (fun c25 => ?_) (fun c25 => ?_)
          · have c25 := cv_le (a := p1.toInt) (b := w22.toInt) rfl rfl c25
            refine wp_bd (s_X2_term o_me_isles o_me_isles_now p0 hI_me_isles hI_me_isles_now ) (fun z26 hz26 => ?_)
            refine wp_bd (s_X2_setTerm o_me_isles o_me_isles_now p0 p1 hI_me_isles hI_me_isles_now ) (fun z27 hz27 => ?_)
            obtain ⟨hz27_0, hz27_1, hz27_2, hz27_3⟩ := hz27
            have hkpz27_me_isles : Kp [7, 8, 9, 10] [4] o_me_isles z27.1 := Kp.rf.trans (hz27_1.mono (by decide) (by decide))
            have hkpz27_me_isles_now : Kp [] [0] o_me_isles_now z27.2 := Kp.rf.trans (hz27_3.mono (by decide) (by decide))
            refine wp_bd (s_X5_clear o_me_past hI_me_past ) (fun z28 hz28 => ?_)
            obtain ⟨hz28_0, hz28_1⟩ := hz28
            have hkpz28_me_past : Kp [] [] o_me_past z28 := Kp.rf.trans (hz28_1.mono (by decide) (by decide))
            refine wp_bd (s_X8_grant o_me z26 hI_me ) (fun z29 hz29 => ?_)
            obtain ⟨hz29_0, hz29_1⟩ := hz29
            have hkpz29_me : Kp [] [] o_me z29.2 := Kp.rf.trans (hz29_1.mono (by decide) (by decide))
            refine wp_some ?_
            exact (show IvX8 z29.2 ∧ Kp [] [] o_me z29.2 ∧ IvX2 z27.1 ∧ Kp [7, 8, 9, 10] [4] o_me_isles z27.1 ∧ IvX4 z27.2 ∧ Kp [] [0] o_me_isles_now z27.2 ∧ IvX5 z28 ∧ Kp [] [] o_me_past z28 from ⟨hz29_0, hkpz29_me, hz27_0, hkpz27_me_isles, hz27_2, hkpz27_me_isles_now, hz28_0, hkpz28_me_past⟩)
          · have c25 := cv_nle (a := p1.toInt) (b := w22.toInt) rfl rfl c25
            unfold bk_X8_terms_41
            refine wp_bd (s_X8_refuse o_me (-1 : Int32) hI_me ) (fun z30 hz30 => ?_)
            obtain ⟨hz30_0, hz30_1⟩ := hz30
            have hkpz30_me : Kp [] [] o_me z30.2 := Kp.rf.trans (hz30_1.mono (by decide) (by decide))
            refine wp_some ?_
            exact (show IvX8 z30.2 ∧ Kp [] [] o_me z30.2 ∧ IvX2 o_me_isles ∧ Kp [7, 8, 9, 10] [4] o_me_isles o_me_isles ∧ IvX4 o_me_isles_now ∧ Kp [] [0] o_me_isles_now o_me_isles_now ∧ IvX5 o_me_past ∧ Kp [] [] o_me_past o_me_past from ⟨hz30_0, hkpz30_me, hI_me_isles, Kp.rf, hI_me_isles_now, Kp.rf, hI_me_past, Kp.rf⟩)
      · have c21 := cv_ne (a := p0.toInt) (b := 2) rfl (by decide) c21
        obtain ⟨w31, ew31⟩ : ∃ z : Int32, z = (-1 : Int32) := ⟨_, rfl⟩
        have tw31 : w31.toInt = (-1) := by rw [ew31]; decide
        rw [show bk_X8_terms_31   p0 p1 (-1 : Int32) o_me o_me_isles o_me_isles_now o_me_past = bk_X8_terms_31   p0 p1 w31 o_me o_me_isles o_me_isles_now o_me_past from by rw [ew31]]
        unfold bk_X8_terms_31
        refine wp_if (fun c32 => ?_) (fun c32 => ?_)
        · have c32 := cv_lt (a := p1.toInt) (b := 0) rfl (by decide) c32
          unfold bk_X8_terms_41
          refine wp_bd (s_X8_refuse o_me (-1 : Int32) hI_me ) (fun z33 hz33 => ?_)
          obtain ⟨hz33_0, hz33_1⟩ := hz33
          have hkpz33_me : Kp [] [] o_me z33.2 := Kp.rf.trans (hz33_1.mono (by decide) (by decide))
          refine wp_some ?_
          exact (show IvX8 z33.2 ∧ Kp [] [] o_me z33.2 ∧ IvX2 o_me_isles ∧ Kp [7, 8, 9, 10] [4] o_me_isles o_me_isles ∧ IvX4 o_me_isles_now ∧ Kp [] [0] o_me_isles_now o_me_isles_now ∧ IvX5 o_me_past ∧ Kp [] [] o_me_past o_me_past from ⟨hz33_0, hkpz33_me, hI_me_isles, Kp.rf, hI_me_isles_now, Kp.rf, hI_me_past, Kp.rf⟩)
        · have c32 := cv_nlt (a := p1.toInt) (b := 0) rfl (by decide) c32
          refine wp_if (fun c34 => ?_) (fun c34 => ?_)
          · have c34 := cv_le (a := p1.toInt) (b := w31.toInt) rfl rfl c34
            exfalso; omega
          · have c34 := cv_nle (a := p1.toInt) (b := w31.toInt) rfl rfl c34
            unfold bk_X8_terms_41
            refine wp_bd (s_X8_refuse o_me (-1 : Int32) hI_me ) (fun z35 hz35 => ?_)
            obtain ⟨hz35_0, hz35_1⟩ := hz35
            have hkpz35_me : Kp [] [] o_me z35.2 := Kp.rf.trans (hz35_1.mono (by decide) (by decide))
            refine wp_some ?_
            exact (show IvX8 z35.2 ∧ Kp [] [] o_me z35.2 ∧ IvX2 o_me_isles ∧ Kp [7, 8, 9, 10] [4] o_me_isles o_me_isles ∧ IvX4 o_me_isles_now ∧ Kp [] [0] o_me_isles_now o_me_isles_now ∧ IvX5 o_me_past ∧ Kp [] [] o_me_past o_me_past from ⟨hz35_0, hkpz35_me, hI_me_isles, Kp.rf, hI_me_isles_now, Kp.rf, hI_me_past, Kp.rf⟩)

