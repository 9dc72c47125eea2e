set_option maxHeartbeats 4000000 in
set_option maxRecDepth 100000 in
theorem s_X9_strength (o_me : Ob) (p0 : Int32) (p1 : Int32) (p2 : Int32) (hI_me : IvX9 o_me)  : wp (f_X9_strength   o_me p0 p1 p2) (fun (y : Int32 × Ob) => IvX9 y.2 ∧ Kp [8, 11, 13, 14, 15, 16, 18, 19, 20, 21, 23, 26, 29, 34, 38, 43, 56, 57, 58, 59, 62] [4, 5, 7, 10, 12, 22, 24, 25, 27, 28, 42, 48, 50, 51, 55, 61] [(0, 1), (1, 2), (29, 36), (64, 71)] o_me y.2) := by
  have li0 : (-1 : Int32).toInt = (-1) := by decide
  have li1 : (-2 : Int32).toInt = (-2) := by decide
  have li2 : (0 : Int32).toInt = 0 := by decide
  have li3 : (0 : Int64).toInt = 0 := by decide
  have li4 : (36 : Int32).toInt = 36 := by decide
  have li5 : (4 : Int32).toInt = 4 := by decide
  have li6 : (9 : Int64).toInt = 9 := by decide
  unfold f_X9_strength
  refine wp_lt (fun o1 eo1 => ?_)
  have hIo1 : IvX9 o1 := by rw [eo1]; exact hI_me
  have ko1_v : (gI o1 0).toInt = 0 := by rw [eo1]; exact (show ((0 : Int32)).toInt = _ from by decide)
  have hkpo1 : Kp [8, 11, 13, 14, 15, 16, 18, 19, 20, 21, 23, 26, 29, 34, 38, 43, 56, 57, 58, 59, 62] [4, 5, 7, 10, 12, 22, 24, 25, 27, 28, 42, 48, 50, 51, 55, 61] [(0, 1), (1, 2), (29, 36), (64, 71)] o_me o1 := Kp.rf.trans (by rw [eo1]; exact Kp.sI (by decide))
  refine wp_bd (s_X9_isRace   p1    ) (fun z2 hz2 => ?_)
  obtain ⟨hz2_0, hz2_1⟩ := hz2
  refine wp_if (fun c3 => ?_) (fun c3 => ?_)
  · have c3 := cv_eq (a := z2.toInt) (b := 0) rfl (by decide) c3
    unfold bk_X9_strength_24
    refine wp_bd (s_X9_tell   o1 (-1 : Int32)  hIo1  ⟨by decide, by decide⟩) (fun z4 hz4 => ?_)
    obtain ⟨hz4_0, hz4_1, hz4_2⟩ := hz4
    have hkpz4_me : Kp [8, 11, 13, 14, 15, 16, 18, 19, 20, 21, 23, 26, 29, 34, 38, 43, 56, 57, 58, 59, 62] [4, 5, 7, 10, 12, 22, 24, 25, 27, 28, 42, 48, 50, 51, 55, 61] [(0, 1), (1, 2), (29, 36), (64, 71)] o_me z4.2 := hkpo1.trans (hz4_2.mono (by decide) (by decide) (by decide))
    refine wp_some ?_
    exact (show IvX9 z4.2 ∧ Kp [8, 11, 13, 14, 15, 16, 18, 19, 20, 21, 23, 26, 29, 34, 38, 43, 56, 57, 58, 59, 62] [4, 5, 7, 10, 12, 22, 24, 25, 27, 28, 42, 48, 50, 51, 55, 61] [(0, 1), (1, 2), (29, 36), (64, 71)] o_me z4.2 from ⟨hz4_1, hkpz4_me⟩)
  · have c3z := c3
    have c3i := hz2_1 c3
    have c3 := cv_ne (a := z2.toInt) (b := 0) rfl (by decide) c3
    have rg5 := i32_rg p2
    have t6 : p2.toInt64.toInt = p2.toInt := Int32.toInt_toInt64 _
    refine wp_bd (s_X9_in   p2.toInt64 (0 : Int64) (9 : Int64)    ) (fun z7 hz7 => ?_)
    obtain ⟨hz7_0, hz7_1⟩ := hz7
    refine wp_if (fun c8 => ?_) (fun c8 => ?_)
    · have c8 := cv_eq (a := z7.toInt) (b := 0) rfl (by decide) c8
      unfold bk_X9_strength_24
      refine wp_bd (s_X9_tell   o1 (-1 : Int32)  hIo1  ⟨by decide, by decide⟩) (fun z9 hz9 => ?_)
      obtain ⟨hz9_0, hz9_1, hz9_2⟩ := hz9
      have hkpz9_me : Kp [8, 11, 13, 14, 15, 16, 18, 19, 20, 21, 23, 26, 29, 34, 38, 43, 56, 57, 58, 59, 62] [4, 5, 7, 10, 12, 22, 24, 25, 27, 28, 42, 48, 50, 51, 55, 61] [(0, 1), (1, 2), (29, 36), (64, 71)] o_me z9.2 := hkpo1.trans (hz9_2.mono (by decide) (by decide) (by decide))
      refine wp_some ?_
      exact (show IvX9 z9.2 ∧ Kp [8, 11, 13, 14, 15, 16, 18, 19, 20, 21, 23, 26, 29, 34, 38, 43, 56, 57, 58, 59, 62] [4, 5, 7, 10, 12, 22, 24, 25, 27, 28, 42, 48, 50, 51, 55, 61] [(0, 1), (1, 2), (29, 36), (64, 71)] o_me z9.2 from ⟨hz9_1, hkpz9_me⟩)
    · have c8z := c8
      have c8i := hz7_1 c8
      have c8 := cv_ne (a := z7.toInt) (b := 0) rfl (by decide) c8
      refine wp_bd (s_X9_isPerson   o1 p0  hIo1  ) (fun z10 hz10 => ?_)
      obtain ⟨hz10_0, hz10_1⟩ := hz10
      refine wp_if (fun c11 => ?_) (fun c11 => ?_)
      · have c11 := cv_eq (a := z10.toInt) (b := 0) rfl (by decide) c11
        refine wp_bd (s_X9_tell   o1 (-2 : Int32)  hIo1  ⟨by decide, by decide⟩) (fun z12 hz12 => ?_)
        obtain ⟨hz12_0, hz12_1, hz12_2⟩ := hz12
        have hkpz12_me : Kp [8, 11, 13, 14, 15, 16, 18, 19, 20, 21, 23, 26, 29, 34, 38, 43, 56, 57, 58, 59, 62] [4, 5, 7, 10, 12, 22, 24, 25, 27, 28, 42, 48, 50, 51, 55, 61] [(0, 1), (1, 2), (29, 36), (64, 71)] o_me z12.2 := hkpo1.trans (hz12_2.mono (by decide) (by decide) (by decide))
        refine wp_some ?_
        exact (show IvX9 z12.2 ∧ Kp [8, 11, 13, 14, 15, 16, 18, 19, 20, 21, 23, 26, 29, 34, 38, 43, 56, 57, 58, 59, 62] [4, 5, 7, 10, 12, 22, 24, 25, 27, 28, 42, 48, 50, 51, 55, 61] [(0, 1), (1, 2), (29, 36), (64, 71)] o_me z12.2 from ⟨hz12_1, hkpz12_me⟩)
      · have c11z := c11
        have c11i := hz10_1 c11
        have c11 := cv_ne (a := z10.toInt) (b := 0) rfl (by decide) c11
        have t13 : ((4 : Int32) * p0).toInt = 4 * p0.toInt := i32_mul (by decide) rfl (by omega) (by omega)
        have t14 : ((36 : Int32) + ((4 : Int32) * p0)).toInt = 36 + ((4 : Int32) * p0).toInt := i32_add (by decide) rfl (by omega) (by omega)
        have t15 : (((36 : Int32) + ((4 : Int32) * p0)) + p1).toInt = ((36 : Int32) + ((4 : Int32) * p0)).toInt + p1.toInt := i32_add rfl rfl (by omega) (by omega)
        refine wp_bd (s_X9_change   o1 (((36 : Int32) + ((4 : Int32) * p0)) + p1) p2  hIo1  ⟨by omega, by omega⟩) (fun z16 hz16 => ?_)
        obtain ⟨hz16_0, hz16_1⟩ := hz16
        have hkpz16_me : Kp [8, 11, 13, 14, 15, 16, 18, 19, 20, 21, 23, 26, 29, 34, 38, 43, 56, 57, 58, 59, 62] [4, 5, 7, 10, 12, 22, 24, 25, 27, 28, 42, 48, 50, 51, 55, 61] [(0, 1), (1, 2), (29, 36), (64, 71)] o_me z16.2 := hkpo1.trans (hz16_1.mono (by decide) (by decide) (by decide))
        refine wp_some ?_
        exact (show IvX9 z16.2 ∧ Kp [8, 11, 13, 14, 15, 16, 18, 19, 20, 21, 23, 26, 29, 34, 38, 43, 56, 57, 58, 59, 62] [4, 5, 7, 10, 12, 22, 24, 25, 27, 28, 42, 48, 50, 51, 55, 61] [(0, 1), (1, 2), (29, 36), (64, 71)] o_me z16.2 from ⟨hz16_0, hkpz16_me⟩)

set_option maxHeartbeats 4000000 in
set_option maxRecDepth 100000 in
theorem s_X9_take (o_me : Ob) (p0 : Int32) (hI_me : IvX9 o_me)  : wp (f_X9_take   o_me p0) (fun (y : Int32 × Ob) => ((-6) ≤ y.1.toInt ∧ y.1.toInt ≤ 2147483647) ∧ IvX9 y.2 ∧ Kp [11, 13, 14, 15, 16, 18, 19, 20, 21, 23, 26, 29, 34, 38, 43, 56, 57, 58, 59, 62] [4, 5, 10, 12, 22, 24, 25, 27, 28, 42, 48, 50, 51, 55, 61] [(0, 1), (1, 2), (29, 36), (36, 64), (64, 71)] o_me y.2) := by
  have li0 : (0 : Int32).toInt = 0 := by decide
  unfold f_X9_take
  refine wp_lt (fun o1 eo1 => ?_)
  have hIo1 : IvX9 o1 := by rw [eo1]; exact hI_me
  have ko1_v : (gI o1 0).toInt = 0 := by rw [eo1]; exact (show ((0 : Int32)).toInt = _ from by decide)
  have hkpo1 : Kp [11, 13, 14, 15, 16, 18, 19, 20, 21, 23, 26, 29, 34, 38, 43, 56, 57, 58, 59, 62] [4, 5, 10, 12, 22, 24, 25, 27, 28, 42, 48, 50, 51, 55, 61] [(0, 1), (1, 2), (29, 36), (36, 64), (64, 71)] o_me o1 := Kp.rf.trans (by rw [eo1]; exact Kp.sI (by decide))
  refine wp_bd (s_X9_takeNow   o1 p0  hIo1  ) (fun z2 hz2 => ?_)
  obtain ⟨hz2_0, hz2_1, hz2_2⟩ := hz2
  have hkpz2_me : Kp [11, 13, 14, 15, 16, 18, 19, 20, 21, 23, 26, 29, 34, 38, 43, 56, 57, 58, 59, 62] [4, 5, 10, 12, 22, 24, 25, 27, 28, 42, 48, 50, 51, 55, 61] [(0, 1), (1, 2), (29, 36), (36, 64), (64, 71)] o_me z2.2 := hkpo1.trans (hz2_2.mono (by decide) (by decide) (by decide))
  have rg4 := i32_rg z2.1
  refine wp_bd (s_X9_tell   z2.2 z2.1  hz2_1  ⟨by omega, by omega⟩) (fun z3 hz3 => ?_)
  obtain ⟨hz3_0, hz3_1, hz3_2⟩ := hz3
  have hkpz3_me : Kp [11, 13, 14, 15, 16, 18, 19, 20, 21, 23, 26, 29, 34, 38, 43, 56, 57, 58, 59, 62] [4, 5, 10, 12, 22, 24, 25, 27, 28, 42, 48, 50, 51, 55, 61] [(0, 1), (1, 2), (29, 36), (36, 64), (64, 71)] o_me z3.2 := hkpz2_me.trans (hz3_2.mono (by decide) (by decide) (by decide))
  refine wp_some ?_
  have rg5 := i32_rg z3.1
  exact (show ((-6) ≤ z3.1.toInt ∧ z3.1.toInt ≤ 2147483647) ∧ IvX9 z3.2 ∧ Kp [11, 13, 14, 15, 16, 18, 19, 20, 21, 23, 26, 29, 34, 38, 43, 56, 57, 58, 59, 62] [4, 5, 10, 12, 22, 24, 25, 27, 28, 42, 48, 50, 51, 55, 61] [(0, 1), (1, 2), (29, 36), (36, 64), (64, 71)] o_me z3.2 from ⟨⟨by omega, by omega⟩, hz3_1, hkpz3_me⟩)

set_option maxHeartbeats 4000000 in
set_option maxRecDepth 100000 in
theorem s_X9_change_v1 (o_me : Ob) (p0 : Int32) (p1 : Int32) (hI_me : IvX9 o_me) (q0 : 4 ≤ p0.toInt ∧ p0.toInt ≤ 6) : wp (f_X9_change   o_me p0 p1) (fun (y : Int32 × Ob) => IvX9 y.2 ∧ Kp [8, 11, 13, 14, 15, 16, 18, 19, 20, 21, 23, 26, 29, 34, 38, 43, 56, 57, 58, 59, 62] [2, 4, 5, 7, 10, 12, 22, 24, 25, 27, 28, 42, 48, 50, 51, 55, 61] [(0, 1), (1, 2), (29, 36), (36, 64), (64, 71)] o_me y.2) := by
  have li0 : (0 : Int32).toInt = 0 := by decide
  unfold f_X9_change
  refine wp_gd (zin_of (m := 5484) rfl (by omega) (by omega)) ?_
  refine wp_lt (fun x1 ex1 => ?_)
  have tx1 : x1.toInt = (gA o_me 3 p0.toNatClampNeg).toInt := by rw [ex1]
  refine wp_gd (zin_of (m := 5484) rfl (by omega) (by omega)) ?_
  refine wp_lt (fun o2 eo2 => ?_)
  have hIo2 : IvX9 o2 := by rw [eo2]; exact ibX9_3 hI_me (by omega) (by omega) (Or.inr (Or.inl (by first | omega | decide))) (Or.inr (Or.inl (by first | omega | decide))) (Or.inr (Or.inl (by first | omega | decide))) (Or.inr (Or.inl (by first | omega | decide))) (Or.inl (by first | omega | decide)) (Or.inl (by first | omega | decide)) (Or.inl (by first | omega | decide)) (Or.inl (by first | omega | decide)) (Or.inl (by first | omega | decide))
  have ko2_v : (gA o2 3 p0.toNatClampNeg).toInt = p1.toInt := by rw [eo2]; exact congrArg Int32.toInt (upd_eq (g := gA o_me 3) (i := p0) (v := p1))
  have hkpo2 : Kp [8, 11, 13, 14, 15, 16, 18, 19, 20, 21, 23, 26, 29, 34, 38, 43, 56, 57, 58, 59, 62] [2, 4, 5, 7, 10, 12, 22, 24, 25, 27, 28, 42, 48, 50, 51, 55, 61] [(0, 1), (1, 2), (29, 36), (36, 64), (64, 71)] o_me o2 := Kp.rf.trans (by rw [eo2]; exact kp_bw (a := 2) (b := 29) (by decide) (by decide) (by omega) (by omega))
  refine wp_lt (fun o3 eo3 => ?_)
  have hIo3 : IvX9 o3 := by rw [eo3]; exact hIo2
  have ko3_k4 : (gA o3 3 p0.toNatClampNeg).toInt = (gA o2 3 p0.toNatClampNeg).toInt := by rw [eo3]; rfl
  have ko3_v : (gI o3 1).toInt = 0 := by rw [eo3]; exact (show ((0 : Int32)).toInt = _ from by decide)
  have hkpo3 : Kp [8, 11, 13, 14, 15, 16, 18, 19, 20, 21, 23, 26, 29, 34, 38, 43, 56, 57, 58, 59, 62] [2, 4, 5, 7, 10, 12, 22, 24, 25, 27, 28, 42, 48, 50, 51, 55, 61] [(0, 1), (1, 2), (29, 36), (36, 64), (64, 71)] o_me o3 := hkpo2.trans (by rw [eo3]; exact Kp.sI (by decide))
  refine wp_some ?_
  exact (show IvX9 o3 ∧ Kp [8, 11, 13, 14, 15, 16, 18, 19, 20, 21, 23, 26, 29, 34, 38, 43, 56, 57, 58, 59, 62] [2, 4, 5, 7, 10, 12, 22, 24, 25, 27, 28, 42, 48, 50, 51, 55, 61] [(0, 1), (1, 2), (29, 36), (36, 64), (64, 71)] o_me o3 from ⟨hIo3, hkpo3⟩)

set_option maxHeartbeats 4000000 in
set_option maxRecDepth 100000 in
theorem s_X9_terms (o_me : Ob) (p0 : Int32) (p1 : Int32) (hI_me : IvX9 o_me)  : wp (f_X9_terms   o_me p0 p1) (fun (y : Int32 × Ob) => IvX9 y.2 ∧ Kp [11, 13, 14, 15, 16, 18, 19, 20, 21, 23, 26, 29, 34, 38, 43, 56, 57, 58, 59, 62] [4, 5, 7, 10, 12, 22, 24, 25, 27, 28, 42, 48, 50, 51, 55, 61] [(0, 1), (1, 2), (29, 36), (36, 64), (64, 71)] o_me y.2) := by
  have li0 : (-1 : Int32).toInt = (-1) := by decide
  have li1 : (0 : Int32).toInt = 0 := by decide
  have li2 : (0 : Int64).toInt = 0 := by decide
  have li3 : (1 : Int32).toInt = 1 := by decide
  have li4 : (10 : Int64).toInt = 10 := by decide
  have li5 : (2 : Int32).toInt = 2 := by decide
  have li6 : (4 : Int32).toInt = 4 := by decide
  have li7 : (9 : Int64).toInt = 9 := by decide
  have li8 : (999 : Int64).toInt = 999 := by decide
  unfold f_X9_terms
  refine wp_lt (fun o1 eo1 => ?_)
  have hIo1 : IvX9 o1 := by rw [eo1]; exact hI_me
  have ko1_v : (gI o1 0).toInt = 0 := by rw [eo1]; exact (show ((0 : Int32)).toInt = _ from by decide)
  have hkpo1 : Kp [11, 13, 14, 15, 16, 18, 19, 20, 21, 23, 26, 29, 34, 38, 43, 56, 57, 58, 59, 62] [4, 5, 7, 10, 12, 22, 24, 25, 27, 28, 42, 48, 50, 51, 55, 61] [(0, 1), (1, 2), (29, 36), (36, 64), (64, 71)] o_me o1 := Kp.rf.trans (by rw [eo1]; exact Kp.sI (by decide))
  refine wp_if (fun c2 => ?_) (fun c2 => ?_)
  · have c2 := cv_eq (a := p0.toInt) (b := 0) rfl (by decide) c2
    have rg3 := i32_rg p1
    have t4 : p1.toInt64.toInt = p1.toInt := Int32.toInt_toInt64 _
    refine wp_bd (s_X9_in   p1.toInt64 (0 : Int64) (999 : Int64)    ) (fun z5 hz5 => ?_)
    obtain ⟨hz5_0, hz5_1⟩ := hz5
    unfold bk_X9_terms_60
    refine wp_if (fun c6 => ?_) (fun c6 => ?_)
    · have c6 := cv_eq (a := z5.toInt) (b := 0) rfl (by decide) c6
      refine wp_bd (s_X9_tell   o1 (-1 : Int32)  hIo1  ⟨by decide, by decide⟩) (fun z7 hz7 => ?_)
      obtain ⟨hz7_0, hz7_1, hz7_2⟩ := hz7
      have hkpz7_me : Kp [11, 13, 14, 15, 16, 18, 19, 20, 21, 23, 26, 29, 34, 38, 43, 56, 57, 58, 59, 62] [4, 5, 7, 10, 12, 22, 24, 25, 27, 28, 42, 48, 50, 51, 55, 61] [(0, 1), (1, 2), (29, 36), (36, 64), (64, 71)] o_me z7.2 := hkpo1.trans (hz7_2.mono (by decide) (by decide) (by decide))
      refine wp_some ?_
      exact (show IvX9 z7.2 ∧ Kp [11, 13, 14, 15, 16, 18, 19, 20, 21, 23, 26, 29, 34, 38, 43, 56, 57, 58, 59, 62] [4, 5, 7, 10, 12, 22, 24, 25, 27, 28, 42, 48, 50, 51, 55, 61] [(0, 1), (1, 2), (29, 36), (36, 64), (64, 71)] o_me z7.2 from ⟨hz7_1, hkpz7_me⟩)
    · have c6z := c6
      have c6i := hz5_1 c6
      have c6 := cv_ne (a := z5.toInt) (b := 0) rfl (by decide) c6
      refine wp_lt (fun o8 eo8 => ?_)
      have hIo8 : IvX9 o8 := by rw [eo8]; exact ipX9_8 hIo1 ⟨by decide, by decide⟩
      have ko8_k9 : (gI o8 0).toInt = (gI o1 0).toInt := by rw [eo8]; rfl
      have ko8_v : (gI o8 8).toInt = 0 := by rw [eo8]; exact (show ((0 : Int32)).toInt = _ from by decide)
      have hkpo8 : Kp [11, 13, 14, 15, 16, 18, 19, 20, 21, 23, 26, 29, 34, 38, 43, 56, 57, 58, 59, 62] [4, 5, 7, 10, 12, 22, 24, 25, 27, 28, 42, 48, 50, 51, 55, 61] [(0, 1), (1, 2), (29, 36), (36, 64), (64, 71)] o_me o8 := hkpo1.trans (by rw [eo8]; exact Kp.sI (by decide))
      have t10 : ((4 : Int32) + p0).toInt = 4 + p0.toInt := i32_add (by decide) rfl (by omega) (by omega)
      refine wp_bd (s_X9_change_v1   o8 ((4 : Int32) + p0) p1  hIo8  ⟨by omega, by omega⟩) (fun z11 hz11 => ?_)
      obtain ⟨hz11_0, hz11_1⟩ := hz11
      have hkpz11_me : Kp [11, 13, 14, 15, 16, 18, 19, 20, 21, 23, 26, 29, 34, 38, 43, 56, 57, 58, 59, 62] [4, 5, 7, 10, 12, 22, 24, 25, 27, 28, 42, 48, 50, 51, 55, 61] [(0, 1), (1, 2), (29, 36), (36, 64), (64, 71)] o_me z11.2 := hkpo8.trans (hz11_1.mono (by decide) (by decide) (by decide))
      have kz11_k12 : (gI z11.2 8).toInt = (gI o8 8).toInt := congrArg Int32.toInt (hz11_1.1 8 (by decide))
      refine wp_some ?_
      exact (show IvX9 z11.2 ∧ Kp [11, 13, 14, 15, 16, 18, 19, 20, 21, 23, 26, 29, 34, 38, 43, 56, 57, 58, 59, 62] [4, 5, 7, 10, 12, 22, 24, 25, 27, 28, 42, 48, 50, 51, 55, 61] [(0, 1), (1, 2), (29, 36), (36, 64), (64, 71)] o_me z11.2 from ⟨hz11_0, hkpz11_me⟩)
  · have c2z := c2
    have c2 := cv_ne (a := p0.toInt) (b := 0) rfl (by decide) c2
    refine wp_if (fun c13 => ?_) (fun c13 => ?_)
    · have c13 := cv_eq (a := p0.toInt) (b := 1) rfl (by decide) c13
      have rg14 := i32_rg p1
      have t15 : p1.toInt64.toInt = p1.toInt := Int32.toInt_toInt64 _
      refine wp_bd (s_X9_in   p1.toInt64 (0 : Int64) (10 : Int64)    ) (fun z16 hz16 => ?_)
      obtain ⟨hz16_0, hz16_1⟩ := hz16
      unfold bk_X9_terms_60
      refine wp_if (fun c17 => ?_) (fun c17 => ?_)
      · have c17 := cv_eq (a := z16.toInt) (b := 0) rfl (by decide) c17
        refine wp_bd (s_X9_tell   o1 (-1 : Int32)  hIo1  ⟨by decide, by decide⟩) (fun z18 hz18 => ?_)
        obtain ⟨hz18_0, hz18_1, hz18_2⟩ := hz18
        have hkpz18_me : Kp [11, 13, 14, 15, 16, 18, 19, 20, 21, 23, 26, 29, 34, 38, 43, 56, 57, 58, 59, 62] [4, 5, 7, 10, 12, 22, 24, 25, 27, 28, 42, 48, 50, 51, 55, 61] [(0, 1), (1, 2), (29, 36), (36, 64), (64, 71)] o_me z18.2 := hkpo1.trans (hz18_2.mono (by decide) (by decide) (by decide))
        refine wp_some ?_
        exact (show IvX9 z18.2 ∧ Kp [11, 13, 14, 15, 16, 18, 19, 20, 21, 23, 26, 29, 34, 38, 43, 56, 57, 58, 59, 62] [4, 5, 7, 10, 12, 22, 24, 25, 27, 28, 42, 48, 50, 51, 55, 61] [(0, 1), (1, 2), (29, 36), (36, 64), (64, 71)] o_me z18.2 from ⟨hz18_1, hkpz18_me⟩)
      · have c17z := c17
        have c17i := hz16_1 c17
        have c17 := cv_ne (a := z16.toInt) (b := 0) rfl (by decide) c17
        refine wp_lt (fun o19 eo19 => ?_)
        have hIo19 : IvX9 o19 := by rw [eo19]; exact ipX9_8 hIo1 ⟨by decide, by decide⟩
        have ko19_k20 : (gI o19 0).toInt = (gI o1 0).toInt := by rw [eo19]; rfl
        have ko19_v : (gI o19 8).toInt = 0 := by rw [eo19]; exact (show ((0 : Int32)).toInt = _ from by decide)
        have hkpo19 : Kp [11, 13, 14, 15, 16, 18, 19, 20, 21, 23, 26, 29, 34, 38, 43, 56, 57, 58, 59, 62] [4, 5, 7, 10, 12, 22, 24, 25, 27, 28, 42, 48, 50, 51, 55, 61] [(0, 1), (1, 2), (29, 36), (36, 64), (64, 71)] o_me o19 := hkpo1.trans (by rw [eo19]; exact Kp.sI (by decide))
        have t21 : ((4 : Int32) + p0).toInt = 4 + p0.toInt := i32_add (by decide) rfl (by omega) (by omega)
        refine wp_bd (s_X9_change_v1   o19 ((4 : Int32) + p0) p1  hIo19  ⟨by omega, by omega⟩) (fun z22 hz22 => ?_)
        obtain ⟨hz22_0, hz22_1⟩ := hz22
        have hkpz22_me : Kp [11, 13, 14, 15, 16, 18, 19, 20, 21, 23, 26, 29, 34, 38, 43, 56, 57, 58, 59, 62] [4, 5, 7, 10, 12, 22, 24, 25, 27, 28, 42, 48, 50, 51, 55, 61] [(0, 1), (1, 2), (29, 36), (36, 64), (64, 71)] o_me z22.2 := hkpo19.trans (hz22_1.mono (by decide) (by decide) (by decide))
        have kz22_k23 : (gI z22.2 8).toInt = (gI o19 8).toInt := congrArg Int32.toInt (hz22_1.1 8 (by decide))
        refine wp_some ?_
        exact (show IvX9 z22.2 ∧ Kp [11, 13, 14, 15, 16, 18, 19, 20, 21, 23, 26, 29, 34, 38, 43, 56, 57, 58, 59, 62] [4, 5, 7, 10, 12, 22, 24, 25, 27, 28, 42, 48, 50, 51, 55, 61] [(0, 1), (1, 2), (29, 36), (36, 64), (64, 71)] o_me z22.2 from ⟨hz22_0, hkpz22_me⟩)
    · have c13 := cv_ne (a := p0.toInt) (b := 1) rfl (by decide) c13
      refine wp_if (fun c24 => ?_) (fun c24 => ?_)
      · have c24 := cv_eq (a := p0.toInt) (b := 2) rfl (by decide) c24
        have rg25 := i32_rg p1
        have t26 : p1.toInt64.toInt = p1.toInt := Int32.toInt_toInt64 _
        refine wp_bd (s_X9_in   p1.toInt64 (0 : Int64) (9 : Int64)    ) (fun z27 hz27 => ?_)
        obtain ⟨hz27_0, hz27_1⟩ := hz27
        refine wp_if (fun c28 => ?_) (fun c28 => ?_)
        · have c28 := cv_eq (a := z27.toInt) (b := 0) rfl (by decide) c28
          unfold bk_X9_terms_59
          obtain ⟨w29, ew29⟩ : ∃ z : Int32, z = (0 : Int32) := ⟨_, rfl⟩
          have tw29 : w29.toInt = 0 := by rw [ew29]; decide
          rw [show bk_X9_terms_60   p0 p1 (0 : Int32) o1 = bk_X9_terms_60   p0 p1 w29 o1 from by rw [ew29]]
          unfold bk_X9_terms_60
          refine wp_if (fun c30 => ?_) (fun c30 => ?_)
          · have c30 := cv_eq (a := w29.toInt) (b := 0) rfl (by decide) c30
            refine wp_bd (s_X9_tell   o1 (-1 : Int32)  hIo1  ⟨by decide, by decide⟩) (fun z31 hz31 => ?_)
            obtain ⟨hz31_0, hz31_1, hz31_2⟩ := hz31
            have hkpz31_me : Kp [11, 13, 14, 15, 16, 18, 19, 20, 21, 23, 26, 29, 34, 38, 43, 56, 57, 58, 59, 62] [4, 5, 7, 10, 12, 22, 24, 25, 27, 28, 42, 48, 50, 51, 55, 61] [(0, 1), (1, 2), (29, 36), (36, 64), (64, 71)] o_me z31.2 := hkpo1.trans (hz31_2.mono (by decide) (by decide) (by decide))
            refine wp_some ?_
            exact (show IvX9 z31.2 ∧ Kp [11, 13, 14, 15, 16, 18, 19, 20, 21, 23, 26, 29, 34, 38, 43, 56, 57, 58, 59, 62] [4, 5, 7, 10, 12, 22, 24, 25, 27, 28, 42, 48, 50, 51, 55, 61] [(0, 1), (1, 2), (29, 36), (36, 64), (64, 71)] o_me z31.2 from ⟨hz31_1, hkpz31_me⟩)
          · have c30z := c30
            have c30 := cv_ne (a := w29.toInt) (b := 0) rfl (by decide) c30
            exfalso; omega
        · have c28z := c28
          have c28i := hz27_1 c28
          have c28 := cv_ne (a := z27.toInt) (b := 0) rfl (by decide) c28
          obtain ⟨w32, ew32⟩ : ∃ z : Int32, z = (1 : Int32) := ⟨_, rfl⟩
          have tw32 : w32.toInt = 1 := by rw [ew32]; decide
          rw [show bk_X9_terms_60   p0 p1 (1 : Int32) o1 = bk_X9_terms_60   p0 p1 w32 o1 from by rw [ew32]]
          unfold bk_X9_terms_60
          refine wp_if (fun c33 => ?_) (fun c33 => ?_)
          · have c33 := cv_eq (a := w32.toInt) (b := 0) rfl (by decide) c33
            exfalso; omega
          · have c33z := c33
            have c33 := cv_ne (a := w32.toInt) (b := 0) rfl (by decide) c33
            refine wp_lt (fun o34 eo34 => ?_)
            have hIo34 : IvX9 o34 := by rw [eo34]; exact ipX9_8 hIo1 ⟨by decide, by decide⟩
            have ko34_k35 : (gI o34 0).toInt = (gI o1 0).toInt := by rw [eo34]; rfl
            have ko34_v : (gI o34 8).toInt = 0 := by rw [eo34]; exact (show ((0 : Int32)).toInt = _ from by decide)
            have hkpo34 : Kp [11, 13, 14, 15, 16, 18, 19, 20, 21, 23, 26, 29, 34, 38, 43, 56, 57, 58, 59, 62] [4, 5, 7, 10, 12, 22, 24, 25, 27, 28, 42, 48, 50, 51, 55, 61] [(0, 1), (1, 2), (29, 36), (36, 64), (64, 71)] o_me o34 := hkpo1.trans (by rw [eo34]; exact Kp.sI (by decide))
            have t36 : ((4 : Int32) + p0).toInt = 4 + p0.toInt := i32_add (by decide) rfl (by omega) (by omega)
            refine wp_bd (s_X9_change_v1   o34 ((4 : Int32) + p0) p1  hIo34  ⟨by omega, by omega⟩) (fun z37 hz37 => ?_)
            obtain ⟨hz37_0, hz37_1⟩ := hz37
            have hkpz37_me : Kp [11, 13, 14, 15, 16, 18, 19, 20, 21, 23, 26, 29, 34, 38, 43, 56, 57, 58, 59, 62] [4, 5, 7, 10, 12, 22, 24, 25, 27, 28, 42, 48, 50, 51, 55, 61] [(0, 1), (1, 2), (29, 36), (36, 64), (64, 71)] o_me z37.2 := hkpo34.trans (hz37_1.mono (by decide) (by decide) (by decide))
            have kz37_k38 : (gI z37.2 8).toInt = (gI o34 8).toInt := congrArg Int32.toInt (hz37_1.1 8 (by decide))
            refine wp_some ?_
            exact (show IvX9 z37.2 ∧ Kp [11, 13, 14, 15, 16, 18, 19, 20, 21, 23, 26, 29, 34, 38, 43, 56, 57, 58, 59, 62] [4, 5, 7, 10, 12, 22, 24, 25, 27, 28, 42, 48, 50, 51, 55, 61] [(0, 1), (1, 2), (29, 36), (36, 64), (64, 71)] o_me z37.2 from ⟨hz37_0, hkpz37_me⟩)
      · have c24 := cv_ne (a := p0.toInt) (b := 2) rfl (by decide) c24
        unfold bk_X9_terms_59
        obtain ⟨w39, ew39⟩ : ∃ z : Int32, z = (0 : Int32) := ⟨_, rfl⟩
        have tw39 : w39.toInt = 0 := by rw [ew39]; decide
        rw [show bk_X9_terms_60   p0 p1 (0 : Int32) o1 = bk_X9_terms_60   p0 p1 w39 o1 from by rw [ew39]]
        unfold bk_X9_terms_60
        refine wp_if (fun c40 => ?_) (fun c40 => ?_)
        · have c40 := cv_eq (a := w39.toInt) (b := 0) rfl (by decide) c40
          refine wp_bd (s_X9_tell   o1 (-1 : Int32)  hIo1  ⟨by decide, by decide⟩) (fun z41 hz41 => ?_)
          obtain ⟨hz41_0, hz41_1, hz41_2⟩ := hz41
          have hkpz41_me : Kp [11, 13, 14, 15, 16, 18, 19, 20, 21, 23, 26, 29, 34, 38, 43, 56, 57, 58, 59, 62] [4, 5, 7, 10, 12, 22, 24, 25, 27, 28, 42, 48, 50, 51, 55, 61] [(0, 1), (1, 2), (29, 36), (36, 64), (64, 71)] o_me z41.2 := hkpo1.trans (hz41_2.mono (by decide) (by decide) (by decide))
          refine wp_some ?_
          exact (show IvX9 z41.2 ∧ Kp [11, 13, 14, 15, 16, 18, 19, 20, 21, 23, 26, 29, 34, 38, 43, 56, 57, 58, 59, 62] [4, 5, 7, 10, 12, 22, 24, 25, 27, 28, 42, 48, 50, 51, 55, 61] [(0, 1), (1, 2), (29, 36), (36, 64), (64, 71)] o_me z41.2 from ⟨hz41_1, hkpz41_me⟩)
        · have c40z := c40
          have c40 := cv_ne (a := w39.toInt) (b := 0) rfl (by decide) c40
          exfalso; omega

set_option maxHeartbeats 4000000 in
set_option maxRecDepth 100000 in
theorem s_X9_undo (o_me : Ob) (hI_me : IvX9 o_me)  : wp (f_X9_undo   o_me) (fun (y : Int32 × Ob) => ((-6) ≤ y.1.toInt ∧ y.1.toInt ≤ 2147483647) ∧ IvX9 y.2 ∧ Kp [11, 13, 14, 15, 16, 18, 19, 20, 21, 23, 26, 29, 34, 38, 43, 56, 57, 58, 59, 62] [4, 5, 7, 10, 12, 22, 24, 25, 27, 28, 42, 48, 50, 51, 55, 61] [(0, 1), (1, 2), (29, 36), (36, 64), (64, 71)] o_me y.2) := by
  have li0 : (-3 : Int32).toInt = (-3) := by decide
  have li1 : (0 : Int32).toInt = 0 := by decide
  have li2 : (1 : Int32).toInt = 1 := by decide
  unfold f_X9_undo
  refine wp_lt (fun o1 eo1 => ?_)
  have hIo1 : IvX9 o1 := by rw [eo1]; exact hI_me
  have ko1_v : (gI o1 0).toInt = 0 := by rw [eo1]; exact (show ((0 : Int32)).toInt = _ from by decide)
  have hkpo1 : Kp [11, 13, 14, 15, 16, 18, 19, 20, 21, 23, 26, 29, 34, 38, 43, 56, 57, 58, 59, 62] [4, 5, 7, 10, 12, 22, 24, 25, 27, 28, 42, 48, 50, 51, 55, 61] [(0, 1), (1, 2), (29, 36), (36, 64), (64, 71)] o_me o1 := Kp.rf.trans (by rw [eo1]; exact Kp.sI (by decide))
  have t2 := igX9_8 hIo1
  refine wp_if (fun c3 => ?_) (fun c3 => ?_)
  · have c3 := cv_eq (a := (gI o1 8).toInt) (b := 0) rfl (by decide) c3
    refine wp_bd (s_X9_tell   o1 (-3 : Int32)  hIo1  ⟨by decide, by decide⟩) (fun z4 hz4 => ?_)
    obtain ⟨hz4_0, hz4_1, hz4_2⟩ := hz4
    have hkpz4_me : Kp [11, 13, 14, 15, 16, 18, 19, 20, 21, 23, 26, 29, 34, 38, 43, 56, 57, 58, 59, 62] [4, 5, 7, 10, 12, 22, 24, 25, 27, 28, 42, 48, 50, 51, 55, 61] [(0, 1), (1, 2), (29, 36), (36, 64), (64, 71)] o_me z4.2 := hkpo1.trans (hz4_2.mono (by decide) (by decide) (by decide))
    have kz4_k5 : (gI z4.2 8).toInt = (gI o1 8).toInt := congrArg Int32.toInt (hz4_2.1 8 (by decide))
    refine wp_some ?_
    have rg6 := i32_rg z4.1
    exact (show ((-6) ≤ z4.1.toInt ∧ z4.1.toInt ≤ 2147483647) ∧ IvX9 z4.2 ∧ Kp [11, 13, 14, 15, 16, 18, 19, 20, 21, 23, 26, 29, 34, 38, 43, 56, 57, 58, 59, 62] [4, 5, 7, 10, 12, 22, 24, 25, 27, 28, 42, 48, 50, 51, 55, 61] [(0, 1), (1, 2), (29, 36), (36, 64), (64, 71)] o_me z4.2 from ⟨⟨by omega, by omega⟩, hz4_1, hkpz4_me⟩)
  · have c3z := c3
    have c3 := cv_ne (a := (gI o1 8).toInt) (b := 0) rfl (by decide) c3
    have t7 : ((gI o1 8) - (1 : Int32)).toInt = (gI o1 8).toInt - 1 := i32_sub rfl (by decide) (by omega) (by omega)
    refine wp_lt (fun o8 eo8 => ?_)
    have hIo8 : IvX9 o8 := by rw [eo8]; exact ipX9_8 hIo1 ⟨by omega, by omega⟩
    have ko8_k9 : (gI o8 0).toInt = (gI o1 0).toInt := by rw [eo8]; rfl
    have ko8_v : (gI o8 8).toInt = ((gI o1 8) - (1 : Int32)).toInt := by rw [eo8]; rfl
    have hkpo8 : Kp [11, 13, 14, 15, 16, 18, 19, 20, 21, 23, 26, 29, 34, 38, 43, 56, 57, 58, 59, 62] [4, 5, 7, 10, 12, 22, 24, 25, 27, 28, 42, 48, 50, 51, 55, 61] [(0, 1), (1, 2), (29, 36), (36, 64), (64, 71)] o_me o8 := hkpo1.trans (by rw [eo8]; exact Kp.sI (by decide))
    refine wp_bd (s_X9_putBack   o8 (gI o8 8)  hIo8  ⟨by omega, by omega⟩) (fun z10 hz10 => ?_)
    obtain ⟨hz10_0, hz10_1⟩ := hz10
    have hkpz10_me : Kp [11, 13, 14, 15, 16, 18, 19, 20, 21, 23, 26, 29, 34, 38, 43, 56, 57, 58, 59, 62] [4, 5, 7, 10, 12, 22, 24, 25, 27, 28, 42, 48, 50, 51, 55, 61] [(0, 1), (1, 2), (29, 36), (36, 64), (64, 71)] o_me z10 := hkpo8.trans (hz10_1.mono (by decide) (by decide) (by decide))
    have kz10_k11 : (gI z10 8).toInt = (gI o8 8).toInt := congrArg Int32.toInt (hz10_1.1 8 (by decide))
    refine wp_gd (zin_of (m := 16) rfl (by omega) (by omega)) ?_
    have t12 := iaX9_7_0 hz10_0 (j := gI z10 8) (by omega) (by omega)
    have rg14 := i32_rg (gA z10 7 (gI z10 8).toNatClampNeg)
    refine wp_bd (s_X9_tell   z10 (gA z10 7 (gI z10 8).toNatClampNeg)  hz10_0  ⟨by omega, by omega⟩) (fun z13 hz13 => ?_)
    obtain ⟨hz13_0, hz13_1, hz13_2⟩ := hz13
    have hkpz13_me : Kp [11, 13, 14, 15, 16, 18, 19, 20, 21, 23, 26, 29, 34, 38, 43, 56, 57, 58, 59, 62] [4, 5, 7, 10, 12, 22, 24, 25, 27, 28, 42, 48, 50, 51, 55, 61] [(0, 1), (1, 2), (29, 36), (36, 64), (64, 71)] o_me z13.2 := hkpz10_me.trans (hz13_2.mono (by decide) (by decide) (by decide))
    have kz13_k15 : (gA z13.2 7 (gI z10 8).toNatClampNeg).toInt = (gA z10 7 (gI z10 8).toNatClampNeg).toInt := congrArg (fun g => (g (gI z10 8).toNatClampNeg).toInt) (hz13_2.2.1 7 (by decide))
    have kz13_k16 : (gI z13.2 8).toInt = (gI z10 8).toInt := congrArg Int32.toInt (hz13_2.1 8 (by decide))
    refine wp_some ?_
    have rg17 := i32_rg z13.1
    exact (show ((-6) ≤ z13.1.toInt ∧ z13.1.toInt ≤ 2147483647) ∧ IvX9 z13.2 ∧ Kp [11, 13, 14, 15, 16, 18, 19, 20, 21, 23, 26, 29, 34, 38, 43, 56, 57, 58, 59, 62] [4, 5, 7, 10, 12, 22, 24, 25, 27, 28, 42, 48, 50, 51, 55, 61] [(0, 1), (1, 2), (29, 36), (36, 64), (64, 71)] o_me z13.2 from ⟨⟨by omega, by omega⟩, hz13_1, hkpz13_me⟩)

set_option maxHeartbeats 4000000 in
set_option maxRecDepth 100000 in
theorem s_X2_isPerson {pl : List CR} (o_me : Ob) (p0 : Int32) (hI_me : IvX2 pl o_me)  : wp (f_X2_isPerson   o_me p0) (fun (y : Int32) => (0 ≤ y.toInt ∧ y.toInt ≤ 1) ∧ (¬ y = 0 → (0 ≤ p0.toInt ∧ p0.toInt ≤ 6) ∧ (p0.toInt ≤ (gI o_me 7).toInt + (-1)))) := by
  have li0 : (0 : Int32).toInt = 0 := by decide
  have li1 : (1 : Int32).toInt = 1 := by decide
  unfold f_X2_isPerson
  refine wp_if (fun c1 => ?_) (fun c1 => ?_)
  · have c1 := cv_lt (a := p0.toInt) (b := 0) rfl (by decide) c1
    refine wp_some ?_
    exact (show (0 ≤ (0 : Int32).toInt ∧ (0 : Int32).toInt ≤ 1) ∧ (¬ (0 : Int32) = 0 → (0 ≤ p0.toInt ∧ p0.toInt ≤ 6) ∧ (p0.toInt ≤ (gI o_me 7).toInt + (-1))) from ⟨⟨by decide, by decide⟩, (fun h9 => absurd rfl h9)⟩)
  · have c1 := cv_nlt (a := p0.toInt) (b := 0) rfl (by decide) c1
    have t2 := igX2_7 hI_me
    have rg4 := i32_rg p0
    refine wp_if (fun c3 => ?_) (fun c3 => ?_)
    · have c3 := cv_ge (a := p0.toInt) (b := (gI o_me 7).toInt) rfl rfl c3
      refine wp_some ?_
      exact (show (0 ≤ (0 : Int32).toInt ∧ (0 : Int32).toInt ≤ 1) ∧ (¬ (0 : Int32) = 0 → (0 ≤ p0.toInt ∧ p0.toInt ≤ 6) ∧ (p0.toInt ≤ (gI o_me 7).toInt + (-1))) from ⟨⟨by decide, by decide⟩, (fun h9 => absurd rfl h9)⟩)
    · have c3 := cv_nge (a := p0.toInt) (b := (gI o_me 7).toInt) rfl rfl c3
      refine wp_some ?_
      exact (show (0 ≤ (1 : Int32).toInt ∧ (1 : Int32).toInt ≤ 1) ∧ (¬ (1 : Int32) = 0 → (0 ≤ p0.toInt ∧ p0.toInt ≤ 6) ∧ (p0.toInt ≤ (gI o_me 7).toInt + (-1))) from ⟨⟨by decide, by decide⟩, (fun h9 => ⟨⟨by omega, by omega⟩, by omega⟩)⟩)

set_option maxHeartbeats 4000000 in
set_option maxRecDepth 100000 in
theorem s_X8_isRace (p0 : Int32)   : wp (f_X8_isRace   p0) (fun (y : Int32) => (0 ≤ y.toInt ∧ y.toInt ≤ 1) ∧ (¬ y = 0 → (0 ≤ p0.toInt ∧ p0.toInt ≤ 3))) := by
  have li0 : (0 : Int32).toInt = 0 := by decide
  have li1 : (1 : Int32).toInt = 1 := by decide
  have li2 : (4 : Int32).toInt = 4 := by decide
  unfold f_X8_isRace
  refine wp_if (fun c1 => ?_) (fun c1 => ?_)
  · have c1 := cv_lt (a := p0.toInt) (b := 0) rfl (by decide) c1
    refine wp_some ?_
    exact (show (0 ≤ (0 : Int32).toInt ∧ (0 : Int32).toInt ≤ 1) ∧ (¬ (0 : Int32) = 0 → (0 ≤ p0.toInt ∧ p0.toInt ≤ 3)) from ⟨⟨by decide, by decide⟩, (fun h9 => absurd rfl h9)⟩)
  · have c1 := cv_nlt (a := p0.toInt) (b := 0) rfl (by decide) c1
    refine wp_if (fun c2 => ?_) (fun c2 => ?_)
    · have c2 := cv_ge (a := p0.toInt) (b := 4) rfl (by decide) c2
      refine wp_some ?_
      exact (show (0 ≤ (0 : Int32).toInt ∧ (0 : Int32).toInt ≤ 1) ∧ (¬ (0 : Int32) = 0 → (0 ≤ p0.toInt ∧ p0.toInt ≤ 3)) from ⟨⟨by decide, by decide⟩, (fun h9 => absurd rfl h9)⟩)
    · have c2 := cv_nge (a := p0.toInt) (b := 4) rfl (by decide) c2
      refine wp_some ?_
      exact (show (0 ≤ (1 : Int32).toInt ∧ (1 : Int32).toInt ≤ 1) ∧ (¬ (1 : Int32) = 0 → (0 ≤ p0.toInt ∧ p0.toInt ≤ 3)) from ⟨⟨by decide, by decide⟩, (fun h9 => ⟨by omega, by omega⟩)⟩)

set_option maxHeartbeats 4000000 in
set_option maxRecDepth 100000 in
theorem s_X2_isLaw {pl : List CR} (o_me : Ob) (p0 : Int32) (hI_me : IvX2 pl o_me)  : wp (f_X2_isLaw   o_me p0) (fun (y : Int32) => (0 ≤ y.toInt ∧ y.toInt ≤ 1) ∧ (¬ y = 0 → (0 ≤ p0.toInt ∧ p0.toInt ≤ 5) ∧ (p0.toInt ≤ (gI o_me 9).toInt + (-1)))) := by
  have li0 : (0 : Int32).toInt = 0 := by decide
  have li1 : (1 : Int32).toInt = 1 := by decide
  unfold f_X2_isLaw
  refine wp_if (fun c1 => ?_) (fun c1 => ?_)
  · have c1 := cv_lt (a := p0.toInt) (b := 0) rfl (by decide) c1
    refine wp_some ?_
    exact (show (0 ≤ (0 : Int32).toInt ∧ (0 : Int32).toInt ≤ 1) ∧ (¬ (0 : Int32) = 0 → (0 ≤ p0.toInt ∧ p0.toInt ≤ 5) ∧ (p0.toInt ≤ (gI o_me 9).toInt + (-1))) from ⟨⟨by decide, by decide⟩, (fun h9 => absurd rfl h9)⟩)
  · have c1 := cv_nlt (a := p0.toInt) (b := 0) rfl (by decide) c1
    have t2 := igX2_9 hI_me
    have rg4 := i32_rg p0
    refine wp_if (fun c3 => ?_) (fun c3 => ?_)
    · have c3 := cv_ge (a := p0.toInt) (b := (gI o_me 9).toInt) rfl rfl c3
      refine wp_some ?_
      exact (show (0 ≤ (0 : Int32).toInt ∧ (0 : Int32).toInt ≤ 1) ∧ (¬ (0 : Int32) = 0 → (0 ≤ p0.toInt ∧ p0.toInt ≤ 5) ∧ (p0.toInt ≤ (gI o_me 9).toInt + (-1))) from ⟨⟨by decide, by decide⟩, (fun h9 => absurd rfl h9)⟩)
    · have c3 := cv_nge (a := p0.toInt) (b := (gI o_me 9).toInt) rfl rfl c3
      refine wp_some ?_
      exact (show (0 ≤ (1 : Int32).toInt ∧ (1 : Int32).toInt ≤ 1) ∧ (¬ (1 : Int32) = 0 → (0 ≤ p0.toInt ∧ p0.toInt ≤ 5) ∧ (p0.toInt ≤ (gI o_me 9).toInt + (-1))) from ⟨⟨by decide, by decide⟩, (fun h9 => ⟨⟨by omega, by omega⟩, by omega⟩)⟩)

set_option maxHeartbeats 4000000 in
set_option maxRecDepth 100000 in
theorem s_X2_lawAt {pl : List CR} (o_me : Ob) (p0 : Int32) (hI_me : IvX2 pl o_me)  : wp (f_X2_lawAt   o_me p0) (fun (y : Option Nat) => zpo pl y = true) := by
  unfold f_X2_lawAt
  refine wp_bd (s_X2_isLaw   o_me p0  hI_me  ) (fun z1 hz1 => ?_)
  obtain ⟨hz1_0, hz1_1⟩ := hz1
  refine wp_if (fun c2 => ?_) (fun c2 => ?_)
  · have c2 := cv_eq (a := z1.toInt) (b := 0) rfl (by decide) c2
    refine wp_some ?_
    exact (show zpo pl none = true from rfl)
  · have c2z := c2
    have c2i := hz1_1 c2
    have c2 := cv_ne (a := z1.toInt) (b := 0) rfl (by decide) c2
    refine wp_gd (zin_of (m := 6) rfl (by omega) (by omega)) ?_
    have po3 := irX2 hI_me (j := p0) (by omega) (by omega)
    refine wp_some ?_
    exact (show zpo pl (gR o_me 6 p0.toNatClampNeg) = true from po3)

set_option maxHeartbeats 4000000 in
set_option maxRecDepth 100000 in
theorem s_X2_lawInForce {pl : List CR} (o_me : Ob) (hI_me : IvX2 pl o_me)  : wp (f_X2_lawInForce   o_me) (fun (y : Option Nat) => zpo pl y = true) := by
  unfold f_X2_lawInForce
  have t1 := igX2_10 hI_me
  refine wp_bd (s_X2_lawAt   o_me (gI o_me 10)  hI_me  ) (fun z2 hz2 => ?_)
  have hz2_0 := hz2
  refine wp_some ?_
  exact (show zpo pl z2 = true from hz2_0)

set_option maxHeartbeats 4000000 in
set_option maxRecDepth 100000 in
theorem s_X1_told_N (o_me : Ob) (p1 : Int32) (p2 : Int32) (p3 : Int32) (p4 : Int32) (hI_me : IvX1 o_me)  : wp (f_X1_told_N   o_me p1 p2 p3 p4) (fun (y : Int64) => ((-9000000000000000000) ≤ y.toInt ∧ y.toInt ≤ (-9000000000000000000))) := by
  have li0 : (-9000000000000000000 : Int64).toInt = (-9000000000000000000) := by decide
  unfold f_X1_told_N
  refine wp_some ?_
  exact (show ((-9000000000000000000) ≤ (-9000000000000000000 : Int64).toInt ∧ (-9000000000000000000 : Int64).toInt ≤ (-9000000000000000000)) from ⟨by decide, by decide⟩)

set_option maxHeartbeats 4000000 in
set_option maxRecDepth 100000 in
theorem s_X3_setLawWords_O {pl : List CR} (o_me : Ob) (o_a0 : Ob) (o_a0_now : Ob) (p1 : Int32) (p2 : Int32) (p3 : Int32) (hI_me : IvX3 o_me) (hI_a0 : IvX2 pl o_a0) (hI_a0_now : IvX4 o_a0_now) (q0 : 0 ≤ p1.toInt ∧ p1.toInt ≤ 6) (q1 : 0 ≤ p2.toInt ∧ p2.toInt ≤ 3) : wp (f_X3_setLawWords_O   o_me o_a0 o_a0_now p1 p2 p3) (fun (y : Ob) => IvX3 y ∧ Kp [] [] [] o_me y) := by
  have li0 : (0 : Int32).toInt = 0 := by decide
  have li1 : (1 : Int32).toInt = 1 := by decide
  have li2 : (2 : Int32).toInt = 2 := by decide
  have li3 : (3 : Int32).toInt = 3 := by decide
  have li4 : (4 : Int32).toInt = 4 := by decide
  have li5 : (5 : Int32).toInt = 5 := by decide
  have li6 : (6 : Int32).toInt = 6 := by decide
  have li7 : (7 : Int32).toInt = 7 := by decide
  have li8 : (8 : Int32).toInt = 8 := by decide
  unfold f_X3_setLawWords_O
  refine wp_lt (fun o1 eo1 => ?_)
  have hIo1 : IvX3 o1 := by rw [eo1]; exact hI_me
  have ko1_v : (gA o1 0 (0 : Int32).toNatClampNeg).toInt = p1.toInt := by rw [eo1]; exact congrArg Int32.toInt (upd_eq (g := gA o_me 0) (i := (0 : Int32)) (v := p1))
  have hkpo1 : Kp [] [] [] o_me o1 := Kp.rf.trans (by rw [eo1]; exact Kp.tA (by decide) (by decide))
  refine wp_lt (fun o2 eo2 => ?_)
  have hIo2 : IvX3 o2 := by rw [eo2]; exact hIo1
  have ko2_k3 : (gA o2 0 (0 : Int32).toNatClampNeg).toInt = (gA o1 0 (0 : Int32).toNatClampNeg).toInt := by rw [eo2]; exact congrArg Int32.toInt (upd_ne (g := gA o1 0) (i := (1 : Int32)) (j := (0 : Int32)) (v := p2) (by decide) (by decide) (by decide))
  have ko2_v : (gA o2 0 (1 : Int32).toNatClampNeg).toInt = p2.toInt := by rw [eo2]; exact congrArg Int32.toInt (upd_eq (g := gA o1 0) (i := (1 : Int32)) (v := p2))
  have hkpo2 : Kp [] [] [] o_me o2 := hkpo1.trans (by rw [eo2]; exact Kp.tA (by decide) (by decide))
  have t4 : (p1 * (4 : Int32)).toInt = p1.toInt * 4 := i32_mul rfl (by decide) (by omega) (by omega)
  have t5 : ((p1 * (4 : Int32)) + p2).toInt = (p1 * (4 : Int32)).toInt + p2.toInt := i32_add rfl rfl (by omega) (by omega)
  refine wp_gd (zin_of (m := 28) rfl (by omega) (by omega)) ?_
  refine wp_lt (fun o6 eo6 => ?_)
  have hIo6 : IvX3 o6 := by rw [eo6]; exact hIo2
  have ko6_k7 : (gA o6 0 (0 : Int32).toNatClampNeg).toInt = (gA o2 0 (0 : Int32).toNatClampNeg).toInt := by rw [eo6]; exact congrArg Int32.toInt (upd_ne (g := gA o2 0) (i := (2 : Int32)) (j := (0 : Int32)) (v := (gA o_a0 2 ((p1 * (4 : Int32)) + p2).toNatClampNeg)) (by decide) (by decide) (by decide))
  have ko6_k8 : (gA o6 0 (1 : Int32).toNatClampNeg).toInt = (gA o2 0 (1 : Int32).toNatClampNeg).toInt := by rw [eo6]; exact congrArg Int32.toInt (upd_ne (g := gA o2 0) (i := (2 : Int32)) (j := (1 : Int32)) (v := (gA o_a0 2 ((p1 * (4 : Int32)) + p2).toNatClampNeg)) (by decide) (by decide) (by decide))
  have ko6_v : (gA o6 0 (2 : Int32).toNatClampNeg).toInt = (gA o_a0 2 ((p1 * (4 : Int32)) + p2).toNatClampNeg).toInt := by rw [eo6]; exact congrArg Int32.toInt (upd_eq (g := gA o2 0) (i := (2 : Int32)) (v := (gA o_a0 2 ((p1 * (4 : Int32)) + p2).toNatClampNeg)))
  have hkpo6 : Kp [] [] [] o_me o6 := hkpo2.trans (by rw [eo6]; exact Kp.tA (by decide) (by decide))
  refine wp_gd (zin_of (m := 7) rfl (by omega) (by omega)) ?_
  have t9 := iaX4_0_0 hI_a0_now (j := p1) (by omega) (by omega)
  refine wp_lt (fun o10 eo10 => ?_)
  have hIo10 : IvX3 o10 := by rw [eo10]; exact hIo6
  have ko10_k11 : (gA o10 0 (0 : Int32).toNatClampNeg).toInt = (gA o6 0 (0 : Int32).toNatClampNeg).toInt := by rw [eo10]; exact congrArg Int32.toInt (upd_ne (g := gA o6 0) (i := (3 : Int32)) (j := (0 : Int32)) (v := (gA o_a0_now 0 p1.toNatClampNeg)) (by decide) (by decide) (by decide))
  have ko10_k12 : (gA o10 0 (1 : Int32).toNatClampNeg).toInt = (gA o6 0 (1 : Int32).toNatClampNeg).toInt := by rw [eo10]; exact congrArg Int32.toInt (upd_ne (g := gA o6 0) (i := (3 : Int32)) (j := (1 : Int32)) (v := (gA o_a0_now 0 p1.toNatClampNeg)) (by decide) (by decide) (by decide))
  have ko10_k13 : (gA o10 0 (2 : Int32).toNatClampNeg).toInt = (gA o6 0 (2 : Int32).toNatClampNeg).toInt := by rw [eo10]; exact congrArg Int32.toInt (upd_ne (g := gA o6 0) (i := (3 : Int32)) (j := (2 : Int32)) (v := (gA o_a0_now 0 p1.toNatClampNeg)) (by decide) (by decide) (by decide))
  have ko10_v : (gA o10 0 (3 : Int32).toNatClampNeg).toInt = (gA o_a0_now 0 p1.toNatClampNeg).toInt := by rw [eo10]; exact congrArg Int32.toInt (upd_eq (g := gA o6 0) (i := (3 : Int32)) (v := (gA o_a0_now 0 p1.toNatClampNeg)))
  have hkpo10 : Kp [] [] [] o_me o10 := hkpo6.trans (by rw [eo10]; exact Kp.tA (by decide) (by decide))
  refine wp_gd (zin_of (m := 7) rfl (by omega) (by omega)) ?_
  refine wp_lt (fun o14 eo14 => ?_)
  have hIo14 : IvX3 o14 := by rw [eo14]; exact hIo10
  have ko14_k15 : (gA o14 0 (0 : Int32).toNatClampNeg).toInt = (gA o10 0 (0 : Int32).toNatClampNeg).toInt := by rw [eo14]; exact congrArg Int32.toInt (upd_ne (g := gA o10 0) (i := (4 : Int32)) (j := (0 : Int32)) (v := (gA o_a0_now 1 p1.toNatClampNeg)) (by decide) (by decide) (by decide))
  have ko14_k16 : (gA o14 0 (1 : Int32).toNatClampNeg).toInt = (gA o10 0 (1 : Int32).toNatClampNeg).toInt := by rw [eo14]; exact congrArg Int32.toInt (upd_ne (g := gA o10 0) (i := (4 : Int32)) (j := (1 : Int32)) (v := (gA o_a0_now 1 p1.toNatClampNeg)) (by decide) (by decide) (by decide))
  have ko14_k17 : (gA o14 0 (2 : Int32).toNatClampNeg).toInt = (gA o10 0 (2 : Int32).toNatClampNeg).toInt := by rw [eo14]; exact congrArg Int32.toInt (upd_ne (g := gA o10 0) (i := (4 : Int32)) (j := (2 : Int32)) (v := (gA o_a0_now 1 p1.toNatClampNeg)) (by decide) (by decide) (by decide))
  have ko14_k18 : (gA o14 0 (3 : Int32).toNatClampNeg).toInt = (gA o10 0 (3 : Int32).toNatClampNeg).toInt := by rw [eo14]; exact congrArg Int32.toInt (upd_ne (g := gA o10 0) (i := (4 : Int32)) (j := (3 : Int32)) (v := (gA o_a0_now 1 p1.toNatClampNeg)) (by decide) (by decide) (by decide))
  have ko14_v : (gA o14 0 (4 : Int32).toNatClampNeg).toInt = (gA o_a0_now 1 p1.toNatClampNeg).toInt := by rw [eo14]; exact congrArg Int32.toInt (upd_eq (g := gA o10 0) (i := (4 : Int32)) (v := (gA o_a0_now 1 p1.toNatClampNeg)))
  have hkpo14 : Kp [] [] [] o_me o14 := hkpo10.trans (by rw [eo14]; exact Kp.tA (by decide) (by decide))
  refine wp_lt (fun o19 eo19 => ?_)
  have hIo19 : IvX3 o19 := by rw [eo19]; exact hIo14
  have ko19_k20 : (gA o19 0 (0 : Int32).toNatClampNeg).toInt = (gA o14 0 (0 : Int32).toNatClampNeg).toInt := by rw [eo19]; exact congrArg Int32.toInt (upd_ne (g := gA o14 0) (i := (5 : Int32)) (j := (0 : Int32)) (v := p3) (by decide) (by decide) (by decide))
  have ko19_k21 : (gA o19 0 (1 : Int32).toNatClampNeg).toInt = (gA o14 0 (1 : Int32).toNatClampNeg).toInt := by rw [eo19]; exact congrArg Int32.toInt (upd_ne (g := gA o14 0) (i := (5 : Int32)) (j := (1 : Int32)) (v := p3) (by decide) (by decide) (by decide))
  have ko19_k22 : (gA o19 0 (2 : Int32).toNatClampNeg).toInt = (gA o14 0 (2 : Int32).toNatClampNeg).toInt := by rw [eo19]; exact congrArg Int32.toInt (upd_ne (g := gA o14 0) (i := (5 : Int32)) (j := (2 : Int32)) (v := p3) (by decide) (by decide) (by decide))
  have ko19_k23 : (gA o19 0 (3 : Int32).toNatClampNeg).toInt = (gA o14 0 (3 : Int32).toNatClampNeg).toInt := by rw [eo19]; exact congrArg Int32.toInt (upd_ne (g := gA o14 0) (i := (5 : Int32)) (j := (3 : Int32)) (v := p3) (by decide) (by decide) (by decide))
  have ko19_k24 : (gA o19 0 (4 : Int32).toNatClampNeg).toInt = (gA o14 0 (4 : Int32).toNatClampNeg).toInt := by rw [eo19]; exact congrArg Int32.toInt (upd_ne (g := gA o14 0) (i := (5 : Int32)) (j := (4 : Int32)) (v := p3) (by decide) (by decide) (by decide))
  have ko19_v : (gA o19 0 (5 : Int32).toNatClampNeg).toInt = p3.toInt := by rw [eo19]; exact congrArg Int32.toInt (upd_eq (g := gA o14 0) (i := (5 : Int32)) (v := p3))
  have hkpo19 : Kp [] [] [] o_me o19 := hkpo14.trans (by rw [eo19]; exact Kp.tA (by decide) (by decide))
  refine wp_lt (fun o25 eo25 => ?_)
  have hIo25 : IvX3 o25 := by rw [eo25]; exact hIo19
  have ko25_k26 : (gA o25 0 (0 : Int32).toNatClampNeg).toInt = (gA o19 0 (0 : Int32).toNatClampNeg).toInt := by rw [eo25]; exact congrArg Int32.toInt (upd_ne (g := gA o19 0) (i := (6 : Int32)) (j := (0 : Int32)) (v := (gI o_a0_now 3)) (by decide) (by decide) (by decide))
  have ko25_k27 : (gA o25 0 (1 : Int32).toNatClampNeg).toInt = (gA o19 0 (1 : Int32).toNatClampNeg).toInt := by rw [eo25]; exact congrArg Int32.toInt (upd_ne (g := gA o19 0) (i := (6 : Int32)) (j := (1 : Int32)) (v := (gI o_a0_now 3)) (by decide) (by decide) (by decide))
  have ko25_k28 : (gA o25 0 (2 : Int32).toNatClampNeg).toInt = (gA o19 0 (2 : Int32).toNatClampNeg).toInt := by rw [eo25]; exact congrArg Int32.toInt (upd_ne (g := gA o19 0) (i := (6 : Int32)) (j := (2 : Int32)) (v := (gI o_a0_now 3)) (by decide) (by decide) (by decide))
  have ko25_k29 : (gA o25 0 (3 : Int32).toNatClampNeg).toInt = (gA o19 0 (3 : Int32).toNatClampNeg).toInt := by rw [eo25]; exact congrArg Int32.toInt (upd_ne (g := gA o19 0) (i := (6 : Int32)) (j := (3 : Int32)) (v := (gI o_a0_now 3)) (by decide) (by decide) (by decide))
  have ko25_k30 : (gA o25 0 (4 : Int32).toNatClampNeg).toInt = (gA o19 0 (4 : Int32).toNatClampNeg).toInt := by rw [eo25]; exact congrArg Int32.toInt (upd_ne (g := gA o19 0) (i := (6 : Int32)) (j := (4 : Int32)) (v := (gI o_a0_now 3)) (by decide) (by decide) (by decide))
  have ko25_k31 : (gA o25 0 (5 : Int32).toNatClampNeg).toInt = (gA o19 0 (5 : Int32).toNatClampNeg).toInt := by rw [eo25]; exact congrArg Int32.toInt (upd_ne (g := gA o19 0) (i := (6 : Int32)) (j := (5 : Int32)) (v := (gI o_a0_now 3)) (by decide) (by decide) (by decide))
  have ko25_v : (gA o25 0 (6 : Int32).toNatClampNeg).toInt = (gI o_a0_now 3).toInt := by rw [eo25]; exact congrArg Int32.toInt (upd_eq (g := gA o19 0) (i := (6 : Int32)) (v := (gI o_a0_now 3)))
  have hkpo25 : Kp [] [] [] o_me o25 := hkpo19.trans (by rw [eo25]; exact Kp.tA (by decide) (by decide))
  refine wp_lt (fun o32 eo32 => ?_)
  have hIo32 : IvX3 o32 := by rw [eo32]; exact hIo25
  have ko32_k33 : (gA o32 0 (0 : Int32).toNatClampNeg).toInt = (gA o25 0 (0 : Int32).toNatClampNeg).toInt := by rw [eo32]; exact congrArg Int32.toInt (upd_ne (g := gA o25 0) (i := (7 : Int32)) (j := (0 : Int32)) (v := (gI o_a0_now 4)) (by decide) (by decide) (by decide))
  have ko32_k34 : (gA o32 0 (1 : Int32).toNatClampNeg).toInt = (gA o25 0 (1 : Int32).toNatClampNeg).toInt := by rw [eo32]; exact congrArg Int32.toInt (upd_ne (g := gA o25 0) (i := (7 : Int32)) (j := (1 : Int32)) (v := (gI o_a0_now 4)) (by decide) (by decide) (by decide))
  have ko32_k35 : (gA o32 0 (2 : Int32).toNatClampNeg).toInt = (gA o25 0 (2 : Int32).toNatClampNeg).toInt := by rw [eo32]; exact congrArg Int32.toInt (upd_ne (g := gA o25 0) (i := (7 : Int32)) (j := (2 : Int32)) (v := (gI o_a0_now 4)) (by decide) (by decide) (by decide))
  have ko32_k36 : (gA o32 0 (3 : Int32).toNatClampNeg).toInt = (gA o25 0 (3 : Int32).toNatClampNeg).toInt := by rw [eo32]; exact congrArg Int32.toInt (upd_ne (g := gA o25 0) (i := (7 : Int32)) (j := (3 : Int32)) (v := (gI o_a0_now 4)) (by decide) (by decide) (by decide))
  have ko32_k37 : (gA o32 0 (4 : Int32).toNatClampNeg).toInt = (gA o25 0 (4 : Int32).toNatClampNeg).toInt := by rw [eo32]; exact congrArg Int32.toInt (upd_ne (g := gA o25 0) (i := (7 : Int32)) (j := (4 : Int32)) (v := (gI o_a0_now 4)) (by decide) (by decide) (by decide))
  have ko32_k38 : (gA o32 0 (5 : Int32).toNatClampNeg).toInt = (gA o25 0 (5 : Int32).toNatClampNeg).toInt := by rw [eo32]; exact congrArg Int32.toInt (upd_ne (g := gA o25 0) (i := (7 : Int32)) (j := (5 : Int32)) (v := (gI o_a0_now 4)) (by decide) (by decide) (by decide))
  have ko32_k39 : (gA o32 0 (6 : Int32).toNatClampNeg).toInt = (gA o25 0 (6 : Int32).toNatClampNeg).toInt := by rw [eo32]; exact congrArg Int32.toInt (upd_ne (g := gA o25 0) (i := (7 : Int32)) (j := (6 : Int32)) (v := (gI o_a0_now 4)) (by decide) (by decide) (by decide))
  have ko32_v : (gA o32 0 (7 : Int32).toNatClampNeg).toInt = (gI o_a0_now 4).toInt := by rw [eo32]; exact congrArg Int32.toInt (upd_eq (g := gA o25 0) (i := (7 : Int32)) (v := (gI o_a0_now 4)))
  have hkpo32 : Kp [] [] [] o_me o32 := hkpo25.trans (by rw [eo32]; exact Kp.tA (by decide) (by decide))
  refine wp_lt (fun o40 eo40 => ?_)
  have hIo40 : IvX3 o40 := by rw [eo40]; exact hIo32
  have ko40_k41 : (gA o40 0 (0 : Int32).toNatClampNeg).toInt = (gA o32 0 (0 : Int32).toNatClampNeg).toInt := by rw [eo40]; exact congrArg Int32.toInt (upd_ne (g := gA o32 0) (i := (8 : Int32)) (j := (0 : Int32)) (v := (gI o_a0 12)) (by decide) (by decide) (by decide))
  have ko40_k42 : (gA o40 0 (1 : Int32).toNatClampNeg).toInt = (gA o32 0 (1 : Int32).toNatClampNeg).toInt := by rw [eo40]; exact congrArg Int32.toInt (upd_ne (g := gA o32 0) (i := (8 : Int32)) (j := (1 : Int32)) (v := (gI o_a0 12)) (by decide) (by decide) (by decide))
  have ko40_k43 : (gA o40 0 (2 : Int32).toNatClampNeg).toInt = (gA o32 0 (2 : Int32).toNatClampNeg).toInt := by rw [eo40]; exact congrArg Int32.toInt (upd_ne (g := gA o32 0) (i := (8 : Int32)) (j := (2 : Int32)) (v := (gI o_a0 12)) (by decide) (by decide) (by decide))
  have ko40_k44 : (gA o40 0 (3 : Int32).toNatClampNeg).toInt = (gA o32 0 (3 : Int32).toNatClampNeg).toInt := by rw [eo40]; exact congrArg Int32.toInt (upd_ne (g := gA o32 0) (i := (8 : Int32)) (j := (3 : Int32)) (v := (gI o_a0 12)) (by decide) (by decide) (by decide))
  have ko40_k45 : (gA o40 0 (4 : Int32).toNatClampNeg).toInt = (gA o32 0 (4 : Int32).toNatClampNeg).toInt := by rw [eo40]; exact congrArg Int32.toInt (upd_ne (g := gA o32 0) (i := (8 : Int32)) (j := (4 : Int32)) (v := (gI o_a0 12)) (by decide) (by decide) (by decide))
  have ko40_k46 : (gA o40 0 (5 : Int32).toNatClampNeg).toInt = (gA o32 0 (5 : Int32).toNatClampNeg).toInt := by rw [eo40]; exact congrArg Int32.toInt (upd_ne (g := gA o32 0) (i := (8 : Int32)) (j := (5 : Int32)) (v := (gI o_a0 12)) (by decide) (by decide) (by decide))
  have ko40_k47 : (gA o40 0 (6 : Int32).toNatClampNeg).toInt = (gA o32 0 (6 : Int32).toNatClampNeg).toInt := by rw [eo40]; exact congrArg Int32.toInt (upd_ne (g := gA o32 0) (i := (8 : Int32)) (j := (6 : Int32)) (v := (gI o_a0 12)) (by decide) (by decide) (by decide))
  have ko40_k48 : (gA o40 0 (7 : Int32).toNatClampNeg).toInt = (gA o32 0 (7 : Int32).toNatClampNeg).toInt := by rw [eo40]; exact congrArg Int32.toInt (upd_ne (g := gA o32 0) (i := (8 : Int32)) (j := (7 : Int32)) (v := (gI o_a0 12)) (by decide) (by decide) (by decide))
  have ko40_v : (gA o40 0 (8 : Int32).toNatClampNeg).toInt = (gI o_a0 12).toInt := by rw [eo40]; exact congrArg Int32.toInt (upd_eq (g := gA o32 0) (i := (8 : Int32)) (v := (gI o_a0 12)))
  have hkpo40 : Kp [] [] [] o_me o40 := hkpo32.trans (by rw [eo40]; exact Kp.tA (by decide) (by decide))
  refine wp_some ?_
  exact (show IvX3 o40 ∧ Kp [] [] [] o_me o40 from ⟨hIo40, hkpo40⟩)

set_option maxHeartbeats 4000000 in
set_option maxRecDepth 100000 in
theorem s_X3_wordWorth (o_me : Ob) (p0 : Int32) (hI_me : IvX3 o_me)  : wp (f_X3_wordWorth   o_me p0) (fun (y : Int64) => ((-9000000000000000000) ≤ y.toInt ∧ y.toInt ≤ 2147483647)) := by
  have li0 : (-9000000000000000000 : Int64).toInt = (-9000000000000000000) := by decide
  have li1 : (19 : Int32).toInt = 19 := by decide
  unfold f_X3_wordWorth
  refine wp_if (fun c1 => ?_) (fun c1 => ?_)
  · have c1 := cv_lt (a := p0.toInt) (b := 0) rfl (by decide) c1
    refine wp_some ?_
    exact (show ((-9000000000000000000) ≤ (-9000000000000000000 : Int64).toInt ∧ (-9000000000000000000 : Int64).toInt ≤ 2147483647) from ⟨by decide, by decide⟩)
  · have c1 := cv_nlt (a := p0.toInt) (b := 0) rfl (by decide) c1
    refine wp_if (fun c2 => ?_) (fun c2 => ?_)
    · have c2 := cv_ge (a := p0.toInt) (b := 19) rfl (by decide) c2
      refine wp_some ?_
      exact (show ((-9000000000000000000) ≤ (-9000000000000000000 : Int64).toInt ∧ (-9000000000000000000 : Int64).toInt ≤ 2147483647) from ⟨by decide, by decide⟩)
    · have c2 := cv_nge (a := p0.toInt) (b := 19) rfl (by decide) c2
      refine wp_gd (zin_of (m := 19) rfl (by omega) (by omega)) ?_
      have rg3 := i32_rg (gA o_me 0 p0.toNatClampNeg)
      have t4 : ((gA o_me 0 p0.toNatClampNeg).toInt64).toInt = (gA o_me 0 p0.toNatClampNeg).toInt := Int32.toInt_toInt64 _
      refine wp_some ?_
      exact (show ((-9000000000000000000) ≤ ((gA o_me 0 p0.toNatClampNeg).toInt64).toInt ∧ ((gA o_me 0 p0.toNatClampNeg).toInt64).toInt ≤ 2147483647) from ⟨by omega, by omega⟩)

set_option maxHeartbeats 4000000 in
set_option maxRecDepth 100000 in
theorem s_X3_joined (p0 : Int32) (p1 : Int64) (p2 : Int64)   : wp (f_X3_joined   p0 p1 p2) (fun (y : Int64) => ((-9000000000000000000) ≤ y.toInt ∧ y.toInt ≤ 1000000000)) := by
  have li0 : (-1000000000 : Int64).toInt = (-1000000000) := by decide
  have li1 : (-9000000000000000000 : Int64).toInt = (-9000000000000000000) := by decide
  have li2 : (0 : Int64).toInt = 0 := by decide
  have li3 : (1 : Int64).toInt = 1 := by decide
  have li4 : (1000000000 : Int64).toInt = 1000000000 := by decide
  unfold f_X3_joined
  refine wp_if (fun c1 => ?_) (fun c1 => ?_)
  · have c1 := cv_eq (a := p0.toInt) (b := 5) rfl (by decide) c1
    refine wp_lt (fun x2 ex2 => ?_)
    have tx2 : x2.toInt = (p1 + p2).toInt := by rw [ex2]
    unfold bk_X3_joined_164
    refine wp_if (fun c3 => ?_) (fun c3 => ?_)
    · have c3 := cvl_gt (a := x2.toInt) (b := 1000000000) rfl (by decide) c3
      unfold bk_X3_joined_182
      refine wp_some ?_
      exact (show ((-9000000000000000000) ≤ (-9000000000000000000 : Int64).toInt ∧ (-9000000000000000000 : Int64).toInt ≤ 1000000000) from ⟨by decide, by decide⟩)
    · have c3 := cvl_ngt (a := x2.toInt) (b := 1000000000) rfl (by decide) c3
      refine wp_if (fun c4 => ?_) (fun c4 => ?_)
      · have c4 := cvl_ge (a := x2.toInt) (b := (-1000000000)) rfl (by decide) c4
        refine wp_some ?_
        exact (show ((-9000000000000000000) ≤ x2.toInt ∧ x2.toInt ≤ 1000000000) from ⟨by omega, by omega⟩)
      · have c4 := cvl_nge (a := x2.toInt) (b := (-1000000000)) rfl (by decide) c4
        unfold bk_X3_joined_182
        refine wp_some ?_
        exact (show ((-9000000000000000000) ≤ (-9000000000000000000 : Int64).toInt ∧ (-9000000000000000000 : Int64).toInt ≤ 1000000000) from ⟨by decide, by decide⟩)
  have c1 := cv_ne (a := p0.toInt) (b := 5) rfl (by decide) c1
  refine wp_if (fun c5 => ?_) (fun c5 => ?_)
  · have c5 := cv_eq (a := p0.toInt) (b := 6) rfl (by decide) c5
    refine wp_lt (fun x6 ex6 => ?_)
    have tx6 : x6.toInt = (p1 - p2).toInt := by rw [ex6]
    unfold bk_X3_joined_164
    refine wp_if (fun c7 => ?_) (fun c7 => ?_)
    · have c7 := cvl_gt (a := x6.toInt) (b := 1000000000) rfl (by decide) c7
      unfold bk_X3_joined_182
      refine wp_some ?_
      exact (show ((-9000000000000000000) ≤ (-9000000000000000000 : Int64).toInt ∧ (-9000000000000000000 : Int64).toInt ≤ 1000000000) from ⟨by decide, by decide⟩)
    · have c7 := cvl_ngt (a := x6.toInt) (b := 1000000000) rfl (by decide) c7
      refine wp_if (fun c8 => ?_) (fun c8 => ?_)
      · have c8 := cvl_ge (a := x6.toInt) (b := (-1000000000)) rfl (by decide) c8
        refine wp_some ?_
        exact (show ((-9000000000000000000) ≤ x6.toInt ∧ x6.toInt ≤ 1000000000) from ⟨by omega, by omega⟩)
      · have c8 := cvl_nge (a := x6.toInt) (b := (-1000000000)) rfl (by decide) c8
        unfold bk_X3_joined_182
        refine wp_some ?_
        exact (show ((-9000000000000000000) ≤ (-9000000000000000000 : Int64).toInt ∧ (-9000000000000000000 : Int64).toInt ≤ 1000000000) from ⟨by decide, by decide⟩)
  have c5 := cv_ne (a := p0.toInt) (b := 6) rfl (by decide) c5
  refine wp_if (fun c9 => ?_) (fun c9 => ?_)
  · have c9 := cv_eq (a := p0.toInt) (b := 7) rfl (by decide) c9
    refine wp_lt (fun x10 ex10 => ?_)
    have tx10 : x10.toInt = (p1 * p2).toInt := by rw [ex10]
    unfold bk_X3_joined_164
    refine wp_if (fun c11 => ?_) (fun c11 => ?_)
    · have c11 := cvl_gt (a := x10.toInt) (b := 1000000000) rfl (by decide) c11
      unfold bk_X3_joined_182
      refine wp_some ?_
      exact (show ((-9000000000000000000) ≤ (-9000000000000000000 : Int64).toInt ∧ (-9000000000000000000 : Int64).toInt ≤ 1000000000) from ⟨by decide, by decide⟩)
    · have c11 := cvl_ngt (a := x10.toInt) (b := 1000000000) rfl (by decide) c11
      refine wp_if (fun c12 => ?_) (fun c12 => ?_)
      · have c12 := cvl_ge (a := x10.toInt) (b := (-1000000000)) rfl (by decide) c12
        refine wp_some ?_
        exact (show ((-9000000000000000000) ≤ x10.toInt ∧ x10.toInt ≤ 1000000000) from ⟨by omega, by omega⟩)
      · have c12 := cvl_nge (a := x10.toInt) (b := (-1000000000)) rfl (by decide) c12
        unfold bk_X3_joined_182
        refine wp_some ?_
        exact (show ((-9000000000000000000) ≤ (-9000000000000000000 : Int64).toInt ∧ (-9000000000000000000 : Int64).toInt ≤ 1000000000) from ⟨by decide, by decide⟩)
  have c9 := cv_ne (a := p0.toInt) (b := 7) rfl (by decide) c9
  refine wp_if (fun c13 => ?_) (fun c13 => ?_)
  · have c13 := cv_eq (a := p0.toInt) (b := 8) rfl (by decide) c13
    refine wp_if (fun c14 => ?_) (fun c14 => ?_)
    · have c14 := cvl_eq (a := p2.toInt) (b := 0) rfl (by decide) c14
      obtain ⟨w15, ew15⟩ : ∃ z : Int64, z = (-9000000000000000000 : Int64) := ⟨_, rfl⟩
      have tw15 : w15.toInt = (-9000000000000000000) := by rw [ew15]; decide
      rw [show bk_X3_joined_91   (-9000000000000000000 : Int64) = bk_X3_joined_91   w15 from by rw [ew15]]
      unfold bk_X3_joined_91
      unfold bk_X3_joined_164
      refine wp_if (fun c16 => ?_) (fun c16 => ?_)
      · have c16 := cvl_gt (a := w15.toInt) (b := 1000000000) rfl (by decide) c16
        exfalso; omega
      · have c16 := cvl_ngt (a := w15.toInt) (b := 1000000000) rfl (by decide) c16
        refine wp_if (fun c17 => ?_) (fun c17 => ?_)
        · have c17 := cvl_ge (a := w15.toInt) (b := (-1000000000)) rfl (by decide) c17
          exfalso; omega
        · have c17 := cvl_nge (a := w15.toInt) (b := (-1000000000)) rfl (by decide) c17
          unfold bk_X3_joined_182
          refine wp_some ?_
          exact (show ((-9000000000000000000) ≤ (-9000000000000000000 : Int64).toInt ∧ (-9000000000000000000 : Int64).toInt ≤ 1000000000) from ⟨by decide, by decide⟩)
    · have c14z := mt (fun e9 => (lg_cmp_eq _ _).mpr e9) c14
      have c14 := cvl_ne (a := p2.toInt) (b := 0) rfl (by decide) c14
      refine wp_gd (decide_eq_true c14z) ?_
      obtain ⟨w18, ew18⟩ : ∃ z : Int64, z = p1 / p2 := ⟨_, rfl⟩
      have tw18 : w18.toInt = (p1 / p2).toInt := by rw [ew18]
      rw [show bk_X3_joined_91   (p1 / p2) = bk_X3_joined_91   w18 from by rw [ew18]]
      unfold bk_X3_joined_91
      unfold bk_X3_joined_164
      refine wp_if (fun c19 => ?_) (fun c19 => ?_)
      · have c19 := cvl_gt (a := w18.toInt) (b := 1000000000) rfl (by decide) c19
        unfold bk_X3_joined_182
        refine wp_some ?_
        exact (show ((-9000000000000000000) ≤ (-9000000000000000000 : Int64).toInt ∧ (-9000000000000000000 : Int64).toInt ≤ 1000000000) from ⟨by decide, by decide⟩)
      · have c19 := cvl_ngt (a := w18.toInt) (b := 1000000000) rfl (by decide) c19
        refine wp_if (fun c20 => ?_) (fun c20 => ?_)
        · have c20 := cvl_ge (a := w18.toInt) (b := (-1000000000)) rfl (by decide) c20
          refine wp_some ?_
          exact (show ((-9000000000000000000) ≤ w18.toInt ∧ w18.toInt ≤ 1000000000) from ⟨by omega, by omega⟩)
        · have c20 := cvl_nge (a := w18.toInt) (b := (-1000000000)) rfl (by decide) c20
          unfold bk_X3_joined_182
          refine wp_some ?_
          exact (show ((-9000000000000000000) ≤ (-9000000000000000000 : Int64).toInt ∧ (-9000000000000000000 : Int64).toInt ≤ 1000000000) from ⟨by decide, by decide⟩)
  have c13 := cv_ne (a := p0.toInt) (b := 8) rfl (by decide) c13
  refine wp_if (fun c21 => ?_) (fun c21 => ?_)
  · have c21 := cv_eq (a := p0.toInt) (b := 9) rfl (by decide) c21
    refine wp_if (fun c22 => ?_) (fun c22 => ?_)
    · have c22 := cvl_eq (a := p2.toInt) (b := 0) rfl (by decide) c22
      obtain ⟨w23, ew23⟩ : ∃ z : Int64, z = (-9000000000000000000 : Int64) := ⟨_, rfl⟩
      have tw23 : w23.toInt = (-9000000000000000000) := by rw [ew23]; decide
      rw [show bk_X3_joined_111   (-9000000000000000000 : Int64) = bk_X3_joined_111   w23 from by rw [ew23]]
      unfold bk_X3_joined_111
      unfold bk_X3_joined_164
      refine wp_if (fun c24 => ?_) (fun c24 => ?_)
      · have c24 := cvl_gt (a := w23.toInt) (b := 1000000000) rfl (by decide) c24
        exfalso; omega
      · have c24 := cvl_ngt (a := w23.toInt) (b := 1000000000) rfl (by decide) c24
        refine wp_if (fun c25 => ?_) (fun c25 => ?_)
        · have c25 := cvl_ge (a := w23.toInt) (b := (-1000000000)) rfl (by decide) c25
          exfalso; omega
        · have c25 := cvl_nge (a := w23.toInt) (b := (-1000000000)) rfl (by decide) c25
          unfold bk_X3_joined_182
          refine wp_some ?_
          exact (show ((-9000000000000000000) ≤ (-9000000000000000000 : Int64).toInt ∧ (-9000000000000000000 : Int64).toInt ≤ 1000000000) from ⟨by decide, by decide⟩)
    · have c22z := mt (fun e9 => (lg_cmp_eq _ _).mpr e9) c22
      have c22 := cvl_ne (a := p2.toInt) (b := 0) rfl (by decide) c22
      refine wp_gd (decide_eq_true c22z) ?_
      obtain ⟨w26, ew26⟩ : ∃ z : Int64, z = p1 - p1 / p2 * p2 := ⟨_, rfl⟩
      have tw26 : w26.toInt = (p1 - p1 / p2 * p2).toInt := by rw [ew26]
      rw [show bk_X3_joined_111   (p1 - p1 / p2 * p2) = bk_X3_joined_111   w26 from by rw [ew26]]
      unfold bk_X3_joined_111
      unfold bk_X3_joined_164
      refine wp_if (fun c27 => ?_) (fun c27 => ?_)
      · have c27 := cvl_gt (a := w26.toInt) (b := 1000000000) rfl (by decide) c27
        unfold bk_X3_joined_182
        refine wp_some ?_
        exact (show ((-9000000000000000000) ≤ (-9000000000000000000 : Int64).toInt ∧ (-9000000000000000000 : Int64).toInt ≤ 1000000000) from ⟨by decide, by decide⟩)
      · have c27 := cvl_ngt (a := w26.toInt) (b := 1000000000) rfl (by decide) c27
        refine wp_if (fun c28 => ?_) (fun c28 => ?_)
        · have c28 := cvl_ge (a := w26.toInt) (b := (-1000000000)) rfl (by decide) c28
          refine wp_some ?_
          exact (show ((-9000000000000000000) ≤ w26.toInt ∧ w26.toInt ≤ 1000000000) from ⟨by omega, by omega⟩)
        · have c28 := cvl_nge (a := w26.toInt) (b := (-1000000000)) rfl (by decide) c28
          unfold bk_X3_joined_182
          refine wp_some ?_
          exact (show ((-9000000000000000000) ≤ (-9000000000000000000 : Int64).toInt ∧ (-9000000000000000000 : Int64).toInt ≤ 1000000000) from ⟨by decide, by decide⟩)
  have c21 := cv_ne (a := p0.toInt) (b := 9) rfl (by decide) c21
  refine wp_if (fun c29 => ?_) (fun c29 => ?_)
  · have c29 := cv_eq (a := p0.toInt) (b := 10) rfl (by decide) c29
    refine wp_if (fun c30 => ?_) (fun c30 => ?_)
    · have c30 := cvl_ge (a := p1.toInt) (b := p2.toInt) rfl rfl c30
      obtain ⟨w31, ew31⟩ : ∃ z : Int64, z = (0 : Int64) := ⟨_, rfl⟩
      have tw31 : w31.toInt = 0 := by rw [ew31]; decide
      rw [show bk_X3_joined_127   (0 : Int64) = bk_X3_joined_127   w31 from by rw [ew31]]
      unfold bk_X3_joined_127
      unfold bk_X3_joined_164
      refine wp_if (fun c32 => ?_) (fun c32 => ?_)
      · have c32 := cvl_gt (a := w31.toInt) (b := 1000000000) rfl (by decide) c32
        exfalso; omega
      · have c32 := cvl_ngt (a := w31.toInt) (b := 1000000000) rfl (by decide) c32
        refine wp_if (fun c33 => ?_) (fun c33 => ?_)
        · have c33 := cvl_ge (a := w31.toInt) (b := (-1000000000)) rfl (by decide) c33
          refine wp_some ?_
          exact (show ((-9000000000000000000) ≤ w31.toInt ∧ w31.toInt ≤ 1000000000) from ⟨by omega, by omega⟩)
        · have c33 := cvl_nge (a := w31.toInt) (b := (-1000000000)) rfl (by decide) c33
          exfalso; omega
    · have c30 := cvl_nge (a := p1.toInt) (b := p2.toInt) rfl rfl c30
      obtain ⟨w34, ew34⟩ : ∃ z : Int64, z = (1 : Int64) := ⟨_, rfl⟩
      have tw34 : w34.toInt = 1 := by rw [ew34]; decide
      rw [show bk_X3_joined_127   (1 : Int64) = bk_X3_joined_127   w34 from by rw [ew34]]
      unfold bk_X3_joined_127
      unfold bk_X3_joined_164
      refine wp_if (fun c35 => ?_) (fun c35 => ?_)
      · have c35 := cvl_gt (a := w34.toInt) (b := 1000000000) rfl (by decide) c35
        exfalso; omega
      · have c35 := cvl_ngt (a := w34.toInt) (b := 1000000000) rfl (by decide) c35
        refine wp_if (fun c36 => ?_) (fun c36 => ?_)
        · have c36 := cvl_ge (a := w34.toInt) (b := (-1000000000)) rfl (by decide) c36
          refine wp_some ?_
          exact (show ((-9000000000000000000) ≤ w34.toInt ∧ w34.toInt ≤ 1000000000) from ⟨by omega, by omega⟩)
        · have c36 := cvl_nge (a := w34.toInt) (b := (-1000000000)) rfl (by decide) c36
          exfalso; omega
  have c29 := cv_ne (a := p0.toInt) (b := 10) rfl (by decide) c29
  refine wp_if (fun c37 => ?_) (fun c37 => ?_)
  · have c37 := cv_eq (a := p0.toInt) (b := 11) rfl (by decide) c37
    refine wp_if (fun c38 => ?_) (fun c38 => ?_)
    · have c38 := cvl_le (a := p1.toInt) (b := p2.toInt) rfl rfl c38
      obtain ⟨w39, ew39⟩ : ∃ z : Int64, z = (0 : Int64) := ⟨_, rfl⟩
      have tw39 : w39.toInt = 0 := by rw [ew39]; decide
      rw [show bk_X3_joined_143   (0 : Int64) = bk_X3_joined_143   w39 from by rw [ew39]]
      unfold bk_X3_joined_143
      unfold bk_X3_joined_164
      refine wp_if (fun c40 => ?_) (fun c40 => ?_)
      · have c40 := cvl_gt (a := w39.toInt) (b := 1000000000) rfl (by decide) c40
        exfalso; omega
      · have c40 := cvl_ngt (a := w39.toInt) (b := 1000000000) rfl (by decide) c40
        refine wp_if (fun c41 => ?_) (fun c41 => ?_)
        · have c41 := cvl_ge (a := w39.toInt) (b := (-1000000000)) rfl (by decide) c41
          refine wp_some ?_
          exact (show ((-9000000000000000000) ≤ w39.toInt ∧ w39.toInt ≤ 1000000000) from ⟨by omega, by omega⟩)
        · have c41 := cvl_nge (a := w39.toInt) (b := (-1000000000)) rfl (by decide) c41
          exfalso; omega
    · have c38 := cvl_nle (a := p1.toInt) (b := p2.toInt) rfl rfl c38
      obtain ⟨w42, ew42⟩ : ∃ z : Int64, z = (1 : Int64) := ⟨_, rfl⟩
      have tw42 : w42.toInt = 1 := by rw [ew42]; decide
      rw [show bk_X3_joined_143   (1 : Int64) = bk_X3_joined_143   w42 from by rw [ew42]]
      unfold bk_X3_joined_143
      unfold bk_X3_joined_164
      refine wp_if (fun c43 => ?_) (fun c43 => ?_)
      · have c43 := cvl_gt (a := w42.toInt) (b := 1000000000) rfl (by decide) c43
        exfalso; omega
      · have c43 := cvl_ngt (a := w42.toInt) (b := 1000000000) rfl (by decide) c43
        refine wp_if (fun c44 => ?_) (fun c44 => ?_)
        · have c44 := cvl_ge (a := w42.toInt) (b := (-1000000000)) rfl (by decide) c44
          refine wp_some ?_
          exact (show ((-9000000000000000000) ≤ w42.toInt ∧ w42.toInt ≤ 1000000000) from ⟨by omega, by omega⟩)
        · have c44 := cvl_nge (a := w42.toInt) (b := (-1000000000)) rfl (by decide) c44
          exfalso; omega
  have c37 := cv_ne (a := p0.toInt) (b := 11) rfl (by decide) c37
  refine wp_if (fun c45 => ?_) (fun c45 => ?_)
  · have c45 := cv_eq (a := p0.toInt) (b := 12) rfl (by decide) c45
    refine wp_if (fun c46 => ?_) (fun c46 => ?_)
    · have c46 := cvl_eq (a := p1.toInt) (b := p2.toInt) rfl rfl c46
      obtain ⟨w47, ew47⟩ : ∃ z : Int64, z = (1 : Int64) := ⟨_, rfl⟩
      have tw47 : w47.toInt = 1 := by rw [ew47]; decide
      rw [show bk_X3_joined_159   (1 : Int64) = bk_X3_joined_159   w47 from by rw [ew47]]
      unfold bk_X3_joined_159
      unfold bk_X3_joined_164
      refine wp_if (fun c48 => ?_) (fun c48 => ?_)
      · have c48 := cvl_gt (a := w47.toInt) (b := 1000000000) rfl (by decide) c48
        exfalso; omega
      · have c48 := cvl_ngt (a := w47.toInt) (b := 1000000000) rfl (by decide) c48
        refine wp_if (fun c49 => ?_) (fun c49 => ?_)
        · have c49 := cvl_ge (a := w47.toInt) (b := (-1000000000)) rfl (by decide) c49
          refine wp_some ?_
          exact (show ((-9000000000000000000) ≤ w47.toInt ∧ w47.toInt ≤ 1000000000) from ⟨by omega, by omega⟩)
        · have c49 := cvl_nge (a := w47.toInt) (b := (-1000000000)) rfl (by decide) c49
          exfalso; omega
    · have c46 := cvl_ne (a := p1.toInt) (b := p2.toInt) rfl rfl c46
      obtain ⟨w50, ew50⟩ : ∃ z : Int64, z = (0 : Int64) := ⟨_, rfl⟩
      have tw50 : w50.toInt = 0 := by rw [ew50]; decide
      rw [show bk_X3_joined_159   (0 : Int64) = bk_X3_joined_159   w50 from by rw [ew50]]
      unfold bk_X3_joined_159
      unfold bk_X3_joined_164
      refine wp_if (fun c51 => ?_) (fun c51 => ?_)
      · have c51 := cvl_gt (a := w50.toInt) (b := 1000000000) rfl (by decide) c51
        exfalso; omega
      · have c51 := cvl_ngt (a := w50.toInt) (b := 1000000000) rfl (by decide) c51
        refine wp_if (fun c52 => ?_) (fun c52 => ?_)
        · have c52 := cvl_ge (a := w50.toInt) (b := (-1000000000)) rfl (by decide) c52
          refine wp_some ?_
          exact (show ((-9000000000000000000) ≤ w50.toInt ∧ w50.toInt ≤ 1000000000) from ⟨by omega, by omega⟩)
        · have c52 := cvl_nge (a := w50.toInt) (b := (-1000000000)) rfl (by decide) c52
          exfalso; omega
  have c45 := cv_ne (a := p0.toInt) (b := 12) rfl (by decide) c45
  obtain ⟨w53, ew53⟩ : ∃ z : Int64, z = (-9000000000000000000 : Int64) := ⟨_, rfl⟩
  have tw53 : w53.toInt = (-9000000000000000000) := by rw [ew53]; decide
  rw [show bk_X3_joined_164   (-9000000000000000000 : Int64) = bk_X3_joined_164   w53 from by rw [ew53]]
  unfold bk_X3_joined_164
  refine wp_if (fun c54 => ?_) (fun c54 => ?_)
  · have c54 := cvl_gt (a := w53.toInt) (b := 1000000000) rfl (by decide) c54
    exfalso; omega
  · have c54 := cvl_ngt (a := w53.toInt) (b := 1000000000) rfl (by decide) c54
    refine wp_if (fun c55 => ?_) (fun c55 => ?_)
    · have c55 := cvl_ge (a := w53.toInt) (b := (-1000000000)) rfl (by decide) c55
      exfalso; omega
    · have c55 := cvl_nge (a := w53.toInt) (b := (-1000000000)) rfl (by decide) c55
      unfold bk_X3_joined_182
      refine wp_some ?_
      exact (show ((-9000000000000000000) ≤ (-9000000000000000000 : Int64).toInt ∧ (-9000000000000000000 : Int64).toInt ≤ 1000000000) from ⟨by decide, by decide⟩)

set_option maxHeartbeats 4000000 in
set_option maxRecDepth 100000 in
theorem s_X3_worth_O (nc_a0 : Nat) (ns_a0 : Nat) (o_me : Ob) (o_a0 : Ob) (p1 : Int32) (p2 : Int32) (hI_me : IvX3 o_me) (hI_a0 : IvX0 nc_a0 ns_a0 o_a0)  : wp (f_X3_worth_O  nc_a0 ns_a0 o_me o_a0 p1 p2) (fun (y : Int64 × Ob) => IvX3 y.2 ∧ Kp [] [] [] o_me y.2) := by
  have li0 : (-9000000000000000000 : Int64).toInt = (-9000000000000000000) := by decide
  have li1 : (0 : Int32).toInt = 0 := by decide
  have li2 : (0 : Int64).toInt = 0 := by decide
  have li3 : (1 : Int32).toInt = 1 := by decide
  have li4 : (1 : Int64).toInt = 1 := by decide
  have li5 : (2 : Int32).toInt = 2 := by decide
  have li6 : (4 : Int32).toInt = 4 := by decide
  have li7 : (50 : Int32).toInt = 50 := by decide
  unfold f_X3_worth_O
  have t9nc := igX0_7 hI_a0
  have t9ns := igX0_8 hI_a0
  have rg2 := i32_rg p1
  have rg3 := i32_rg p2
  refine wp_if (fun c1 => ?_) (fun c1 => ?_)
  · have c1 := cv_lt (a := p1.toInt) (b := p2.toInt) rfl rfl c1
    have t4 : 0 ≤ (if (0 : Int32) < p1 then p1 else (0 : Int32)).toInt ∧ (if (0 : Int32) < p1 then p1 else (0 : Int32)).toInt ≤ 2147483646 := z_max (a := 0) (b := p1.toInt) (by decide) rfl (by omega) (by omega)
    have t5 := z_mxg (0 : Int32) p1
    refine wp_lt (fun x6 ex6 => ?_)
    have tx6 : x6.toInt = (if (0 : Int32) < p1 then p1 else (0 : Int32)).toInt := by rw [ex6]
    have t7 : (-2147483647) ≤ (if (gI o_a0 8) < p2 then (gI o_a0 8) else p2).toInt ∧ (if (gI o_a0 8) < p2 then (gI o_a0 8) else p2).toInt ≤ 400 := z_min (a := p2.toInt) (b := (gI o_a0 8).toInt) rfl rfl (by omega) (by omega)
    have t8 := z_mng p2 (gI o_a0 8)
    refine wp_lt (fun x9 ex9 => ?_)
    have tx9 : x9.toInt = (if (gI o_a0 8) < p2 then (gI o_a0 8) else p2).toInt := by rw [ex9]
    have lp1 : ∀ (N1 : Nat) (v3_1 : Int32) (v4_1 : Int32) (v5_1 : Int32) (v6_1 : Int32) (v7_1 : Int32) (o_me_1 : Ob), IvX3 o_me_1 → Kp [] [] [] o_me o_me_1 → ((-2147483647) ≤ v3_1.toInt ∧ v3_1.toInt ≤ 2147483647) → (0 ≤ v4_1.toInt ∧ v4_1.toInt ≤ 50) → (0 ≤ v5_1.toInt ∧ v5_1.toInt ≤ 2147483647) → ((-2147483647) ≤ v6_1.toInt ∧ v6_1.toInt ≤ 400) → ((-2147483648) ≤ v7_1.toInt ∧ v7_1.toInt ≤ 2147483646) → (v4_1.toInt ≤ v5_1.toInt + 0) → (v6_1.toInt ≤ v3_1.toInt + 0) → (v7_1.toInt ≤ v3_1.toInt + 0) → (v7_1.toInt ≤ v5_1.toInt + 0) → (p1.toInt ≤ v3_1.toInt + (-1)) → (v3_1.toInt ≤ p2.toInt + 0) → (p2.toInt ≤ v3_1.toInt + 0) → (x9.toInt ≤ v3_1.toInt + 0) → (v4_1.toInt ≤ (gI o_a0 8).toInt + 0) → (p1.toInt ≤ v5_1.toInt + 0) → (x6.toInt ≤ v5_1.toInt + 0) → (v6_1.toInt ≤ (gI o_a0 8).toInt + 0) → (v6_1.toInt ≤ p2.toInt + 0) → (v6_1.toInt ≤ x9.toInt + 0) → (x9.toInt ≤ v6_1.toInt + 0) → (p1.toInt ≤ v7_1.toInt + 0) → (v7_1.toInt ≤ p2.toInt + 0) → (v6_1.toInt - v5_1.toInt).toNat < N1 → wp (lp_X3_worth_O_30 nc_a0 ns_a0 o_a0  N1 (v3_1, v4_1, v5_1, v6_1, v7_1, o_me_1)) (fun (y : Int64 × Ob) => IvX3 y.2 ∧ Kp [] [] [] o_me y.2) := by
      intro N1
      induction N1 with
      | zero =>
        intro v3_1 v4_1 v5_1 v6_1 v7_1 o_me_1 hI_me_1 hkp_me_1 hh10 hh11 hh12 hh13 hh14 hh15 hh16 hh17 hh18 hh19 hh20 hh21 hh22 hh23 hh24 hh25 hh26 hh27 hh28 hh29 hh30 hh31 hN1
        exact absurd hN1 (Nat.not_lt_zero _)
      | succ N1 ihx =>
        have ih1 := ihx
        intro v3_1 v4_1 v5_1 v6_1 v7_1 o_me_1 hI_me_1 hkp_me_1 hh10 hh11 hh12 hh13 hh14 hh15 hh16 hh17 hh18 hh19 hh20 hh21 hh22 hh23 hh24 hh25 hh26 hh27 hh28 hh29 hh30 hh31 hN1
        show wp (lb_X3_worth_O_30 nc_a0 ns_a0 o_a0  (lp_X3_worth_O_30 nc_a0 ns_a0 o_a0  N1) v3_1 v4_1 v5_1 v6_1 v7_1 o_me_1) (fun (y : Int64 × Ob) => IvX3 y.2 ∧ Kp [] [] [] o_me y.2)
        unfold lb_X3_worth_O_30
        have rg33 := i32_rg v7_1
        have rg34 := i32_rg v3_1
        refine wp_if (fun c32 => ?_) (fun c32 => ?_)
        · have c32 := cv_ge (a := v7_1.toInt) (b := v3_1.toInt) rfl rfl c32
          unfold bk_X3_worth_O_287
          refine wp_if (fun c35 => ?_) (fun c35 => ?_)
          · have c35 := cv_eq (a := v4_1.toInt) (b := 1) rfl (by decide) c35
            refine wp_some ?_
            exact (show IvX3 o_me_1 ∧ Kp [] [] [] o_me o_me_1 from ⟨hI_me_1, hkp_me_1⟩)
          · have c35 := cv_ne (a := v4_1.toInt) (b := 1) rfl (by decide) c35
            refine wp_some ?_
            exact (show IvX3 o_me_1 ∧ Kp [] [] [] o_me o_me_1 from ⟨hI_me_1, hkp_me_1⟩)
        · have c32 := cv_nge (a := v7_1.toInt) (b := v3_1.toInt) rfl rfl c32
          have rg37 := i32_rg v5_1
          refine wp_if (fun c36 => ?_) (fun c36 => ?_)
          · have c36 := cv_ge (a := v5_1.toInt) (b := v6_1.toInt) rfl rfl c36
            unfold bk_X3_worth_O_287
            refine wp_if (fun c38 => ?_) (fun c38 => ?_)
            · have c38 := cv_eq (a := v4_1.toInt) (b := 1) rfl (by decide) c38
              refine wp_some ?_
              exact (show IvX3 o_me_1 ∧ Kp [] [] [] o_me o_me_1 from ⟨hI_me_1, hkp_me_1⟩)
            · have c38 := cv_ne (a := v4_1.toInt) (b := 1) rfl (by decide) c38
              refine wp_some ?_
              exact (show IvX3 o_me_1 ∧ Kp [] [] [] o_me o_me_1 from ⟨hI_me_1, hkp_me_1⟩)
          · have c36 := cv_nge (a := v5_1.toInt) (b := v6_1.toInt) rfl rfl c36
            refine wp_gd (zin_of (m := (ns_a0 : Int)) rfl (by omega) (by omega)) ?_
            refine wp_lt (fun x39 ex39 => ?_)
            have tx39 : x39.toInt = (gA o_a0 5 v5_1.toNatClampNeg).toInt := by rw [ex39]
            refine wp_gd (zin_of (m := (ns_a0 : Int)) rfl (by omega) (by omega)) ?_
            refine wp_lt (fun x40 ex40 => ?_)
            have tx40 : x40.toInt = (gA o_a0 6 v5_1.toNatClampNeg).toInt := by rw [ex40]
            refine wp_lt (fun x41 ex41 => ?_)
            have tx41 : x41.toInt = v5_1.toInt + 1 := by rw [ex41]; exact i32_add rfl (by decide) (by omega) (by omega)
            refine wp_if (fun c42 => ?_) (fun c42 => ?_)
            · have c42 := cv_eq (a := x39.toInt) (b := 0) rfl (by decide) c42
              unfold bk_X3_worth_O_75
              refine wp_if (fun c43 => ?_) (fun c43 => ?_)
              · have c43 := cv_lt (a := v4_1.toInt) (b := 50) rfl (by decide) c43
                refine wp_if (fun c44 => ?_) (fun c44 => ?_)
                · have c44 := cv_eq (a := x39.toInt) (b := 0) rfl (by decide) c44
                  have rg45 := i32_rg x40
                  have t46 : x40.toInt64.toInt = x40.toInt := Int32.toInt_toInt64 _
                  unfold bk_X3_worth_O_112
                  refine wp_gd (zin_of (m := 50) rfl (by omega) (by omega)) ?_
                  refine wp_lt (fun o47 eo47 => ?_)
                  have hIo47 : IvX3 o47 := by rw [eo47]; exact hI_me_1
                  have hkpo47 : Kp [] [] [] o_me o47 := hkp_me_1.trans (by rw [eo47]; exact Kp.tM)
                  refine wp_lt (fun x48 ex48 => ?_)
                  have tx48 : x48.toInt = v4_1.toInt + 1 := by rw [ex48]; exact i32_add rfl (by decide) (by omega) (by omega)
                  unfold bk_X3_worth_O_281
                  refine wp_lt (fun x49 ex49 => ?_)
                  have tx49 : x49.toInt = v7_1.toInt + 1 := by rw [ex49]; exact i32_add rfl (by decide) (by omega) (by omega)
                  have rg50 := i32_rg x41
                  have rg51 := i32_rg x49
                  exact ih1 v3_1 x48 x41 v6_1 x49 o47 hIo47 hkpo47 ⟨by omega, by omega⟩ ⟨by omega, by omega⟩ ⟨by omega, by omega⟩ ⟨by omega, by omega⟩ ⟨by omega, by omega⟩ (by omega) (by omega) (by omega) (by omega) (by omega) (by omega) (by omega) (by omega) (by omega) (by omega) (by omega) (by omega) (by omega) (by omega) (by omega) (by omega) (by omega) (by omega)
                · have c44z := c44
                  have c44 := cv_ne (a := x39.toInt) (b := 0) rfl (by decide) c44
                  exfalso; omega
              · have c43 := cv_nlt (a := v4_1.toInt) (b := 50) rfl (by decide) c43
                refine wp_some ?_
                exact (show IvX3 o_me_1 ∧ Kp [] [] [] o_me o_me_1 from ⟨hI_me_1, hkp_me_1⟩)
            · have c42z := c42
              have c42 := cv_ne (a := x39.toInt) (b := 0) rfl (by decide) c42
              refine wp_if (fun c52 => ?_) (fun c52 => ?_)
              · have c52 := cv_eq (a := x39.toInt) (b := 1) rfl (by decide) c52
                unfold bk_X3_worth_O_75
                refine wp_if (fun c53 => ?_) (fun c53 => ?_)
                · have c53 := cv_lt (a := v4_1.toInt) (b := 50) rfl (by decide) c53
                  refine wp_if (fun c54 => ?_) (fun c54 => ?_)
                  · have c54 := cv_eq (a := x39.toInt) (b := 0) rfl (by decide) c54
                    exfalso; omega
                  · have c54z := c54
                    have c54 := cv_ne (a := x39.toInt) (b := 0) rfl (by decide) c54
                    refine wp_bd (s_X3_wordWorth   o_me_1 x40  hI_me_1  ) (fun z55 hz55 => ?_)
                    have hz55_0 := hz55
                    unfold bk_X3_worth_O_112
                    refine wp_gd (zin_of (m := 50) rfl (by omega) (by omega)) ?_
                    refine wp_lt (fun o56 eo56 => ?_)
                    have hIo56 : IvX3 o56 := by rw [eo56]; exact hI_me_1
                    have hkpo56 : Kp [] [] [] o_me o56 := hkp_me_1.trans (by rw [eo56]; exact Kp.tM)
                    refine wp_lt (fun x57 ex57 => ?_)
                    have tx57 : x57.toInt = v4_1.toInt + 1 := by rw [ex57]; exact i32_add rfl (by decide) (by omega) (by omega)
                    unfold bk_X3_worth_O_281
                    refine wp_lt (fun x58 ex58 => ?_)
                    have tx58 : x58.toInt = v7_1.toInt + 1 := by rw [ex58]; exact i32_add rfl (by decide) (by omega) (by omega)
                    have rg59 := i32_rg x41
                    have rg60 := i32_rg x58
                    exact ih1 v3_1 x57 x41 v6_1 x58 o56 hIo56 hkpo56 ⟨by omega, by omega⟩ ⟨by omega, by omega⟩ ⟨by omega, by omega⟩ ⟨by omega, by omega⟩ ⟨by omega, by omega⟩ (by omega) (by omega) (by omega) (by omega) (by omega) (by omega) (by omega) (by omega) (by omega) (by omega) (by omega) (by omega) (by omega) (by omega) (by omega) (by omega) (by omega) (by omega)
                · have c53 := cv_nlt (a := v4_1.toInt) (b := 50) rfl (by decide) c53
                  refine wp_some ?_
                  exact (show IvX3 o_me_1 ∧ Kp [] [] [] o_me o_me_1 from ⟨hI_me_1, hkp_me_1⟩)
              · have c52 := cv_ne (a := x39.toInt) (b := 1) rfl (by decide) c52
                refine wp_if (fun c61 => ?_) (fun c61 => ?_)
                · have c61 := cv_gt (a := x39.toInt) (b := 4) rfl (by decide) c61
                  refine wp_if (fun c62 => ?_) (fun c62 => ?_)
                  · have c62 := cv_ge (a := v4_1.toInt) (b := 2) rfl (by decide) c62
                    refine wp_lt (fun x63 ex63 => ?_)
                    have tx63 : x63.toInt = v4_1.toInt + (-1) := by rw [ex63]; exact i32_add rfl (by decide) (by omega) (by omega)
                    have t64 : (x63 - (1 : Int32)).toInt = x63.toInt - 1 := i32_sub rfl (by decide) (by omega) (by omega)
                    refine wp_gd (zin_of (m := 50) rfl (by omega) (by omega)) ?_
                    refine wp_gd (zin_of (m := 50) rfl (by omega) (by omega)) ?_
                    refine wp_bd (s_X3_joined   x39 (gM o_me_1 1 (x63 - (1 : Int32)).toNatClampNeg) (gM o_me_1 1 x63.toNatClampNeg)    ) (fun z65 hz65 => ?_)
                    have hz65_0 := hz65
                    refine wp_gd (zin_of (m := 50) rfl (by omega) (by omega)) ?_
                    refine wp_lt (fun o66 eo66 => ?_)
                    have hIo66 : IvX3 o66 := by rw [eo66]; exact hI_me_1
                    have hkpo66 : Kp [] [] [] o_me o66 := hkp_me_1.trans (by rw [eo66]; exact Kp.tM)
                    refine wp_gd (zin_of (m := 50) rfl (by omega) (by omega)) ?_
                    refine wp_if (fun c67 => ?_) (fun c67 => ?_)
                    · have c67 := cvl_eq (a := (gM o66 1 (x63 - (1 : Int32)).toNatClampNeg).toInt) (b := (-9000000000000000000)) rfl (by decide) c67
                      refine wp_some ?_
                      exact (show IvX3 o66 ∧ Kp [] [] [] o_me o66 from ⟨hIo66, hkpo66⟩)
                    · have c67 := cvl_ne (a := (gM o66 1 (x63 - (1 : Int32)).toNatClampNeg).toInt) (b := (-9000000000000000000)) rfl (by decide) c67
                      unfold bk_X3_worth_O_281
                      refine wp_lt (fun x68 ex68 => ?_)
                      have tx68 : x68.toInt = v7_1.toInt + 1 := by rw [ex68]; exact i32_add rfl (by decide) (by omega) (by omega)
                      have rg69 := i32_rg x41
                      have rg70 := i32_rg x68
                      exact ih1 v3_1 x63 x41 v6_1 x68 o66 hIo66 hkpo66 ⟨by omega, by omega⟩ ⟨by omega, by omega⟩ ⟨by omega, by omega⟩ ⟨by omega, by omega⟩ ⟨by omega, by omega⟩ (by omega) (by omega) (by omega) (by omega) (by omega) (by omega) (by omega) (by omega) (by omega) (by omega) (by omega) (by omega) (by omega) (by omega) (by omega) (by omega) (by omega) (by omega)
                  · have c62 := cv_nge (a := v4_1.toInt) (b := 2) rfl (by decide) c62
                    refine wp_some ?_
                    exact (show IvX3 o_me_1 ∧ Kp [] [] [] o_me o_me_1 from ⟨hI_me_1, hkp_me_1⟩)
                · have c61 := cv_ngt (a := x39.toInt) (b := 4) rfl (by decide) c61
                  refine wp_if (fun c71 => ?_) (fun c71 => ?_)
                  · have c71 := cv_ge (a := v4_1.toInt) (b := 1) rfl (by decide) c71
                    have t72 : (v4_1 - (1 : Int32)).toInt = v4_1.toInt - 1 := i32_sub rfl (by decide) (by omega) (by omega)
                    refine wp_gd (zin_of (m := 50) rfl (by omega) (by omega)) ?_
                    refine wp_if (fun c73 => ?_) (fun c73 => ?_)
                    · have c73 := cvl_eq (a := (gM o_me_1 1 (v4_1 - (1 : Int32)).toNatClampNeg).toInt) (b := 1) rfl (by decide) c73
                      obtain ⟨w74, ew74⟩ : ∃ z : Int32, z = (1 : Int32) := ⟨_, rfl⟩
                      have tw74 : w74.toInt = 1 := by rw [ew74]; decide
                      rw [show bk_X3_worth_O_154 nc_a0 ns_a0 o_a0 (lp_X3_worth_O_30 nc_a0 ns_a0 o_a0  N1) v3_1 v4_1 x41 v6_1 v7_1 x39 x40 (1 : Int32) o_me_1 = bk_X3_worth_O_154 nc_a0 ns_a0 o_a0 (lp_X3_worth_O_30 nc_a0 ns_a0 o_a0  N1) v3_1 v4_1 x41 v6_1 v7_1 x39 x40 w74 o_me_1 from by rw [ew74]]
                      unfold bk_X3_worth_O_154
                      refine wp_if (fun c75 => ?_) (fun c75 => ?_)
                      · have c75 := cv_eq (a := x39.toInt) (b := 2) rfl (by decide) c75
                        refine wp_if (fun c76 => ?_) (fun c76 => ?_)
                        · have c76 := cv_eq (a := w74.toInt) (b := 0) rfl (by decide) c76
                          exfalso; omega
                        · have c76z := c76
                          have c76 := cv_ne (a := w74.toInt) (b := 0) rfl (by decide) c76
                          obtain ⟨w77, ew77⟩ : ∃ z : Int64, z = (0 : Int64) := ⟨_, rfl⟩
                          have tw77 : w77.toInt = 0 := by rw [ew77]; decide
                          obtain ⟨w78, ew78⟩ : ∃ z : Int32, z = v4_1 - (1 : Int32) := ⟨_, rfl⟩
                          have tw78 : w78.toInt = (v4_1 - (1 : Int32)).toInt := by rw [ew78]
                          rw [show bk_X3_worth_O_180 nc_a0 ns_a0 o_a0 (lp_X3_worth_O_30 nc_a0 ns_a0 o_a0  N1) v3_1 v4_1 x41 v6_1 v7_1 (0 : Int64) (v4_1 - (1 : Int32)) o_me_1 = bk_X3_worth_O_180 nc_a0 ns_a0 o_a0 (lp_X3_worth_O_30 nc_a0 ns_a0 o_a0  N1) v3_1 v4_1 x41 v6_1 v7_1 w77 w78 o_me_1 from by rw [ew77, ew78]]
                          unfold bk_X3_worth_O_180
                          refine wp_gd (zin_of (m := 50) rfl (by omega) (by omega)) ?_
                          refine wp_lt (fun o79 eo79 => ?_)
                          have hIo79 : IvX3 o79 := by rw [eo79]; exact hI_me_1
                          have hkpo79 : Kp [] [] [] o_me o79 := hkp_me_1.trans (by rw [eo79]; exact Kp.tM)
                          unfold bk_X3_worth_O_215
                          unfold bk_X3_worth_O_281
                          refine wp_lt (fun x80 ex80 => ?_)
                          have tx80 : x80.toInt = v7_1.toInt + 1 := by rw [ex80]; exact i32_add rfl (by decide) (by omega) (by omega)
                          have rg81 := i32_rg x41
                          have rg82 := i32_rg x80
                          exact ih1 v3_1 v4_1 x41 v6_1 x80 o79 hIo79 hkpo79 ⟨by omega, by omega⟩ ⟨by omega, by omega⟩ ⟨by omega, by omega⟩ ⟨by omega, by omega⟩ ⟨by omega, by omega⟩ (by omega) (by omega) (by omega) (by omega) (by omega) (by omega) (by omega) (by omega) (by omega) (by omega) (by omega) (by omega) (by omega) (by omega) (by omega) (by omega) (by omega) (by omega)
                      · have c75 := cv_ne (a := x39.toInt) (b := 2) rfl (by decide) c75
                        refine wp_if (fun c83 => ?_) (fun c83 => ?_)
                        · have c83 := cv_eq (a := x39.toInt) (b := 4) rfl (by decide) c83
                          obtain ⟨w84, ew84⟩ : ∃ z : Int32, z = (1 : Int32) := ⟨_, rfl⟩
                          have tw84 : w84.toInt = 1 := by rw [ew84]; decide
                          rw [show bk_X3_worth_O_197 nc_a0 ns_a0 o_a0 (lp_X3_worth_O_30 nc_a0 ns_a0 o_a0  N1) v3_1 v4_1 x41 v6_1 v7_1 x40 (1 : Int32) w74 o_me_1 = bk_X3_worth_O_197 nc_a0 ns_a0 o_a0 (lp_X3_worth_O_30 nc_a0 ns_a0 o_a0  N1) v3_1 v4_1 x41 v6_1 v7_1 x40 w84 w74 o_me_1 from by rw [ew84]]
                          unfold bk_X3_worth_O_197
                          refine wp_if (fun c85 => ?_) (fun c85 => ?_)
                          · have c85 := cv_eq (a := w74.toInt) (b := w84.toInt) rfl rfl c85
                            have rg87 := i32_rg x40
                            have t86 : 2 ≤ (if x41 < x40 then x40 else x41).toInt ∧ (if x41 < x40 then x40 else x41).toInt ≤ 2147483647 := z_max (a := x41.toInt) (b := x40.toInt) rfl rfl (by omega) (by omega)
                            have t88 := z_mxg x41 x40
                            refine wp_lt (fun x89 ex89 => ?_)
                            have tx89 : x89.toInt = (if x41 < x40 then x40 else x41).toInt := by rw [ex89]
                            unfold bk_X3_worth_O_215
                            unfold bk_X3_worth_O_281
                            refine wp_lt (fun x90 ex90 => ?_)
                            have tx90 : x90.toInt = v7_1.toInt + 1 := by rw [ex90]; exact i32_add rfl (by decide) (by omega) (by omega)
                            have rg91 := i32_rg x89
                            have rg92 := i32_rg x90
                            exact ih1 v3_1 v4_1 x89 v6_1 x90 o_me_1 hI_me_1 hkp_me_1 ⟨by omega, by omega⟩ ⟨by omega, by omega⟩ ⟨by omega, by omega⟩ ⟨by omega, by omega⟩ ⟨by omega, by omega⟩ (by omega) (by omega) (by omega) (by omega) (by omega) (by omega) (by omega) (by omega) (by omega) (by omega) (by omega) (by omega) (by omega) (by omega) (by omega) (by omega) (by omega) (by omega)
                          · have c85 := cv_ne (a := w74.toInt) (b := w84.toInt) rfl rfl c85
                            exfalso; omega
                        · have c83 := cv_ne (a := x39.toInt) (b := 4) rfl (by decide) c83
                          obtain ⟨w93, ew93⟩ : ∃ z : Int32, z = (0 : Int32) := ⟨_, rfl⟩
                          have tw93 : w93.toInt = 0 := by rw [ew93]; decide
                          rw [show bk_X3_worth_O_197 nc_a0 ns_a0 o_a0 (lp_X3_worth_O_30 nc_a0 ns_a0 o_a0  N1) v3_1 v4_1 x41 v6_1 v7_1 x40 (0 : Int32) w74 o_me_1 = bk_X3_worth_O_197 nc_a0 ns_a0 o_a0 (lp_X3_worth_O_30 nc_a0 ns_a0 o_a0  N1) v3_1 v4_1 x41 v6_1 v7_1 x40 w93 w74 o_me_1 from by rw [ew93]]
                          unfold bk_X3_worth_O_197
                          refine wp_if (fun c94 => ?_) (fun c94 => ?_)
                          · have c94 := cv_eq (a := w74.toInt) (b := w93.toInt) rfl rfl c94
                            exfalso; omega
                          · have c94 := cv_ne (a := w74.toInt) (b := w93.toInt) rfl rfl c94
                            refine wp_lt (fun x95 ex95 => ?_)
                            have tx95 : x95.toInt = v4_1.toInt + (-1) := by rw [ex95]; exact i32_add rfl (by decide) (by omega) (by omega)
                            unfold bk_X3_worth_O_215
                            unfold bk_X3_worth_O_281
                            refine wp_lt (fun x96 ex96 => ?_)
                            have tx96 : x96.toInt = v7_1.toInt + 1 := by rw [ex96]; exact i32_add rfl (by decide) (by omega) (by omega)
                            have rg97 := i32_rg x41
                            have rg98 := i32_rg x96
                            exact ih1 v3_1 x95 x41 v6_1 x96 o_me_1 hI_me_1 hkp_me_1 ⟨by omega, by omega⟩ ⟨by omega, by omega⟩ ⟨by omega, by omega⟩ ⟨by omega, by omega⟩ ⟨by omega, by omega⟩ (by omega) (by omega) (by omega) (by omega) (by omega) (by omega) (by omega) (by omega) (by omega) (by omega) (by omega) (by omega) (by omega) (by omega) (by omega) (by omega) (by omega) (by omega)
                    · have c73 := cvl_ne (a := (gM o_me_1 1 (v4_1 - (1 : Int32)).toNatClampNeg).toInt) (b := 1) rfl (by decide) c73
                      obtain ⟨w99, ew99⟩ : ∃ z : Int32, z = (0 : Int32) := ⟨_, rfl⟩
                      have tw99 : w99.toInt = 0 := by rw [ew99]; decide
                      rw [show bk_X3_worth_O_154 nc_a0 ns_a0 o_a0 (lp_X3_worth_O_30 nc_a0 ns_a0 o_a0  N1) v3_1 v4_1 x41 v6_1 v7_1 x39 x40 (0 : Int32) o_me_1 = bk_X3_worth_O_154 nc_a0 ns_a0 o_a0 (lp_X3_worth_O_30 nc_a0 ns_a0 o_a0  N1) v3_1 v4_1 x41 v6_1 v7_1 x39 x40 w99 o_me_1 from by rw [ew99]]
                      unfold bk_X3_worth_O_154
                      refine wp_if (fun c100 => ?_) (fun c100 => ?_)
                      · have c100 := cv_eq (a := x39.toInt) (b := 2) rfl (by decide) c100
                        refine wp_if (fun c101 => ?_) (fun c101 => ?_)
                        · have c101 := cv_eq (a := w99.toInt) (b := 0) rfl (by decide) c101
                          obtain ⟨w102, ew102⟩ : ∃ z : Int64, z = (1 : Int64) := ⟨_, rfl⟩
                          have tw102 : w102.toInt = 1 := by rw [ew102]; decide
                          obtain ⟨w103, ew103⟩ : ∃ z : Int32, z = v4_1 - (1 : Int32) := ⟨_, rfl⟩
                          have tw103 : w103.toInt = (v4_1 - (1 : Int32)).toInt := by rw [ew103]
                          rw [show bk_X3_worth_O_180 nc_a0 ns_a0 o_a0 (lp_X3_worth_O_30 nc_a0 ns_a0 o_a0  N1) v3_1 v4_1 x41 v6_1 v7_1 (1 : Int64) (v4_1 - (1 : Int32)) o_me_1 = bk_X3_worth_O_180 nc_a0 ns_a0 o_a0 (lp_X3_worth_O_30 nc_a0 ns_a0 o_a0  N1) v3_1 v4_1 x41 v6_1 v7_1 w102 w103 o_me_1 from by rw [ew102, ew103]]
                          unfold bk_X3_worth_O_180
                          refine wp_gd (zin_of (m := 50) rfl (by omega) (by omega)) ?_
                          refine wp_lt (fun o104 eo104 => ?_)
                          have hIo104 : IvX3 o104 := by rw [eo104]; exact hI_me_1
                          have hkpo104 : Kp [] [] [] o_me o104 := hkp_me_1.trans (by rw [eo104]; exact Kp.tM)
                          unfold bk_X3_worth_O_215
                          unfold bk_X3_worth_O_281
                          refine wp_lt (fun x105 ex105 => ?_)
                          have tx105 : x105.toInt = v7_1.toInt + 1 := by rw [ex105]; exact i32_add rfl (by decide) (by omega) (by omega)
                          have rg106 := i32_rg x41
                          have rg107 := i32_rg x105
                          exact ih1 v3_1 v4_1 x41 v6_1 x105 o104 hIo104 hkpo104 ⟨by omega, by omega⟩ ⟨by omega, by omega⟩ ⟨by omega, by omega⟩ ⟨by omega, by omega⟩ ⟨by omega, by omega⟩ (by omega) (by omega) (by omega) (by omega) (by omega) (by omega) (by omega) (by omega) (by omega) (by omega) (by omega) (by omega) (by omega) (by omega) (by omega) (by omega) (by omega) (by omega)
                        · have c101z := c101
                          have c101 := cv_ne (a := w99.toInt) (b := 0) rfl (by decide) c101
                          exfalso; omega
                      · have c100 := cv_ne (a := x39.toInt) (b := 2) rfl (by decide) c100
                        refine wp_if (fun c108 => ?_) (fun c108 => ?_)
                        · have c108 := cv_eq (a := x39.toInt) (b := 4) rfl (by decide) c108
                          obtain ⟨w109, ew109⟩ : ∃ z : Int32, z = (1 : Int32) := ⟨_, rfl⟩
                          have tw109 : w109.toInt = 1 := by rw [ew109]; decide
                          rw [show bk_X3_worth_O_197 nc_a0 ns_a0 o_a0 (lp_X3_worth_O_30 nc_a0 ns_a0 o_a0  N1) v3_1 v4_1 x41 v6_1 v7_1 x40 (1 : Int32) w99 o_me_1 = bk_X3_worth_O_197 nc_a0 ns_a0 o_a0 (lp_X3_worth_O_30 nc_a0 ns_a0 o_a0  N1) v3_1 v4_1 x41 v6_1 v7_1 x40 w109 w99 o_me_1 from by rw [ew109]]
                          unfold bk_X3_worth_O_197
                          refine wp_if (fun c110 => ?_) (fun c110 => ?_)
                          · have c110 := cv_eq (a := w99.toInt) (b := w109.toInt) rfl rfl c110
                            exfalso; omega
                          · have c110 := cv_ne (a := w99.toInt) (b := w109.toInt) rfl rfl c110
                            refine wp_lt (fun x111 ex111 => ?_)
                            have tx111 : x111.toInt = v4_1.toInt + (-1) := by rw [ex111]; exact i32_add rfl (by decide) (by omega) (by omega)
                            unfold bk_X3_worth_O_215
                            unfold bk_X3_worth_O_281
                            refine wp_lt (fun x112 ex112 => ?_)
                            have tx112 : x112.toInt = v7_1.toInt + 1 := by rw [ex112]; exact i32_add rfl (by decide) (by omega) (by omega)
                            have rg113 := i32_rg x41
                            have rg114 := i32_rg x112
                            exact ih1 v3_1 x111 x41 v6_1 x112 o_me_1 hI_me_1 hkp_me_1 ⟨by omega, by omega⟩ ⟨by omega, by omega⟩ ⟨by omega, by omega⟩ ⟨by omega, by omega⟩ ⟨by omega, by omega⟩ (by omega) (by omega) (by omega) (by omega) (by omega) (by omega) (by omega) (by omega) (by omega) (by omega) (by omega) (by omega) (by omega) (by omega) (by omega) (by omega) (by omega) (by omega)
                        · have c108 := cv_ne (a := x39.toInt) (b := 4) rfl (by decide) c108
                          obtain ⟨w115, ew115⟩ : ∃ z : Int32, z = (0 : Int32) := ⟨_, rfl⟩
                          have tw115 : w115.toInt = 0 := by rw [ew115]; decide
                          rw [show bk_X3_worth_O_197 nc_a0 ns_a0 o_a0 (lp_X3_worth_O_30 nc_a0 ns_a0 o_a0  N1) v3_1 v4_1 x41 v6_1 v7_1 x40 (0 : Int32) w99 o_me_1 = bk_X3_worth_O_197 nc_a0 ns_a0 o_a0 (lp_X3_worth_O_30 nc_a0 ns_a0 o_a0  N1) v3_1 v4_1 x41 v6_1 v7_1 x40 w115 w99 o_me_1 from by rw [ew115]]
                          unfold bk_X3_worth_O_197
                          refine wp_if (fun c116 => ?_) (fun c116 => ?_)
                          · have c116 := cv_eq (a := w99.toInt) (b := w115.toInt) rfl rfl c116
                            have rg118 := i32_rg x40
                            have t117 : 2 ≤ (if x41 < x40 then x40 else x41).toInt ∧ (if x41 < x40 then x40 else x41).toInt ≤ 2147483647 := z_max (a := x41.toInt) (b := x40.toInt) rfl rfl (by omega) (by omega)
                            have t119 := z_mxg x41 x40
                            refine wp_lt (fun x120 ex120 => ?_)
                            have tx120 : x120.toInt = (if x41 < x40 then x40 else x41).toInt := by rw [ex120]
                            unfold bk_X3_worth_O_215
                            unfold bk_X3_worth_O_281
                            refine wp_lt (fun x121 ex121 => ?_)
                            have tx121 : x121.toInt = v7_1.toInt + 1 := by rw [ex121]; exact i32_add rfl (by decide) (by omega) (by omega)
                            have rg122 := i32_rg x120
                            have rg123 := i32_rg x121
                            exact ih1 v3_1 v4_1 x120 v6_1 x121 o_me_1 hI_me_1 hkp_me_1 ⟨by omega, by omega⟩ ⟨by omega, by omega⟩ ⟨by omega, by omega⟩ ⟨by omega, by omega⟩ ⟨by omega, by omega⟩ (by omega) (by omega) (by omega) (by omega) (by omega) (by omega) (by omega) (by omega) (by omega) (by omega) (by omega) (by omega) (by omega) (by omega) (by omega) (by omega) (by omega) (by omega)
                          · have c116 := cv_ne (a := w99.toInt) (b := w115.toInt) rfl rfl c116
                            exfalso; omega
                  · have c71 := cv_nge (a := v4_1.toInt) (b := 1) rfl (by decide) c71
                    refine wp_some ?_
                    exact (show IvX3 o_me_1 ∧ Kp [] [] [] o_me o_me_1 from ⟨hI_me_1, hkp_me_1⟩)
    have rg124 := i32_rg x6
    exact lp1 zfu p2 (0 : Int32) x6 x9 p1 o_me hI_me Kp.rf ⟨by omega, by omega⟩ ⟨by decide, by decide⟩ ⟨by omega, by omega⟩ ⟨by omega, by omega⟩ ⟨by omega, by omega⟩ (by omega) (by omega) (by omega) (by omega) (by omega) (by omega) (by omega) (by omega) (by omega) (by omega) (by omega) (by omega) (by omega) (by omega) (by omega) (by omega) (by omega) (by show _ < 100000; omega)
  · have c1 := cv_nlt (a := p1.toInt) (b := p2.toInt) rfl rfl c1
    refine wp_some ?_
    exact (show IvX3 o_me ∧ Kp [] [] [] o_me o_me from ⟨hI_me, Kp.rf⟩)

set_option maxHeartbeats 4000000 in
set_option maxRecDepth 100000 in
theorem s_X1_told_O {pl : List CR} (nc_a0 : Nat) (ns_a0 : Nat) (o_me : Ob) (o_me_isles : Ob) (o_me_isles_now : Ob) (o_me_machine : Ob) (o_a0 : Ob) (p1 : Int32) (p2 : Int32) (p3 : Int32) (p4 : Int32) (hI_me : IvX1 o_me) (hI_me_isles : IvX2 pl o_me_isles) (hI_me_isles_now : IvX4 o_me_isles_now) (hI_me_machine : IvX3 o_me_machine) (hI_a0 : IvX0 nc_a0 ns_a0 o_a0)  : wp (f_X1_told_O  nc_a0 ns_a0 o_me o_me_isles o_me_isles_now o_me_machine o_a0 p1 p2 p3 p4) (fun (y : Int64 × Ob) => IvX3 y.2 ∧ Kp [] [] [] o_me_machine y.2) := by
  have li0 : (-9000000000000000000 : Int64).toInt = (-9000000000000000000) := by decide
  have li1 : (1 : Int32).toInt = 1 := by decide
  have li2 : (1 : Int64).toInt = 1 := by decide
  unfold f_X1_told_O
  have t9nc := igX0_7 hI_a0
  have t9ns := igX0_8 hI_a0
  refine wp_bd (s_X2_isPerson   o_me_isles p2  hI_me_isles  ) (fun z1 hz1 => ?_)
  obtain ⟨hz1_0, hz1_1⟩ := hz1
  refine wp_if (fun c2 => ?_) (fun c2 => ?_)
  · have c2 := cv_eq (a := z1.toInt) (b := 0) rfl (by decide) c2
    refine wp_some ?_
    exact (show IvX3 o_me_machine ∧ Kp [] [] [] o_me_machine o_me_machine from ⟨hI_me_machine, Kp.rf⟩)
  · have c2z := c2
    have c2i := hz1_1 c2
    have c2 := cv_ne (a := z1.toInt) (b := 0) rfl (by decide) c2
    refine wp_bd (s_X8_isRace   p3    ) (fun z3 hz3 => ?_)
    obtain ⟨hz3_0, hz3_1⟩ := hz3
    refine wp_if (fun c4 => ?_) (fun c4 => ?_)
    · have c4 := cv_eq (a := z3.toInt) (b := 0) rfl (by decide) c4
      refine wp_some ?_
      exact (show IvX3 o_me_machine ∧ Kp [] [] [] o_me_machine o_me_machine from ⟨hI_me_machine, Kp.rf⟩)
    · have c4z := c4
      have c4i := hz3_1 c4
      have c4 := cv_ne (a := z3.toInt) (b := 0) rfl (by decide) c4
      refine wp_bd (s_X3_setLawWords_O   o_me_machine o_me_isles o_me_isles_now p2 p3 p4  hI_me_machine hI_me_isles hI_me_isles_now  ⟨by omega, by omega⟩ ⟨by omega, by omega⟩) (fun z5 hz5 => ?_)
      obtain ⟨hz5_0, hz5_1⟩ := hz5
      have hkpz5_me_machine : Kp [] [] [] o_me_machine z5 := Kp.rf.trans (hz5_1.mono (by decide) (by decide) (by decide))
      have t6 : ((gI o_a0 7) - (1 : Int32)).toInt = (gI o_a0 7).toInt - 1 := i32_sub rfl (by decide) (by omega) (by omega)
      refine wp_lt (fun x7 ex7 => ?_)
      have tx7 : x7.toInt = ((gI o_a0 7) - (1 : Int32)).toInt := by rw [ex7]
      have lp1 : ∀ (N1 : Nat) (v2_1 : Int32) (v6_1 : Int32) (o_me_machine_1 : Ob), IvX3 o_me_machine_1 → Kp [] [] [] o_me_machine o_me_machine_1 → ((-1) ≤ v6_1.toInt ∧ v6_1.toInt ≤ 11) → (v6_1.toInt ≤ x7.toInt + 0) → (v6_1.toInt ≤ (gI o_a0 7).toInt + (-1)) → (v6_1.toInt - (-1)).toNat < N1 → wp (lp_X1_told_O_51 nc_a0 ns_a0 o_me o_me_isles o_me_isles_now o_a0  N1 (v2_1, v6_1, o_me_machine_1)) (fun (y : Int64 × Ob) => IvX3 y.2 ∧ Kp [] [] [] o_me_machine y.2) := by
        intro N1
        induction N1 with
        | zero =>
          intro v2_1 v6_1 o_me_machine_1 hI_me_machine_1 hkp_me_machine_1 hh8 hh9 hh10 hN1
          exact absurd hN1 (Nat.not_lt_zero _)
        | succ N1 ihx =>
          have ih1 := ihx
          intro v2_1 v6_1 o_me_machine_1 hI_me_machine_1 hkp_me_machine_1 hh8 hh9 hh10 hN1
          show wp (lb_X1_told_O_51 nc_a0 ns_a0 o_me o_me_isles o_me_isles_now o_a0  (lp_X1_told_O_51 nc_a0 ns_a0 o_me o_me_isles o_me_isles_now o_a0  N1) v2_1 v6_1 o_me_machine_1) (fun (y : Int64 × Ob) => IvX3 y.2 ∧ Kp [] [] [] o_me_machine y.2)
          unfold lb_X1_told_O_51
          refine wp_if (fun c11 => ?_) (fun c11 => ?_)
          · have c11 := cv_lt (a := v6_1.toInt) (b := 0) rfl (by decide) c11
            refine wp_some ?_
            exact (show IvX3 o_me_machine_1 ∧ Kp [] [] [] o_me_machine o_me_machine_1 from ⟨hI_me_machine_1, hkp_me_machine_1⟩)
          · have c11 := cv_nlt (a := v6_1.toInt) (b := 0) rfl (by decide) c11
            refine wp_gd (zin_of (m := (nc_a0 : Int)) rfl (by omega) (by omega)) ?_
            have rg13 := i32_rg (gA o_a0 0 v6_1.toNatClampNeg)
            have rg14 := i32_rg v2_1
            refine wp_if (fun c12 => ?_) (fun c12 => ?_)
            · have c12 := cv_eq (a := (gA o_a0 0 v6_1.toNatClampNeg).toInt) (b := v2_1.toInt) rfl rfl c12
              refine wp_gd (zin_of (m := (nc_a0 : Int)) rfl (by omega) (by omega)) ?_
              refine wp_gd (zin_of (m := (nc_a0 : Int)) rfl (by omega) (by omega)) ?_
              refine wp_bd (s_X3_worth_O  nc_a0 ns_a0 o_me_machine_1 o_a0 (gA o_a0 3 v6_1.toNatClampNeg) (gA o_a0 4 v6_1.toNatClampNeg)  hI_me_machine_1 hI_a0  ) (fun z15 hz15 => ?_)
              obtain ⟨hz15_0, hz15_1⟩ := hz15
              have hkpz15_me_machine : Kp [] [] [] o_me_machine z15.2 := hkp_me_machine_1.trans (hz15_1.mono (by decide) (by decide) (by decide))
              refine wp_if (fun c16 => ?_) (fun c16 => ?_)
              · have c16 := cvl_eq (a := z15.1.toInt) (b := 1) rfl (by decide) c16
                refine wp_gd (zin_of (m := (nc_a0 : Int)) rfl (by omega) (by omega)) ?_
                refine wp_gd (zin_of (m := (nc_a0 : Int)) rfl (by omega) (by omega)) ?_
                refine wp_bd (s_X3_worth_O  nc_a0 ns_a0 z15.2 o_a0 (gA o_a0 2 v6_1.toNatClampNeg) (gA o_a0 3 v6_1.toNatClampNeg)  hz15_0 hI_a0  ) (fun z17 hz17 => ?_)
                obtain ⟨hz17_0, hz17_1⟩ := hz17
                have hkpz17_me_machine : Kp [] [] [] o_me_machine z17.2 := hkpz15_me_machine.trans (hz17_1.mono (by decide) (by decide) (by decide))
                refine wp_if (fun c18 => ?_) (fun c18 => ?_)
                · have c18 := cvl_eq (a := z17.1.toInt) (b := (-9000000000000000000)) rfl (by decide) c18
                  unfold bk_X1_told_O_130
                  refine wp_lt (fun x19 ex19 => ?_)
                  have tx19 : x19.toInt = v6_1.toInt + (-1) := by rw [ex19]; exact i32_add rfl (by decide) (by omega) (by omega)
                  exact ih1 v2_1 x19 z17.2 hz17_0 hkpz17_me_machine ⟨by omega, by omega⟩ (by omega) (by omega) (by omega)
                · have c18 := cvl_ne (a := z17.1.toInt) (b := (-9000000000000000000)) rfl (by decide) c18
                  refine wp_some ?_
                  exact (show IvX3 z17.2 ∧ Kp [] [] [] o_me_machine z17.2 from ⟨hz17_0, hkpz17_me_machine⟩)
              · have c16 := cvl_ne (a := z15.1.toInt) (b := 1) rfl (by decide) c16
                unfold bk_X1_told_O_130
                refine wp_lt (fun x20 ex20 => ?_)
                have tx20 : x20.toInt = v6_1.toInt + (-1) := by rw [ex20]; exact i32_add rfl (by decide) (by omega) (by omega)
                exact ih1 v2_1 x20 z15.2 hz15_0 hkpz15_me_machine ⟨by omega, by omega⟩ (by omega) (by omega) (by omega)
            · have c12 := cv_ne (a := (gA o_a0 0 v6_1.toNatClampNeg).toInt) (b := v2_1.toInt) rfl rfl c12
              unfold bk_X1_told_O_130
              refine wp_lt (fun x21 ex21 => ?_)
              have tx21 : x21.toInt = v6_1.toInt + (-1) := by rw [ex21]; exact i32_add rfl (by decide) (by omega) (by omega)
              exact ih1 v2_1 x21 o_me_machine_1 hI_me_machine_1 hkp_me_machine_1 ⟨by omega, by omega⟩ (by omega) (by omega) (by omega)
      exact lp1 zfu p1 x7 z5 hz5_0 hkpz5_me_machine ⟨by omega, by omega⟩ (by omega) (by omega) (by show _ < 100000; omega)

set_option maxHeartbeats 4000000 in
set_option maxRecDepth 100000 in
theorem s_X1_isBarred_Q (o_me : Ob) (o_me_isles : Ob) (o_me_isles_now : Ob) (o_me_machine : Ob) (o_pool : List CR) (p0 : Option Nat) (p1 : Int32) (p2 : Int32) (hI_me : IvX1 o_me) (hI_me_isles : IvX2 o_pool o_me_isles) (hI_me_isles_now : IvX4 o_me_isles_now) (hI_me_machine : IvX3 o_me_machine) (hI_pool : PLok o_pool) (po_p0 : zpo o_pool p0 = true) (q0 : 0 ≤ p1.toInt ∧ p1.toInt ≤ 6) (q1 : 0 ≤ p2.toInt ∧ p2.toInt ≤ 3) : wp (f_X1_isBarred_Q   o_me o_me_isles o_me_isles_now o_me_machine o_pool p0 p1 p2) (fun (y : Int32 × Ob) => (0 ≤ y.1.toInt ∧ y.1.toInt ≤ 1) ∧ IvX3 y.2 ∧ Kp [] [] [] o_me_machine y.2) := by
  have li0 : (-1 : Int32).toInt = (-1) := by decide
  have li1 : (-9000000000000000000 : Int64).toInt = (-9000000000000000000) := by decide
  have li2 : (0 : Int32).toInt = 0 := by decide
  have li3 : (1 : Int32).toInt = 1 := by decide
  have li4 : (3 : Int32).toInt = 3 := by decide
  unfold f_X1_isBarred_Q
  refine wp_bd (Q := fun (z9 : Int64 × Ob) => IvX3 z9.2 ∧ Kp [] [] [] o_me_machine z9.2) (wp_zop po_p0 ⟨(_, o_me_machine), rfl, hI_me_machine, Kp.rf⟩ (fun c9 hc9 => s_X1_told_O c9.2.2.2.1 c9.2.2.2.2.1 o_me o_me_isles o_me_isles_now o_me_machine c9.2.2.2.2.2 (3 : Int32) p1 p2 (-1 : Int32) hI_me hI_me_isles hI_me_isles_now hI_me_machine (hI_pool c9 hc9))) (fun z1 hz1 => ?_)
  obtain ⟨hz1_0, hz1_1⟩ := hz1
  have hkpz1 : Kp [] [] [] o_me_machine z1.2 := Kp.rf.trans (hz1_1.mono (by decide) (by decide) (by decide))
  refine wp_if (fun c2 => ?_) (fun c2 => ?_)
  · have c2 := cvl_eq (a := z1.1.toInt) (b := (-9000000000000000000)) rfl (by decide) c2
    refine wp_some ?_
    exact (show (0 ≤ (0 : Int32).toInt ∧ (0 : Int32).toInt ≤ 1) ∧ IvX3 z1.2 ∧ Kp [] [] [] o_me_machine z1.2 from ⟨⟨by decide, by decide⟩, hz1_0, hkpz1⟩)
  · have c2 := cvl_ne (a := z1.1.toInt) (b := (-9000000000000000000)) rfl (by decide) c2
    refine wp_some ?_
    exact (show (0 ≤ (1 : Int32).toInt ∧ (1 : Int32).toInt ≤ 1) ∧ IvX3 z1.2 ∧ Kp [] [] [] o_me_machine z1.2 from ⟨⟨by decide, by decide⟩, hz1_0, hkpz1⟩)

set_option maxHeartbeats 4000000 in
set_option maxRecDepth 100000 in
theorem s_X1_nearest (p0 : Int64) (p1 : Int32)  (q0 : 99 ≤ p1.toInt ∧ p1.toInt ≤ 99) : wp (f_X1_nearest   p0 p1) (fun (y : Int32) => (0 ≤ y.toInt ∧ y.toInt ≤ 99)) := by
  have li0 : (0 : Int64).toInt = 0 := by decide
  unfold f_X1_nearest
  have t1 : p1.toInt64.toInt = p1.toInt := Int32.toInt_toInt64 _
  have rg3 := i64_rg p0
  have t2 : (-9223372036854775808) ≤ (if p1.toInt64 < p0 then p1.toInt64 else p0).toInt ∧ (if p1.toInt64 < p0 then p1.toInt64 else p0).toInt ≤ 99 := z_minl (a := p0.toInt) (b := p1.toInt64.toInt) rfl rfl (by omega) (by omega)
  have t4 : 0 ≤ (if (if p1.toInt64 < p0 then p1.toInt64 else p0) < (0 : Int64) then (0 : Int64) else (if p1.toInt64 < p0 then p1.toInt64 else p0)).toInt ∧ (if (if p1.toInt64 < p0 then p1.toInt64 else p0) < (0 : Int64) then (0 : Int64) else (if p1.toInt64 < p0 then p1.toInt64 else p0)).toInt ≤ 99 := z_maxl (a := 0) (b := (if p1.toInt64 < p0 then p1.toInt64 else p0).toInt) (by decide) rfl (by omega) (by omega)
  have t5 : ((if (if p1.toInt64 < p0 then p1.toInt64 else p0) < (0 : Int64) then (0 : Int64) else (if p1.toInt64 < p0 then p1.toInt64 else p0)).toInt32).toInt = (if (if p1.toInt64 < p0 then p1.toInt64 else p0) < (0 : Int64) then (0 : Int64) else (if p1.toInt64 < p0 then p1.toInt64 else p0)).toInt := l2i_eq (by omega) (by omega)
  refine wp_some ?_
  exact (show (0 ≤ ((if (if p1.toInt64 < p0 then p1.toInt64 else p0) < (0 : Int64) then (0 : Int64) else (if p1.toInt64 < p0 then p1.toInt64 else p0)).toInt32).toInt ∧ ((if (if p1.toInt64 < p0 then p1.toInt64 else p0) < (0 : Int64) then (0 : Int64) else (if p1.toInt64 < p0 then p1.toInt64 else p0)).toInt32).toInt ≤ 99) from ⟨by omega, by omega⟩)

set_option maxHeartbeats 4000000 in
set_option maxRecDepth 100000 in
theorem s_X1_runsBy_Q (o_me : Ob) (o_me_isles : Ob) (o_me_isles_now : Ob) (o_me_machine : Ob) (o_pool : List CR) (p0 : Option Nat) (p1 : Int32) (p2 : Int32) (hI_me : IvX1 o_me) (hI_me_isles : IvX2 o_pool o_me_isles) (hI_me_isles_now : IvX4 o_me_isles_now) (hI_me_machine : IvX3 o_me_machine) (hI_pool : PLok o_pool) (po_p0 : zpo o_pool p0 = true) (q0 : 0 ≤ p1.toInt ∧ p1.toInt ≤ 6) (q1 : 0 ≤ p2.toInt ∧ p2.toInt ≤ 3) : wp (f_X1_runsBy_Q   o_me o_me_isles o_me_isles_now o_me_machine o_pool p0 p1 p2) (fun (y : Int32 × Ob) => IvX3 y.2 ∧ Kp [] [] [] o_me_machine y.2) := by
  have li0 : (-1 : Int32).toInt = (-1) := by decide
  have li1 : (-9000000000000000000 : Int64).toInt = (-9000000000000000000) := by decide
  have li2 : (0 : Int32).toInt = 0 := by decide
  have li3 : (4 : Int32).toInt = 4 := by decide
  have li4 : (99 : Int32).toInt = 99 := by decide
  unfold f_X1_runsBy_Q
  refine wp_bd (Q := fun (z9 : Int64 × Ob) => IvX3 z9.2 ∧ Kp [] [] [] o_me_machine z9.2) (wp_zop po_p0 ⟨(_, o_me_machine), rfl, hI_me_machine, Kp.rf⟩ (fun c9 hc9 => s_X1_told_O c9.2.2.2.1 c9.2.2.2.2.1 o_me o_me_isles o_me_isles_now o_me_machine c9.2.2.2.2.2 (0 : Int32) p1 p2 (-1 : Int32) hI_me hI_me_isles hI_me_isles_now hI_me_machine (hI_pool c9 hc9))) (fun z1 hz1 => ?_)
  obtain ⟨hz1_0, hz1_1⟩ := hz1
  have hkpz1 : Kp [] [] [] o_me_machine z1.2 := Kp.rf.trans (hz1_1.mono (by decide) (by decide) (by decide))
  refine wp_if (fun c2 => ?_) (fun c2 => ?_)
  · have c2 := cvl_eq (a := z1.1.toInt) (b := (-9000000000000000000)) rfl (by decide) c2
    have t3 : (p1 * (4 : Int32)).toInt = p1.toInt * 4 := i32_mul rfl (by decide) (by omega) (by omega)
    have t4 : ((p1 * (4 : Int32)) + p2).toInt = (p1 * (4 : Int32)).toInt + p2.toInt := i32_add rfl rfl (by omega) (by omega)
    refine wp_gd (zin_of (m := 28) rfl (by omega) (by omega)) ?_
    refine wp_some ?_
    exact (show IvX3 z1.2 ∧ Kp [] [] [] o_me_machine z1.2 from ⟨hz1_0, hkpz1⟩)
  · have c2 := cvl_ne (a := z1.1.toInt) (b := (-9000000000000000000)) rfl (by decide) c2
    refine wp_bd (s_X1_nearest   z1.1 (99 : Int32)    ⟨by decide, by decide⟩) (fun z5 hz5 => ?_)
    have hz5_0 := hz5
    refine wp_some ?_
    exact (show IvX3 z1.2 ∧ Kp [] [] [] o_me_machine z1.2 from ⟨hz1_0, hkpz1⟩)

set_option maxHeartbeats 4000000 in
set_option maxRecDepth 100000 in
theorem s_X7_setScores (o_me : Ob) (o_me_court : Ob) (o_me_court_isles : Ob) (o_me_court_isles_now : Ob) (o_me_court_machine : Ob) (o_pool : List CR) (p0 : Int32) (hI_me : IvX7 o_me) (hI_me_court : IvX1 o_me_court) (hI_me_court_isles : IvX2 o_pool o_me_court_isles) (hI_me_court_isles_now : IvX4 o_me_court_isles_now) (hI_me_court_machine : IvX3 o_me_court_machine) (hI_pool : PLok o_pool) (q0 : 0 ≤ p0.toInt ∧ p0.toInt ≤ 3) : wp (f_X7_setScores   o_me o_me_court o_me_court_isles o_me_court_isles_now o_me_court_machine o_pool p0) (fun (y : Ob × Ob) => IvX7 y.1 ∧ Kp [] [2, 3] [] o_me y.1 ∧ IvX3 y.2 ∧ Kp [] [] [] o_me_court_machine y.2) := by
  have li0 : (-1 : Int32).toInt = (-1) := by decide
  have li1 : (0 : Int32).toInt = 0 := by decide
  have li2 : (7 : Int32).toInt = 7 := by decide
  unfold f_X7_setScores
  refine wp_bd (s_X2_lawInForce   o_me_court_isles  hI_me_court_isles  ) (fun z1 hz1 => ?_)
  have hz1_0 := hz1
  have lp1 : ∀ (N1 : Nat) (v1_1 : Int32) (v2_1 : Option Nat) (v3_1 : Int32) (o_me_1 : Ob) (o_me_court_machine_1 : Ob), IvX7 o_me_1 → Kp [] [2, 3] [] o_me o_me_1 → IvX3 o_me_court_machine_1 → Kp [] [] [] o_me_court_machine o_me_court_machine_1 → zpo o_pool v2_1 = true → (0 ≤ v1_1.toInt ∧ v1_1.toInt ≤ 3) → (0 ≤ v3_1.toInt ∧ v3_1.toInt ≤ 7) → (v1_1.toInt ≤ p0.toInt + 0) → (p0.toInt ≤ v1_1.toInt + 0) → (7 - v3_1.toInt).toNat < N1 → wp (lp_X7_setScores_10 o_me_court o_me_court_isles o_me_court_isles_now o_pool  N1 (v1_1, v2_1, v3_1, o_me_1, o_me_court_machine_1)) (fun (y : Ob × Ob) => IvX7 y.1 ∧ Kp [] [2, 3] [] o_me y.1 ∧ IvX3 y.2 ∧ Kp [] [] [] o_me_court_machine y.2) := by
    intro N1
    induction N1 with
    | zero =>
      intro v1_1 v2_1 v3_1 o_me_1 o_me_court_machine_1 hI_me_1 hkp_me_1 hI_me_court_machine_1 hkp_me_court_machine_1 po_v2_1 hh2 hh3 hh4 hh5 hN1
      exact absurd hN1 (Nat.not_lt_zero _)
    | succ N1 ihx =>
      have ih1 := ihx
      intro v1_1 v2_1 v3_1 o_me_1 o_me_court_machine_1 hI_me_1 hkp_me_1 hI_me_court_machine_1 hkp_me_court_machine_1 po_v2_1 hh2 hh3 hh4 hh5 hN1
      show wp (lb_X7_setScores_10 o_me_court o_me_court_isles o_me_court_isles_now o_pool  (lp_X7_setScores_10 o_me_court o_me_court_isles o_me_court_isles_now o_pool  N1) v1_1 v2_1 v3_1 o_me_1 o_me_court_machine_1) (fun (y : Ob × Ob) => IvX7 y.1 ∧ Kp [] [2, 3] [] o_me y.1 ∧ IvX3 y.2 ∧ Kp [] [] [] o_me_court_machine y.2)
      unfold lb_X7_setScores_10
      have t6 := igX2_7 hI_me_court_isles
      refine wp_if (fun c7 => ?_) (fun c7 => ?_)
      · have c7 := cv_ge (a := v3_1.toInt) (b := (gI o_me_court_isles 7).toInt) rfl rfl c7
        refine wp_some ?_
        exact (show IvX7 o_me_1 ∧ Kp [] [2, 3] [] o_me o_me_1 ∧ IvX3 o_me_court_machine_1 ∧ Kp [] [] [] o_me_court_machine o_me_court_machine_1 from ⟨hI_me_1, hkp_me_1, hI_me_court_machine_1, hkp_me_court_machine_1⟩)
      · have c7 := cv_nge (a := v3_1.toInt) (b := (gI o_me_court_isles 7).toInt) rfl rfl c7
        have t8 : (v1_1 * (7 : Int32)).toInt = v1_1.toInt * 7 := i32_mul rfl (by decide) (by omega) (by omega)
        have t9 : ((v1_1 * (7 : Int32)) + v3_1).toInt = (v1_1 * (7 : Int32)).toInt + v3_1.toInt := i32_add rfl rfl (by omega) (by omega)
        refine wp_bd (s_X1_isBarred_Q   o_me_court o_me_court_isles o_me_court_isles_now o_me_court_machine_1 o_pool v2_1 v3_1 v1_1  hI_me_court hI_me_court_isles hI_me_court_isles_now hI_me_court_machine_1 hI_pool po_v2_1 ⟨by omega, by omega⟩ ⟨by omega, by omega⟩) (fun z10 hz10 => ?_)
        obtain ⟨hz10_0, hz10_1, hz10_2⟩ := hz10
        have hkpz10_me_court_machine : Kp [] [] [] o_me_court_machine z10.2 := hkp_me_court_machine_1.trans (hz10_2.mono (by decide) (by decide) (by decide))
        refine wp_if (fun c11 => ?_) (fun c11 => ?_)
        · have c11 := cv_eq (a := z10.1.toInt) (b := 0) rfl (by decide) c11
          refine wp_bd (s_X1_runsBy_Q   o_me_court o_me_court_isles o_me_court_isles_now z10.2 o_pool v2_1 v3_1 v1_1  hI_me_court hI_me_court_isles hI_me_court_isles_now hz10_1 hI_pool po_v2_1 ⟨by omega, by omega⟩ ⟨by omega, by omega⟩) (fun z12 hz12 => ?_)
          obtain ⟨hz12_0, hz12_1⟩ := hz12
          have hkpz12_me_court_machine : Kp [] [] [] o_me_court_machine z12.2 := hkpz10_me_court_machine.trans (hz12_1.mono (by decide) (by decide) (by decide))
          obtain ⟨w13, ew13⟩ : ∃ z : Int32, z = (v1_1 * (7 : Int32)) + v3_1 := ⟨_, rfl⟩
          have tw13 : w13.toInt = ((v1_1 * (7 : Int32)) + v3_1).toInt := by rw [ew13]
          rw [show bk_X7_setScores_58 o_me_court o_me_court_isles o_me_court_isles_now o_pool (lp_X7_setScores_10 o_me_court o_me_court_isles o_me_court_isles_now o_pool  N1) v1_1 v2_1 v3_1 z12.1 ((v1_1 * (7 : Int32)) + v3_1) o_me_1 z12.2 = bk_X7_setScores_58 o_me_court o_me_court_isles o_me_court_isles_now o_pool (lp_X7_setScores_10 o_me_court o_me_court_isles o_me_court_isles_now o_pool  N1) v1_1 v2_1 v3_1 z12.1 w13 o_me_1 z12.2 from by rw [ew13]]
          unfold bk_X7_setScores_58
          refine wp_gd (zin_of (m := 28) rfl (by omega) (by omega)) ?_
          refine wp_lt (fun o14 eo14 => ?_)
          have hIo14 : IvX7 o14 := by rw [eo14]; exact hI_me_1
          have ko14_v : (gA o14 5 w13.toNatClampNeg).toInt = z12.1.toInt := by rw [eo14]; exact congrArg Int32.toInt (upd_eq (g := gA o_me_1 5) (i := w13) (v := z12.1))
          have hkpo14 : Kp [] [2, 3] [] o_me o14 := hkp_me_1.trans (by rw [eo14]; exact Kp.tA (by decide) (by decide))
          refine wp_lt (fun x15 ex15 => ?_)
          have tx15 : x15.toInt = v3_1.toInt + 1 := by rw [ex15]; exact i32_add rfl (by decide) (by omega) (by omega)
          exact ih1 v1_1 v2_1 x15 o14 z12.2 hIo14 hkpo14 hz12_0 hkpz12_me_court_machine po_v2_1 ⟨by omega, by omega⟩ ⟨by omega, by omega⟩ (by omega) (by omega) (by omega)
        · have c11z := c11
          have c11 := cv_ne (a := z10.1.toInt) (b := 0) rfl (by decide) c11
          obtain ⟨w16, ew16⟩ : ∃ z : Int32, z = (-1 : Int32) := ⟨_, rfl⟩
          have tw16 : w16.toInt = (-1) := by rw [ew16]; decide
          obtain ⟨w17, ew17⟩ : ∃ z : Int32, z = (v1_1 * (7 : Int32)) + v3_1 := ⟨_, rfl⟩
          have tw17 : w17.toInt = ((v1_1 * (7 : Int32)) + v3_1).toInt := by rw [ew17]
          rw [show bk_X7_setScores_58 o_me_court o_me_court_isles o_me_court_isles_now o_pool (lp_X7_setScores_10 o_me_court o_me_court_isles o_me_court_isles_now o_pool  N1) v1_1 v2_1 v3_1 (-1 : Int32) ((v1_1 * (7 : Int32)) + v3_1) o_me_1 z10.2 = bk_X7_setScores_58 o_me_court o_me_court_isles o_me_court_isles_now o_pool (lp_X7_setScores_10 o_me_court o_me_court_isles o_me_court_isles_now o_pool  N1) v1_1 v2_1 v3_1 w16 w17 o_me_1 z10.2 from by rw [ew16, ew17]]
          unfold bk_X7_setScores_58
          refine wp_gd (zin_of (m := 28) rfl (by omega) (by omega)) ?_
          refine wp_lt (fun o18 eo18 => ?_)
          have hIo18 : IvX7 o18 := by rw [eo18]; exact hI_me_1
          have ko18_v : (gA o18 5 w17.toNatClampNeg).toInt = w16.toInt := by rw [eo18]; exact congrArg Int32.toInt (upd_eq (g := gA o_me_1 5) (i := w17) (v := w16))
          have hkpo18 : Kp [] [2, 3] [] o_me o18 := hkp_me_1.trans (by rw [eo18]; exact Kp.tA (by decide) (by decide))
          refine wp_lt (fun x19 ex19 => ?_)
          have tx19 : x19.toInt = v3_1.toInt + 1 := by rw [ex19]; exact i32_add rfl (by decide) (by omega) (by omega)
          exact ih1 v1_1 v2_1 x19 o18 z10.2 hIo18 hkpo18 hz10_1 hkpz10_me_court_machine po_v2_1 ⟨by omega, by omega⟩ ⟨by omega, by omega⟩ (by omega) (by omega) (by omega)
  exact lp1 zfu p0 z1 (0 : Int32) o_me o_me_court_machine hI_me Kp.rf hI_me_court_machine Kp.rf hz1_0 ⟨by omega, by omega⟩ ⟨by decide, by decide⟩ (by omega) (by omega) (by show _ < 100000; omega)

set_option maxHeartbeats 4000000 in
set_option maxRecDepth 100000 in
theorem s_X7_aheadOf {pl : List CR} (o_me : Ob) (o_me_court_isles : Ob) (p0 : Int32) (p1 : Int32) (hI_me : IvX7 o_me) (hI_me_court_isles : IvX2 pl o_me_court_isles) (q0 : 0 ≤ p0.toInt ∧ p0.toInt ≤ 6) (q1 : 0 ≤ p1.toInt ∧ p1.toInt ≤ 3) : wp (f_X7_aheadOf   o_me o_me_court_isles p0 p1) (fun (y : Int32) => (0 ≤ y.toInt ∧ y.toInt ≤ 127)) := by
  have li0 : (-1 : Int32).toInt = (-1) := by decide
  have li1 : (0 : Int32).toInt = 0 := by decide
  have li2 : (1 : Int32).toInt = 1 := by decide
  have li3 : (7 : Int32).toInt = 7 := by decide
  unfold f_X7_aheadOf
  have t1 : (p1 * (7 : Int32)).toInt = p1.toInt * 7 := i32_mul rfl (by decide) (by omega) (by omega)
  have t2 : ((p1 * (7 : Int32)) + p0).toInt = (p1 * (7 : Int32)).toInt + p0.toInt := i32_add rfl rfl (by omega) (by omega)
  refine wp_gd (zin_of (m := 28) rfl (by omega) (by omega)) ?_
  refine wp_lt (fun x3 ex3 => ?_)
  have tx3 : x3.toInt = (gA o_me 5 ((p1 * (7 : Int32)) + p0).toNatClampNeg).toInt := by rw [ex3]
  have lp1 : ∀ (N1 : Nat) (v1_1 : Int32) (v2_1 : Int32) (v3_1 : Int32) (v4_1 : Int32) (v5_1 : Int32), (0 ≤ v1_1.toInt ∧ v1_1.toInt ≤ 6) → (0 ≤ v2_1.toInt ∧ v2_1.toInt ≤ 3) → (0 ≤ v4_1.toInt ∧ v4_1.toInt ≤ 127) → (0 ≤ v5_1.toInt ∧ v5_1.toInt ≤ 7) → (v1_1.toInt ≤ p0.toInt + 0) → (p0.toInt ≤ v1_1.toInt + 0) → (v2_1.toInt ≤ p1.toInt + 0) → (p1.toInt ≤ v2_1.toInt + 0) → (v3_1.toInt ≤ x3.toInt + 0) → (x3.toInt ≤ v3_1.toInt + 0) → (7 - v5_1.toInt).toNat < N1 → wp (lp_X7_aheadOf_18 o_me o_me_court_isles  N1 (v1_1, v2_1, v3_1, v4_1, v5_1)) (fun (y : Int32) => (0 ≤ y.toInt ∧ y.toInt ≤ 127)) := by
    intro N1
    induction N1 with
    | zero =>
      intro v1_1 v2_1 v3_1 v4_1 v5_1 hh4 hh5 hh6 hh7 hh8 hh9 hh10 hh11 hh12 hh13 hN1
      exact absurd hN1 (Nat.not_lt_zero _)
    | succ N1 ihx =>
      have ih1 := ihx
      intro v1_1 v2_1 v3_1 v4_1 v5_1 hh4 hh5 hh6 hh7 hh8 hh9 hh10 hh11 hh12 hh13 hN1
      show wp (lb_X7_aheadOf_18 o_me o_me_court_isles  (lp_X7_aheadOf_18 o_me o_me_court_isles  N1) v1_1 v2_1 v3_1 v4_1 v5_1) (fun (y : Int32) => (0 ≤ y.toInt ∧ y.toInt ≤ 127))
      unfold lb_X7_aheadOf_18
      have t14 := igX2_7 hI_me_court_isles
      refine wp_if (fun c15 => ?_) (fun c15 => ?_)
      · have c15 := cv_ge (a := v5_1.toInt) (b := (gI o_me_court_isles 7).toInt) rfl rfl c15
        refine wp_some ?_
        exact (show (0 ≤ v4_1.toInt ∧ v4_1.toInt ≤ 127) from ⟨by omega, by omega⟩)
      · have c15 := cv_nge (a := v5_1.toInt) (b := (gI o_me_court_isles 7).toInt) rfl rfl c15
        have t16 : (v2_1 * (7 : Int32)).toInt = v2_1.toInt * 7 := i32_mul rfl (by decide) (by omega) (by omega)
        have t17 : ((v2_1 * (7 : Int32)) + v5_1).toInt = (v2_1 * (7 : Int32)).toInt + v5_1.toInt := i32_add rfl rfl (by omega) (by omega)
        refine wp_gd (zin_of (m := 28) rfl (by omega) (by omega)) ?_
        refine wp_lt (fun x18 ex18 => ?_)
        have tx18 : x18.toInt = (gA o_me 5 ((v2_1 * (7 : Int32)) + v5_1).toNatClampNeg).toInt := by rw [ex18]
        refine wp_if (fun c19 => ?_) (fun c19 => ?_)
        · have c19 := cv_eq (a := x18.toInt) (b := (-1)) rfl (by decide) c19
          unfold bk_X7_aheadOf_77
          refine wp_lt (fun x20 ex20 => ?_)
          have tx20 : x20.toInt = v5_1.toInt + 1 := by rw [ex20]; exact i32_add rfl (by decide) (by omega) (by omega)
          exact ih1 v1_1 v2_1 v3_1 v4_1 x20  ⟨by omega, by omega⟩ ⟨by omega, by omega⟩ ⟨by omega, by omega⟩ ⟨by omega, by omega⟩ (by omega) (by omega) (by omega) (by omega) (by omega) (by omega) (by omega)
        · have c19 := cv_ne (a := x18.toInt) (b := (-1)) rfl (by decide) c19
          have rg22 := i32_rg x18
          have rg23 := i32_rg v3_1
          refine wp_if (fun c21 => ?_) (fun c21 => ?_)
          · have c21 := cv_gt (a := x18.toInt) (b := v3_1.toInt) rfl rfl c21
            unfold bk_X7_aheadOf_68
            have t24 : 1 ≤ ((1 : Int32) <<< (v5_1 &&& 31)).toInt ∧ ((1 : Int32) <<< (v5_1 &&& 31)).toInt ≤ 64 := i32_shl6 (p := v5_1) (by omega) (by omega)
            have t25 := i32_or7 (x := v4_1) (y := (1 : Int32) <<< (v5_1 &&& 31)) ⟨by omega, by omega⟩ ⟨by omega, by omega⟩
            refine wp_lt (fun x26 ex26 => ?_)
            have tx26 : x26.toInt = (v4_1 ||| ((1 : Int32) <<< (v5_1 &&& 31))).toInt := by rw [ex26]
            unfold bk_X7_aheadOf_77
            refine wp_lt (fun x27 ex27 => ?_)
            have tx27 : x27.toInt = v5_1.toInt + 1 := by rw [ex27]; exact i32_add rfl (by decide) (by omega) (by omega)
            exact ih1 v1_1 v2_1 v3_1 x26 x27  ⟨by omega, by omega⟩ ⟨by omega, by omega⟩ ⟨by omega, by omega⟩ ⟨by omega, by omega⟩ (by omega) (by omega) (by omega) (by omega) (by omega) (by omega) (by omega)
          · have c21 := cv_ngt (a := x18.toInt) (b := v3_1.toInt) rfl rfl c21
            refine wp_if (fun c28 => ?_) (fun c28 => ?_)
            · have c28 := cv_eq (a := x18.toInt) (b := v3_1.toInt) rfl rfl c28
              refine wp_if (fun c29 => ?_) (fun c29 => ?_)
              · have c29 := cv_ge (a := v5_1.toInt) (b := v1_1.toInt) rfl rfl c29
                unfold bk_X7_aheadOf_77
                refine wp_lt (fun x30 ex30 => ?_)
                have tx30 : x30.toInt = v5_1.toInt + 1 := by rw [ex30]; exact i32_add rfl (by decide) (by omega) (by omega)
                exact ih1 v1_1 v2_1 v3_1 v4_1 x30  ⟨by omega, by omega⟩ ⟨by omega, by omega⟩ ⟨by omega, by omega⟩ ⟨by omega, by omega⟩ (by omega) (by omega) (by omega) (by omega) (by omega) (by omega) (by omega)
              · have c29 := cv_nge (a := v5_1.toInt) (b := v1_1.toInt) rfl rfl c29
                unfold bk_X7_aheadOf_68
                have t31 : 1 ≤ ((1 : Int32) <<< (v5_1 &&& 31)).toInt ∧ ((1 : Int32) <<< (v5_1 &&& 31)).toInt ≤ 64 := i32_shl6 (p := v5_1) (by omega) (by omega)
                have t32 := i32_or7 (x := v4_1) (y := (1 : Int32) <<< (v5_1 &&& 31)) ⟨by omega, by omega⟩ ⟨by omega, by omega⟩
                refine wp_lt (fun x33 ex33 => ?_)
                have tx33 : x33.toInt = (v4_1 ||| ((1 : Int32) <<< (v5_1 &&& 31))).toInt := by rw [ex33]
                unfold bk_X7_aheadOf_77
                refine wp_lt (fun x34 ex34 => ?_)
                have tx34 : x34.toInt = v5_1.toInt + 1 := by rw [ex34]; exact i32_add rfl (by decide) (by omega) (by omega)
                exact ih1 v1_1 v2_1 v3_1 x33 x34  ⟨by omega, by omega⟩ ⟨by omega, by omega⟩ ⟨by omega, by omega⟩ ⟨by omega, by omega⟩ (by omega) (by omega) (by omega) (by omega) (by omega) (by omega) (by omega)
            · have c28 := cv_ne (a := x18.toInt) (b := v3_1.toInt) rfl rfl c28
              unfold bk_X7_aheadOf_77
              refine wp_lt (fun x35 ex35 => ?_)
              have tx35 : x35.toInt = v5_1.toInt + 1 := by rw [ex35]; exact i32_add rfl (by decide) (by omega) (by omega)
              exact ih1 v1_1 v2_1 v3_1 v4_1 x35  ⟨by omega, by omega⟩ ⟨by omega, by omega⟩ ⟨by omega, by omega⟩ ⟨by omega, by omega⟩ (by omega) (by omega) (by omega) (by omega) (by omega) (by omega) (by omega)
  exact lp1 zfu p0 p1 x3 (0 : Int32) (0 : Int32)  ⟨by omega, by omega⟩ ⟨by omega, by omega⟩ ⟨by decide, by decide⟩ ⟨by decide, by decide⟩ (by omega) (by omega) (by omega) (by omega) (by omega) (by omega) (by show _ < 100000; omega)

set_option maxHeartbeats 4000000 in
set_option maxRecDepth 100000 in
theorem s_J6_bitCount_0f7a4 (p0 : Int32)   : wp (f_J6_bitCount_0f7a4   p0) (fun (y : Int32) => (0 ≤ y.toInt ∧ y.toInt ≤ 63)) := by
  have li0 : (1 : Int32).toInt = 1 := by decide
  have li1 : (1431655765 : Int32).toInt = 1431655765 := by decide
  have li2 : (16 : Int32).toInt = 16 := by decide
  have li3 : (2 : Int32).toInt = 2 := by decide
  have li4 : (252645135 : Int32).toInt = 252645135 := by decide
  have li5 : (4 : Int32).toInt = 4 := by decide
  have li6 : (63 : Int32).toInt = 63 := by decide
  have li7 : (8 : Int32).toInt = 8 := by decide
  have li8 : (858993459 : Int32).toInt = 858993459 := by decide
  unfold f_J6_bitCount_0f7a4
  have t1 := i32_and (x := (p0.toUInt32 >>> ((1 : Int32).toUInt32 &&& Int32.toUInt32 31)).toInt32) (y := (1431655765 : Int32)) (m := 1431655765) ⟨by decide, by decide⟩
  refine wp_lt (fun x2 ex2 => ?_)
  have tx2 : x2.toInt = (p0 - (((p0.toUInt32 >>> ((1 : Int32).toUInt32 &&& Int32.toUInt32 31)).toInt32) &&& (1431655765 : Int32))).toInt := by rw [ex2]
  have t3 := i32_and (x := x2) (y := (858993459 : Int32)) (m := 858993459) ⟨by decide, by decide⟩
  have t4 := i32_and (x := (x2.toUInt32 >>> ((2 : Int32).toUInt32 &&& Int32.toUInt32 31)).toInt32) (y := (858993459 : Int32)) (m := 858993459) ⟨by decide, by decide⟩
  have t5 : ((x2 &&& (858993459 : Int32)) + (((x2.toUInt32 >>> ((2 : Int32).toUInt32 &&& Int32.toUInt32 31)).toInt32) &&& (858993459 : Int32))).toInt = (x2 &&& (858993459 : Int32)).toInt + (((x2.toUInt32 >>> ((2 : Int32).toUInt32 &&& Int32.toUInt32 31)).toInt32) &&& (858993459 : Int32)).toInt := i32_add rfl rfl (by omega) (by omega)
  refine wp_lt (fun x6 ex6 => ?_)
  have tx6 : x6.toInt = ((x2 &&& (858993459 : Int32)) + (((x2.toUInt32 >>> ((2 : Int32).toUInt32 &&& Int32.toUInt32 31)).toInt32) &&& (858993459 : Int32))).toInt := by rw [ex6]
  have t7 := i32_and (x := x6 + ((x6.toUInt32 >>> ((4 : Int32).toUInt32 &&& Int32.toUInt32 31)).toInt32)) (y := (252645135 : Int32)) (m := 252645135) ⟨by decide, by decide⟩
  refine wp_lt (fun x8 ex8 => ?_)
  have tx8 : x8.toInt = ((x6 + ((x6.toUInt32 >>> ((4 : Int32).toUInt32 &&& Int32.toUInt32 31)).toInt32)) &&& (252645135 : Int32)).toInt := by rw [ex8]
  refine wp_lt (fun x9 ex9 => ?_)
  have tx9 : x9.toInt = (x8 + ((x8.toUInt32 >>> ((8 : Int32).toUInt32 &&& Int32.toUInt32 31)).toInt32)).toInt := by rw [ex9]
  refine wp_lt (fun x10 ex10 => ?_)
  have tx10 : x10.toInt = (x9 + ((x9.toUInt32 >>> ((16 : Int32).toUInt32 &&& Int32.toUInt32 31)).toInt32)).toInt := by rw [ex10]
  have t11 := i32_and (x := x10) (y := (63 : Int32)) (m := 63) ⟨by decide, by decide⟩
  refine wp_some ?_
  exact (show (0 ≤ (x10 &&& (63 : Int32)).toInt ∧ (x10 &&& (63 : Int32)).toInt ≤ 63) from ⟨by omega, by omega⟩)

set_option maxHeartbeats 4000000 in
set_option maxRecDepth 100000 in
theorem s_X7_lowestBits (p0 : Int32) (p1 : Int32)  (q0 : (-64) ≤ p1.toInt ∧ p1.toInt ≤ 64) : wp (f_X7_lowestBits   p0 p1) (fun (y : Int32) => True) := by
  have li0 : (-1 : Int32).toInt = (-1) := by decide
  have li1 : (0 : Int32).toInt = 0 := by decide
  have li2 : (1 : Int32).toInt = 1 := by decide
  unfold f_X7_lowestBits
  have lp1 : ∀ (N1 : Nat) (v1_1 : Int32) (v2_1 : Int32) (v3_1 : Int32) (v4_1 : Int32), ((-64) ≤ v1_1.toInt ∧ v1_1.toInt ≤ 64) → (0 ≤ v4_1.toInt ∧ v4_1.toInt ≤ 64) → (v1_1.toInt ≤ p1.toInt + 0) → (p1.toInt ≤ v1_1.toInt + 0) → (64 - v4_1.toInt).toNat < N1 → wp (lp_X7_lowestBits_7   N1 (v1_1, v2_1, v3_1, v4_1)) (fun (y : Int32) => True) := by
    intro N1
    induction N1 with
    | zero =>
      intro v1_1 v2_1 v3_1 v4_1 hh1 hh2 hh3 hh4 hN1
      exact absurd hN1 (Nat.not_lt_zero _)
    | succ N1 ihx =>
      have ih1 := ihx
      intro v1_1 v2_1 v3_1 v4_1 hh1 hh2 hh3 hh4 hN1
      show wp (lb_X7_lowestBits_7   (lp_X7_lowestBits_7   N1) v1_1 v2_1 v3_1 v4_1) (fun (y : Int32) => True)
      unfold lb_X7_lowestBits_7
      refine wp_if (fun c5 => ?_) (fun c5 => ?_)
      · have c5 := cv_ge (a := v4_1.toInt) (b := v1_1.toInt) rfl rfl c5
        refine wp_some ?_
        exact trivial
      · have c5 := cv_nge (a := v4_1.toInt) (b := v1_1.toInt) rfl rfl c5
        refine wp_if (fun c6 => ?_) (fun c6 => ?_)
        · have c6 := cv_eq (a := v3_1.toInt) (b := 0) rfl (by decide) c6
          refine wp_some ?_
          exact trivial
        · have c6z := c6
          have c6 := cv_ne (a := v3_1.toInt) (b := 0) rfl (by decide) c6
          refine wp_lt (fun x7 ex7 => ?_)
          have tx7 : x7.toInt = (v2_1 ||| (v3_1 &&& (-v3_1))).toInt := by rw [ex7]
          have t8 := i32_subw (x := v3_1) (y := (1 : Int32)) (b := 1) (by decide) (by decide)
          have rg9 := i32_rg v3_1
          refine wp_lt (fun x10 ex10 => ?_)
          have tx10 : x10.toInt = (v3_1 &&& (v3_1 - (1 : Int32))).toInt := by rw [ex10]
          refine wp_lt (fun x11 ex11 => ?_)
          have tx11 : x11.toInt = v4_1.toInt + 1 := by rw [ex11]; exact i32_add rfl (by decide) (by omega) (by omega)
          exact ih1 v1_1 x7 x10 x11  ⟨by omega, by omega⟩ ⟨by omega, by omega⟩ (by omega) (by omega) (by omega)
  exact lp1 zfu p1 (0 : Int32) p0 (0 : Int32)  ⟨by omega, by omega⟩ ⟨by decide, by decide⟩ (by omega) (by omega) (by show _ < 100000; omega)

set_option maxHeartbeats 4000000 in
set_option maxRecDepth 100000 in
theorem s_X7_changedEntries (o_me : Ob) (o_me_court : Ob) (o_me_court_isles : Ob) (o_me_court_isles_now : Ob) (o_me_court_machine : Ob) (o_pool : List CR) (p0 : Int32) (p1 : Int32) (p2 : Int32) (hI_me : IvX7 o_me) (hI_me_court : IvX1 o_me_court) (hI_me_court_isles : IvX2 o_pool o_me_court_isles) (hI_me_court_isles_now : IvX4 o_me_court_isles_now) (hI_me_court_machine : IvX3 o_me_court_machine) (hI_pool : PLok o_pool) (q0 : 0 ≤ p0.toInt ∧ p0.toInt ≤ 6) (q1 : 0 ≤ p1.toInt ∧ p1.toInt ≤ 3) (q2 : 1 ≤ p2.toInt ∧ p2.toInt ≤ 7) : wp (f_X7_changedEntries   o_me o_me_court o_me_court_isles o_me_court_isles_now o_me_court_machine o_pool p0 p1 p2) (fun (y : Int32 × Ob × Ob) => IvX7 y.2.1 ∧ Kp [] [2, 3] [] o_me y.2.1 ∧ IvX3 y.2.2 ∧ Kp [] [] [] o_me_court_machine y.2.2) := by
  have li0 : (-1 : Int32).toInt = (-1) := by decide
  have li1 : (1 : Int32).toInt = 1 := by decide
  have li2 : (7 : Int32).toInt = 7 := by decide
  unfold f_X7_changedEntries
  refine wp_bd (s_X7_setScores   o_me o_me_court o_me_court_isles o_me_court_isles_now o_me_court_machine o_pool p1  hI_me hI_me_court hI_me_court_isles hI_me_court_isles_now hI_me_court_machine hI_pool  ⟨by omega, by omega⟩) (fun z1 hz1 => ?_)
  obtain ⟨hz1_0, hz1_1, hz1_2, hz1_3⟩ := hz1
  have hkpz1_me : Kp [] [2, 3] [] o_me z1.1 := Kp.rf.trans (hz1_1.mono (by decide) (by decide) (by decide))
  have hkpz1_me_court_machine : Kp [] [] [] o_me_court_machine z1.2 := Kp.rf.trans (hz1_3.mono (by decide) (by decide) (by decide))
  have t2 : (p1 * (7 : Int32)).toInt = p1.toInt * 7 := i32_mul rfl (by decide) (by omega) (by omega)
  have t3 : ((p1 * (7 : Int32)) + p0).toInt = (p1 * (7 : Int32)).toInt + p0.toInt := i32_add rfl rfl (by omega) (by omega)
  refine wp_gd (zin_of (m := 28) rfl (by omega) (by omega)) ?_
  refine wp_if (fun c4 => ?_) (fun c4 => ?_)
  · have c4 := cv_eq (a := (gA z1.1 5 ((p1 * (7 : Int32)) + p0).toNatClampNeg).toInt) (b := (-1)) rfl (by decide) c4
    refine wp_some ?_
    exact (show IvX7 z1.1 ∧ Kp [] [2, 3] [] o_me z1.1 ∧ IvX3 z1.2 ∧ Kp [] [] [] o_me_court_machine z1.2 from ⟨hz1_0, hkpz1_me, hz1_2, hkpz1_me_court_machine⟩)
  · have c4 := cv_ne (a := (gA z1.1 5 ((p1 * (7 : Int32)) + p0).toNatClampNeg).toInt) (b := (-1)) rfl (by decide) c4
    refine wp_bd (s_X7_aheadOf   z1.1 o_me_court_isles p0 p1  hz1_0 hI_me_court_isles  ⟨by omega, by omega⟩ ⟨by omega, by omega⟩) (fun z5 hz5 => ?_)
    have hz5_0 := hz5
    refine wp_lt (fun x6 ex6 => ?_)
    have tx6 : x6.toInt = (z5 &&& (gI o_me_court_isles_now 2)).toInt := by rw [ex6]
    refine wp_bd (s_J6_bitCount_0f7a4   x6    ) (fun z7 hz7 => ?_)
    have hz7_0 := hz7
    have t8 : (p2 - (1 : Int32)).toInt = p2.toInt - 1 := i32_sub rfl (by decide) (by omega) (by omega)
    have t9 : (z7 - (p2 - (1 : Int32))).toInt = z7.toInt - (p2 - (1 : Int32)).toInt := i32_sub rfl rfl (by omega) (by omega)
    refine wp_lt (fun x10 ex10 => ?_)
    have tx10 : x10.toInt = (z7 - (p2 - (1 : Int32))).toInt := by rw [ex10]
    refine wp_if (fun c11 => ?_) (fun c11 => ?_)
    · have c11 := cv_lt (a := x10.toInt) (b := 0) rfl (by decide) c11
      have t12 : (-x10).toInt = -x10.toInt := i32_neg rfl (by omega) (by omega)
      refine wp_bd (s_X7_lowestBits   (z5 &&& ((gI o_me_court_isles_now 2) ^^^ (-1 : Int32))) (-x10)    ⟨by omega, by omega⟩) (fun z13 hz13 => ?_)
      refine wp_some ?_
      exact (show IvX7 z1.1 ∧ Kp [] [2, 3] [] o_me z1.1 ∧ IvX3 z1.2 ∧ Kp [] [] [] o_me_court_machine z1.2 from ⟨hz1_0, hkpz1_me, hz1_2, hkpz1_me_court_machine⟩)
    · have c11 := cv_nlt (a := x10.toInt) (b := 0) rfl (by decide) c11
      refine wp_bd (s_X7_lowestBits   x6 x10    ⟨by omega, by omega⟩) (fun z14 hz14 => ?_)
      refine wp_some ?_
      exact (show IvX7 z1.1 ∧ Kp [] [2, 3] [] o_me z1.1 ∧ IvX3 z1.2 ∧ Kp [] [] [] o_me_court_machine z1.2 from ⟨hz1_0, hkpz1_me, hz1_2, hkpz1_me_court_machine⟩)

set_option maxHeartbeats 4000000 in
set_option maxRecDepth 100000 in
theorem s_X8_be {rI : Nat → Option Nat} (o_me : Ob) (o_me_machine : Ob) (o_me_isles : Ob) (o_me_isles_now : Ob) (o_me_court : Ob) (o_me_study : Ob) (o_pool : List CR) (p0 : Int32) (p1 : Int32) (p2 : Int32) (p3 : Int32) (hI_me : IvX8 rI o_me) (hI_me_machine : IvX3 o_me_machine) (hI_me_isles : IvX2 o_pool o_me_isles) (hI_me_isles_now : IvX4 o_me_isles_now) (hI_me_court : IvX1 o_me_court) (hI_me_study : IvX7 o_me_study) (hI_pool : PLok o_pool)  : wp (f_X8_be   o_me o_me_machine o_me_isles o_me_isles_now o_me_court o_me_study o_pool p0 p1 p2 p3) (fun (y : Int32 × Ob × Ob) => IvX3 y.2.1 ∧ Kp [] [] [] o_me_machine y.2.1 ∧ IvX7 y.2.2 ∧ Kp [] [2, 3] [] o_me_study y.2.2) := by
  have li0 : (-1 : Int32).toInt = (-1) := by decide
  have li1 : (1 : Int32).toInt = 1 := by decide
  have li2 : (7 : Int32).toInt = 7 := by decide
  unfold f_X8_be
  refine wp_bd (s_X2_isPerson   o_me_isles p0  hI_me_isles  ) (fun z1 hz1 => ?_)
  obtain ⟨hz1_0, hz1_1⟩ := hz1
  refine wp_if (fun c2 => ?_) (fun c2 => ?_)
  · have c2 := cv_eq (a := z1.toInt) (b := 0) rfl (by decide) c2
    refine wp_some ?_
    exact (show IvX3 o_me_machine ∧ Kp [] [] [] o_me_machine o_me_machine ∧ IvX7 o_me_study ∧ Kp [] [2, 3] [] o_me_study o_me_study from ⟨hI_me_machine, Kp.rf, hI_me_study, Kp.rf⟩)
  · have c2z := c2
    have c2i := hz1_1 c2
    have c2 := cv_ne (a := z1.toInt) (b := 0) rfl (by decide) c2
    refine wp_bd (s_X8_isRace   p1    ) (fun z3 hz3 => ?_)
    obtain ⟨hz3_0, hz3_1⟩ := hz3
    refine wp_if (fun c4 => ?_) (fun c4 => ?_)
    · have c4 := cv_eq (a := z3.toInt) (b := 0) rfl (by decide) c4
      refine wp_some ?_
      exact (show IvX3 o_me_machine ∧ Kp [] [] [] o_me_machine o_me_machine ∧ IvX7 o_me_study ∧ Kp [] [2, 3] [] o_me_study o_me_study from ⟨hI_me_machine, Kp.rf, hI_me_study, Kp.rf⟩)
    · have c4z := c4
      have c4i := hz3_1 c4
      have c4 := cv_ne (a := z3.toInt) (b := 0) rfl (by decide) c4
      refine wp_if (fun c5 => ?_) (fun c5 => ?_)
      · have c5 := cv_lt (a := p2.toInt) (b := 1) rfl (by decide) c5
        refine wp_some ?_
        exact (show IvX3 o_me_machine ∧ Kp [] [] [] o_me_machine o_me_machine ∧ IvX7 o_me_study ∧ Kp [] [2, 3] [] o_me_study o_me_study from ⟨hI_me_machine, Kp.rf, hI_me_study, Kp.rf⟩)
      · have c5 := cv_nlt (a := p2.toInt) (b := 1) rfl (by decide) c5
        refine wp_if (fun c6 => ?_) (fun c6 => ?_)
        · have c6 := cv_gt (a := p2.toInt) (b := 7) rfl (by decide) c6
          refine wp_some ?_
          exact (show IvX3 o_me_machine ∧ Kp [] [] [] o_me_machine o_me_machine ∧ IvX7 o_me_study ∧ Kp [] [2, 3] [] o_me_study o_me_study from ⟨hI_me_machine, Kp.rf, hI_me_study, Kp.rf⟩)
        · have c6 := cv_ngt (a := p2.toInt) (b := 7) rfl (by decide) c6
          refine wp_if (fun c7 => ?_) (fun c7 => ?_)
          · have c7 := cv_lt (a := p3.toInt) (b := 0) rfl (by decide) c7
            refine wp_some ?_
            exact (show IvX3 o_me_machine ∧ Kp [] [] [] o_me_machine o_me_machine ∧ IvX7 o_me_study ∧ Kp [] [2, 3] [] o_me_study o_me_study from ⟨hI_me_machine, Kp.rf, hI_me_study, Kp.rf⟩)
          · have c7 := cv_nlt (a := p3.toInt) (b := 0) rfl (by decide) c7
            refine wp_if (fun c8 => ?_) (fun c8 => ?_)
            · have c8 := cv_le (a := p3.toInt) (b := 1) rfl (by decide) c8
              refine wp_bd (s_X7_changedEntries   o_me_study o_me_court o_me_isles o_me_isles_now o_me_machine o_pool p0 p1 p2  hI_me_study hI_me_court hI_me_isles hI_me_isles_now hI_me_machine hI_pool  ⟨by omega, by omega⟩ ⟨by omega, by omega⟩ ⟨by omega, by omega⟩) (fun z9 hz9 => ?_)
              obtain ⟨hz9_0, hz9_1, hz9_2, hz9_3⟩ := hz9
              have hkpz9_me_study : Kp [] [2, 3] [] o_me_study z9.2.1 := Kp.rf.trans (hz9_1.mono (by decide) (by decide) (by decide))
              have hkpz9_me_machine : Kp [] [] [] o_me_machine z9.2.2 := Kp.rf.trans (hz9_3.mono (by decide) (by decide) (by decide))
              refine wp_if (fun c10 => ?_) (fun c10 => ?_)
              · have c10 := cv_eq (a := p3.toInt) (b := 1) rfl (by decide) c10
                unfold bk_X8_be_66
                refine wp_some ?_
                exact (show IvX3 z9.2.2 ∧ Kp [] [] [] o_me_machine z9.2.2 ∧ IvX7 z9.2.1 ∧ Kp [] [2, 3] [] o_me_study z9.2.1 from ⟨hz9_2, hkpz9_me_machine, hz9_0, hkpz9_me_study⟩)
              · have c10 := cv_ne (a := p3.toInt) (b := 1) rfl (by decide) c10
                refine wp_if (fun c11 => ?_) (fun c11 => ?_)
                · have c11 := cv_eq (a := z9.1.toInt) (b := (-1)) rfl (by decide) c11
                  unfold bk_X8_be_66
                  refine wp_some ?_
                  exact (show IvX3 z9.2.2 ∧ Kp [] [] [] o_me_machine z9.2.2 ∧ IvX7 z9.2.1 ∧ Kp [] [2, 3] [] o_me_study z9.2.1 from ⟨hz9_2, hkpz9_me_machine, hz9_0, hkpz9_me_study⟩)
                · have c11 := cv_ne (a := z9.1.toInt) (b := (-1)) rfl (by decide) c11
                  refine wp_bd (s_J6_bitCount_0f7a4   z9.1    ) (fun z12 hz12 => ?_)
                  have hz12_0 := hz12
                  refine wp_some ?_
                  exact (show IvX3 z9.2.2 ∧ Kp [] [] [] o_me_machine z9.2.2 ∧ IvX7 z9.2.1 ∧ Kp [] [2, 3] [] o_me_study z9.2.1 from ⟨hz9_2, hkpz9_me_machine, hz9_0, hkpz9_me_study⟩)
            · have c8 := cv_nle (a := p3.toInt) (b := 1) rfl (by decide) c8
              refine wp_some ?_
              exact (show IvX3 o_me_machine ∧ Kp [] [] [] o_me_machine o_me_machine ∧ IvX7 o_me_study ∧ Kp [] [2, 3] [] o_me_study o_me_study from ⟨hI_me_machine, Kp.rf, hI_me_study, Kp.rf⟩)

set_option maxHeartbeats 4000000 in
set_option maxRecDepth 100000 in
theorem s_X8_refuse {rI : Nat → Option Nat} (o_me : Ob) (p0 : Int32) (hI_me : IvX8 rI o_me)  : wp (f_X8_refuse   o_me p0) (fun (y : Int32 × Ob) => IvX8 rI y.2 ∧ Kp [13, 14, 15, 16] [] [] o_me y.2) := by
  have li0 : (-6 : Int32).toInt = (-6) := by decide
  have li1 : (1 : Int32).toInt = 1 := by decide
  unfold f_X8_refuse
  refine wp_lt (fun o1 eo1 => ?_)
  have hIo1 : IvX8 rI o1 := by rw [eo1]; exact hI_me
  have ko1_v : (gI o1 12).toInt = p0.toInt := by rw [eo1]; rfl
  have hkpo1 : Kp [13, 14, 15, 16] [] [] o_me o1 := Kp.rf.trans (by rw [eo1]; exact Kp.sI (by decide))
  refine wp_if (fun c2 => ?_) (fun c2 => ?_)
  · have c2 := cv_ge (a := p0.toInt) (b := 0) rfl (by decide) c2
    refine wp_some ?_
    exact (show IvX8 rI o1 ∧ Kp [13, 14, 15, 16] [] [] o_me o1 from ⟨hIo1, hkpo1⟩)
  · have c2 := cv_nge (a := p0.toInt) (b := 0) rfl (by decide) c2
    refine wp_if (fun c3 => ?_) (fun c3 => ?_)
    · have c3 := cv_lt (a := p0.toInt) (b := (-6)) rfl (by decide) c3
      refine wp_some ?_
      exact (show IvX8 rI o1 ∧ Kp [13, 14, 15, 16] [] [] o_me o1 from ⟨hIo1, hkpo1⟩)
    · have c3 := cv_nlt (a := p0.toInt) (b := (-6)) rfl (by decide) c3
      have t4 : (-p0).toInt = -p0.toInt := i32_neg rfl (by omega) (by omega)
      refine wp_lt (fun x5 ex5 => ?_)
      have tx5 : x5.toInt = (-p0).toInt := by rw [ex5]
      refine wp_gd (zin_of (m := 7) rfl (by omega) (by omega)) ?_
      refine wp_gd (zin_of (m := 7) rfl (by omega) (by omega)) ?_
      refine wp_lt (fun o6 eo6 => ?_)
      have hIo6 : IvX8 rI o6 := by rw [eo6]; exact hIo1
      have ko6_k7 : (gI o6 12).toInt = (gI o1 12).toInt := by rw [eo6]; rfl
      have ko6_v : (gA o6 11 x5.toNatClampNeg).toInt = ((gA o1 11 x5.toNatClampNeg) + (1 : Int32)).toInt := by rw [eo6]; exact congrArg Int32.toInt (upd_eq (g := gA o1 11) (i := x5) (v := ((gA o1 11 x5.toNatClampNeg) + (1 : Int32))))
      have hkpo6 : Kp [13, 14, 15, 16] [] [] o_me o6 := hkpo1.trans (by rw [eo6]; exact Kp.tA (by decide) (by decide))
      refine wp_some ?_
      exact (show IvX8 rI o6 ∧ Kp [13, 14, 15, 16] [] [] o_me o6 from ⟨hIo6, hkpo6⟩)

set_option maxHeartbeats 4000000 in
set_option maxRecDepth 100000 in
theorem s_X8_grant {rI : Nat → Option Nat} (o_me : Ob) (p0 : Int32) (hI_me : IvX8 rI o_me)  : wp (f_X8_grant   o_me p0) (fun (y : Int32 × Ob) => IvX8 rI y.2 ∧ Kp [13, 14, 15, 16] [11] [] o_me y.2) := by
  have li0 : (0 : Int32).toInt = 0 := by decide
  unfold f_X8_grant
  refine wp_lt (fun o1 eo1 => ?_)
  have hIo1 : IvX8 rI o1 := by rw [eo1]; exact hI_me
  have ko1_v : (gI o1 12).toInt = 0 := by rw [eo1]; exact (show ((0 : Int32)).toInt = _ from by decide)
  have hkpo1 : Kp [13, 14, 15, 16] [11] [] o_me o1 := Kp.rf.trans (by rw [eo1]; exact Kp.sI (by decide))
  refine wp_some ?_
  exact (show IvX8 rI o1 ∧ Kp [13, 14, 15, 16] [11] [] o_me o1 from ⟨hIo1, hkpo1⟩)

set_option maxHeartbeats 4000000 in
set_option maxRecDepth 100000 in
theorem s_X8_beats {pl : List CR} {rI : Nat → Option Nat} (o_me : Ob) (o_me_isles : Ob) (p0 : Int32) (p1 : Int32) (p2 : Int32) (hI_me : IvX8 rI o_me) (hI_me_isles : IvX2 pl o_me_isles)  : wp (f_X8_beats   o_me o_me_isles p0 p1 p2) (fun (y : Int32 × Ob × Ob) => IvX8 rI y.2.1 ∧ Kp [13, 14, 15, 16] [] [] o_me y.2.1 ∧ IvX2 pl y.2.2 ∧ Kp [7, 8, 9, 10, 11, 12] [1, 2, 4, 5] [] o_me_isles y.2.2) := by
  have li0 : (-1 : Int32).toInt = (-1) := by decide
  have li1 : (-2 : Int32).toInt = (-2) := by decide
  have li2 : (1 : Int32).toInt = 1 := by decide
  unfold f_X8_beats
  have rg2 := i32_rg p0
  have rg3 := i32_rg p1
  refine wp_if (fun c1 => ?_) (fun c1 => ?_)
  · have c1 := cv_eq (a := p0.toInt) (b := p1.toInt) rfl rfl c1
    unfold bk_X8_beats_14
    refine wp_bd (s_X8_refuse   o_me (-1 : Int32)  hI_me  ) (fun z4 hz4 => ?_)
    obtain ⟨hz4_0, hz4_1⟩ := hz4
    have hkpz4_me : Kp [13, 14, 15, 16] [] [] o_me z4.2 := Kp.rf.trans (hz4_1.mono (by decide) (by decide) (by decide))
    refine wp_some ?_
    exact (show IvX8 rI z4.2 ∧ Kp [13, 14, 15, 16] [] [] o_me z4.2 ∧ IvX2 pl o_me_isles ∧ Kp [7, 8, 9, 10, 11, 12] [1, 2, 4, 5] [] o_me_isles o_me_isles from ⟨hz4_0, hkpz4_me, hI_me_isles, Kp.rf⟩)
  · have c1 := cv_ne (a := p0.toInt) (b := p1.toInt) rfl rfl c1
    refine wp_if (fun c5 => ?_) (fun c5 => ?_)
    · have c5 := cv_lt (a := p2.toInt) (b := 0) rfl (by decide) c5
      unfold bk_X8_beats_14
      refine wp_bd (s_X8_refuse   o_me (-1 : Int32)  hI_me  ) (fun z6 hz6 => ?_)
      obtain ⟨hz6_0, hz6_1⟩ := hz6
      have hkpz6_me : Kp [13, 14, 15, 16] [] [] o_me z6.2 := Kp.rf.trans (hz6_1.mono (by decide) (by decide) (by decide))
      refine wp_some ?_
      exact (show IvX8 rI z6.2 ∧ Kp [13, 14, 15, 16] [] [] o_me z6.2 ∧ IvX2 pl o_me_isles ∧ Kp [7, 8, 9, 10, 11, 12] [1, 2, 4, 5] [] o_me_isles o_me_isles from ⟨hz6_0, hkpz6_me, hI_me_isles, Kp.rf⟩)
    · have c5 := cv_nlt (a := p2.toInt) (b := 0) rfl (by decide) c5
      refine wp_if (fun c7 => ?_) (fun c7 => ?_)
      · have c7 := cv_le (a := p2.toInt) (b := 1) rfl (by decide) c7
        refine wp_bd (s_X2_isPerson   o_me_isles p0  hI_me_isles  ) (fun z8 hz8 => ?_)
        obtain ⟨hz8_0, hz8_1⟩ := hz8
        refine wp_if (fun c9 => ?_) (fun c9 => ?_)
        · have c9 := cv_eq (a := z8.toInt) (b := 0) rfl (by decide) c9
          unfold bk_X8_beats_42
          refine wp_bd (s_X8_refuse   o_me (-2 : Int32)  hI_me  ) (fun z10 hz10 => ?_)
          obtain ⟨hz10_0, hz10_1⟩ := hz10
          have hkpz10_me : Kp [13, 14, 15, 16] [] [] o_me z10.2 := Kp.rf.trans (hz10_1.mono (by decide) (by decide) (by decide))
          refine wp_some ?_
          exact (show IvX8 rI z10.2 ∧ Kp [13, 14, 15, 16] [] [] o_me z10.2 ∧ IvX2 pl o_me_isles ∧ Kp [7, 8, 9, 10, 11, 12] [1, 2, 4, 5] [] o_me_isles o_me_isles from ⟨hz10_0, hkpz10_me, hI_me_isles, Kp.rf⟩)
        · have c9z := c9
          have c9i := hz8_1 c9
          have c9 := cv_ne (a := z8.toInt) (b := 0) rfl (by decide) c9
          refine wp_bd (s_X2_isPerson   o_me_isles p1  hI_me_isles  ) (fun z11 hz11 => ?_)
          obtain ⟨hz11_0, hz11_1⟩ := hz11
          refine wp_if (fun c12 => ?_) (fun c12 => ?_)
          · have c12 := cv_eq (a := z11.toInt) (b := 0) rfl (by decide) c12
            unfold bk_X8_beats_42
            refine wp_bd (s_X8_refuse   o_me (-2 : Int32)  hI_me  ) (fun z13 hz13 => ?_)
            obtain ⟨hz13_0, hz13_1⟩ := hz13
            have hkpz13_me : Kp [13, 14, 15, 16] [] [] o_me z13.2 := Kp.rf.trans (hz13_1.mono (by decide) (by decide) (by decide))
            refine wp_some ?_
            exact (show IvX8 rI z13.2 ∧ Kp [13, 14, 15, 16] [] [] o_me z13.2 ∧ IvX2 pl o_me_isles ∧ Kp [7, 8, 9, 10, 11, 12] [1, 2, 4, 5] [] o_me_isles o_me_isles from ⟨hz13_0, hkpz13_me, hI_me_isles, Kp.rf⟩)
          · have c12z := c12
            have c12i := hz11_1 c12
            have c12 := cv_ne (a := z11.toInt) (b := 0) rfl (by decide) c12
            refine wp_gd (zin_of (m := 7) rfl (by omega) (by omega)) ?_
            have t14 := i32_and (x := (gA o_me_isles 3 p0.toNatClampNeg) >>> (p1 &&& 31)) (y := (1 : Int32)) (m := 1) ⟨by decide, by decide⟩
            refine wp_lt (fun x15 ex15 => ?_)
            have tx15 : x15.toInt = (((gA o_me_isles 3 p0.toNatClampNeg) >>> (p1 &&& 31)) &&& (1 : Int32)).toInt := by rw [ex15]
            refine wp_gd (zin_of (m := 7) rfl (by omega) (by omega)) ?_
            refine wp_gd (zin_of (m := 7) rfl (by omega) (by omega)) ?_
            refine wp_lt (fun o16 eo16 => ?_)
            have hIo16 : IvX2 pl o16 := by rw [eo16]; exact hI_me_isles
            have ko16_k17 : (gI o16 7).toInt = (gI o_me_isles 7).toInt := by rw [eo16]; rfl
            have ko16_v : (gA o16 3 p0.toNatClampNeg).toInt = ((gA o_me_isles 3 p0.toNatClampNeg) ^^^ ((x15 ^^^ p2) <<< (p1 &&& 31))).toInt := by rw [eo16]; exact congrArg Int32.toInt (upd_eq (g := gA o_me_isles 3) (i := p0) (v := ((gA o_me_isles 3 p0.toNatClampNeg) ^^^ ((x15 ^^^ p2) <<< (p1 &&& 31)))))
            have hkpo16 : Kp [7, 8, 9, 10, 11, 12] [1, 2, 4, 5] [] o_me_isles o16 := Kp.rf.trans (by rw [eo16]; exact Kp.tA (by decide) (by decide))
            refine wp_bd (s_X8_grant   o_me x15  hI_me  ) (fun z18 hz18 => ?_)
            obtain ⟨hz18_0, hz18_1⟩ := hz18
            have hkpz18_me : Kp [13, 14, 15, 16] [] [] o_me z18.2 := Kp.rf.trans (hz18_1.mono (by decide) (by decide) (by decide))
            refine wp_some ?_
            exact (show IvX8 rI z18.2 ∧ Kp [13, 14, 15, 16] [] [] o_me z18.2 ∧ IvX2 pl o16 ∧ Kp [7, 8, 9, 10, 11, 12] [1, 2, 4, 5] [] o_me_isles o16 from ⟨hz18_0, hkpz18_me, hIo16, hkpo16⟩)
      · have c7 := cv_nle (a := p2.toInt) (b := 1) rfl (by decide) c7
        unfold bk_X8_beats_14
        refine wp_bd (s_X8_refuse   o_me (-1 : Int32)  hI_me  ) (fun z19 hz19 => ?_)
        obtain ⟨hz19_0, hz19_1⟩ := hz19
        have hkpz19_me : Kp [13, 14, 15, 16] [] [] o_me z19.2 := Kp.rf.trans (hz19_1.mono (by decide) (by decide) (by decide))
        refine wp_some ?_
        exact (show IvX8 rI z19.2 ∧ Kp [13, 14, 15, 16] [] [] o_me z19.2 ∧ IvX2 pl o_me_isles ∧ Kp [7, 8, 9, 10, 11, 12] [1, 2, 4, 5] [] o_me_isles o_me_isles from ⟨hz19_0, hkpz19_me, hI_me_isles, Kp.rf⟩)

set_option maxHeartbeats 4000000 in
set_option maxRecDepth 100000 in
theorem s_X8_blots {rI : Nat → Option Nat} (o_me : Ob) (hI_me : IvX8 rI o_me)  : wp (f_X8_blots   o_me) (fun (y : Int32) => True) := by
  unfold f_X8_blots
  refine wp_some ?_
  exact trivial

set_option maxHeartbeats 4000000 in
set_option maxRecDepth 100000 in
theorem s_X1_nearest_v1 (p0 : Int64) (p1 : Int32)  (q0 : 9 ≤ p1.toInt ∧ p1.toInt ≤ 9) : wp (f_X1_nearest   p0 p1) (fun (y : Int32) => (0 ≤ y.toInt ∧ y.toInt ≤ 9)) := by
  have li0 : (0 : Int64).toInt = 0 := by decide
  unfold f_X1_nearest
  have t1 : p1.toInt64.toInt = p1.toInt := Int32.toInt_toInt64 _
  have rg3 := i64_rg p0
  have t2 : (-9223372036854775808) ≤ (if p1.toInt64 < p0 then p1.toInt64 else p0).toInt ∧ (if p1.toInt64 < p0 then p1.toInt64 else p0).toInt ≤ 9 := z_minl (a := p0.toInt) (b := p1.toInt64.toInt) rfl rfl (by omega) (by omega)
  have t4 : 0 ≤ (if (if p1.toInt64 < p0 then p1.toInt64 else p0) < (0 : Int64) then (0 : Int64) else (if p1.toInt64 < p0 then p1.toInt64 else p0)).toInt ∧ (if (if p1.toInt64 < p0 then p1.toInt64 else p0) < (0 : Int64) then (0 : Int64) else (if p1.toInt64 < p0 then p1.toInt64 else p0)).toInt ≤ 9 := z_maxl (a := 0) (b := (if p1.toInt64 < p0 then p1.toInt64 else p0).toInt) (by decide) rfl (by omega) (by omega)
  have t5 : ((if (if p1.toInt64 < p0 then p1.toInt64 else p0) < (0 : Int64) then (0 : Int64) else (if p1.toInt64 < p0 then p1.toInt64 else p0)).toInt32).toInt = (if (if p1.toInt64 < p0 then p1.toInt64 else p0) < (0 : Int64) then (0 : Int64) else (if p1.toInt64 < p0 then p1.toInt64 else p0)).toInt := l2i_eq (by omega) (by omega)
  refine wp_some ?_
  exact (show (0 ≤ ((if (if p1.toInt64 < p0 then p1.toInt64 else p0) < (0 : Int64) then (0 : Int64) else (if p1.toInt64 < p0 then p1.toInt64 else p0)).toInt32).toInt ∧ ((if (if p1.toInt64 < p0 then p1.toInt64 else p0) < (0 : Int64) then (0 : Int64) else (if p1.toInt64 < p0 then p1.toInt64 else p0)).toInt32).toInt ≤ 9) from ⟨by omega, by omega⟩)

set_option maxHeartbeats 4000000 in
set_option maxRecDepth 100000 in
theorem s_X1_turnsTo_Q (o_me : Ob) (o_me_isles : Ob) (o_me_isles_now : Ob) (o_me_machine : Ob) (o_pool : List CR) (p0 : Option Nat) (p1 : Int32) (p2 : Int32) (hI_me : IvX1 o_me) (hI_me_isles : IvX2 o_pool o_me_isles) (hI_me_isles_now : IvX4 o_me_isles_now) (hI_me_machine : IvX3 o_me_machine) (hI_pool : PLok o_pool) (po_p0 : zpo o_pool p0 = true) (q0 : 0 ≤ p1.toInt ∧ p1.toInt ≤ 6) (q1 : 0 ≤ p2.toInt ∧ p2.toInt ≤ 3) : wp (f_X1_turnsTo_Q   o_me o_me_isles o_me_isles_now o_me_machine o_pool p0 p1 p2) (fun (y : Int32 × Ob) => (0 ≤ y.1.toInt ∧ y.1.toInt ≤ 9) ∧ IvX3 y.2 ∧ Kp [] [] [] o_me_machine y.2) := by
  have li0 : (-9000000000000000000 : Int64).toInt = (-9000000000000000000) := by decide
  have li1 : (1 : Int32).toInt = 1 := by decide
  have li2 : (10 : Int32).toInt = 10 := by decide
  have li3 : (2 : Int32).toInt = 2 := by decide
  have li4 : (9 : Int32).toInt = 9 := by decide
  unfold f_X1_turnsTo_Q
  refine wp_bd (Q := fun (z9 : Int64 × Ob) => IvX3 z9.2 ∧ Kp [] [] [] o_me_machine z9.2) (wp_zop po_p0 ⟨(_, o_me_machine), rfl, hI_me_machine, Kp.rf⟩ (fun c9 hc9 => s_X1_told_O c9.2.2.2.1 c9.2.2.2.2.1 o_me o_me_isles o_me_isles_now o_me_machine c9.2.2.2.2.2 (1 : Int32) p1 p2 (2 : Int32) hI_me hI_me_isles hI_me_isles_now hI_me_machine (hI_pool c9 hc9))) (fun z1 hz1 => ?_)
  obtain ⟨hz1_0, hz1_1⟩ := hz1
  have hkpz1 : Kp [] [] [] o_me_machine z1.2 := Kp.rf.trans (hz1_1.mono (by decide) (by decide) (by decide))
  refine wp_if (fun c2 => ?_) (fun c2 => ?_)
  · have c2 := cvl_eq (a := z1.1.toInt) (b := (-9000000000000000000)) rfl (by decide) c2
    refine wp_gd (zin_of (m := 7) rfl (by omega) (by omega)) ?_
    have t3 := iaX4_0_0 hI_me_isles_now (j := p1) (by omega) (by omega)
    have t4 : ((gA o_me_isles_now 0 p1.toNatClampNeg) + (1 : Int32)).toInt = (gA o_me_isles_now 0 p1.toNatClampNeg).toInt + 1 := i32_add rfl (by decide) (by omega) (by omega)
    have t5 : 0 ≤ (((gA o_me_isles_now 0 p1.toNatClampNeg) + (1 : Int32)) - ((gA o_me_isles_now 0 p1.toNatClampNeg) + (1 : Int32)) / (10 : Int32) * (10 : Int32)).toInt ∧ (((gA o_me_isles_now 0 p1.toNatClampNeg) + (1 : Int32)) - ((gA o_me_isles_now 0 p1.toNatClampNeg) + (1 : Int32)) / (10 : Int32) * (10 : Int32)).toInt ≤ 9 := i32_rem (y := (10 : Int32)) (m := 10) (by decide) (by decide) (by omega)
    refine wp_some ?_
    exact (show (0 ≤ (((gA o_me_isles_now 0 p1.toNatClampNeg) + (1 : Int32)) - ((gA o_me_isles_now 0 p1.toNatClampNeg) + (1 : Int32)) / (10 : Int32) * (10 : Int32)).toInt ∧ (((gA o_me_isles_now 0 p1.toNatClampNeg) + (1 : Int32)) - ((gA o_me_isles_now 0 p1.toNatClampNeg) + (1 : Int32)) / (10 : Int32) * (10 : Int32)).toInt ≤ 9) ∧ IvX3 z1.2 ∧ Kp [] [] [] o_me_machine z1.2 from ⟨⟨by omega, by omega⟩, hz1_0, hkpz1⟩)
  · have c2 := cvl_ne (a := z1.1.toInt) (b := (-9000000000000000000)) rfl (by decide) c2
    refine wp_bd (s_X1_nearest_v1   z1.1 (9 : Int32)    ⟨by decide, by decide⟩) (fun z6 hz6 => ?_)
    have hz6_0 := hz6
    refine wp_some ?_
    exact (show (0 ≤ z6.toInt ∧ z6.toInt ≤ 9) ∧ IvX3 z1.2 ∧ Kp [] [] [] o_me_machine z1.2 from ⟨⟨by omega, by omega⟩, hz1_0, hkpz1⟩)

set_option maxHeartbeats 4000000 in
set_option maxRecDepth 100000 in
theorem s_X7_fitsAllSeen (o_me : Ob) (o_me_court : Ob) (o_me_court_isles : Ob) (o_me_court_isles_now : Ob) (o_me_court_machine : Ob) (o_pool : List CR) (p0 : Int32) (hI_me : IvX7 o_me) (hI_me_court : IvX1 o_me_court) (hI_me_court_isles : IvX2 o_pool o_me_court_isles) (hI_me_court_isles_now : IvX4 o_me_court_isles_now) (hI_me_court_machine : IvX3 o_me_court_machine) (hI_pool : PLok o_pool) (q0 : 0 ≤ p0.toInt ∧ p0.toInt ≤ 6) : wp (f_X7_fitsAllSeen   o_me o_me_court o_me_court_isles o_me_court_isles_now o_me_court_machine o_pool p0) (fun (y : Int32 × Ob) => (0 ≤ y.1.toInt ∧ y.1.toInt ≤ 1) ∧ IvX3 y.2 ∧ Kp [] [] [] o_me_court_machine y.2) := by
  have li0 : (0 : Int32).toInt = 0 := by decide
  have li1 : (1 : Int32).toInt = 1 := by decide
  unfold f_X7_fitsAllSeen
  have lp1 : ∀ (N1 : Nat) (v1_1 : Int32) (v2_1 : Int32) (o_me_court_machine_1 : Ob), IvX3 o_me_court_machine_1 → Kp [] [] [] o_me_court_machine o_me_court_machine_1 → (0 ≤ v1_1.toInt ∧ v1_1.toInt ≤ 6) → (0 ≤ v2_1.toInt ∧ v2_1.toInt ≤ 6) → (v1_1.toInt ≤ p0.toInt + 0) → (p0.toInt ≤ v1_1.toInt + 0) → (6 - v2_1.toInt).toNat < N1 → wp (lp_X7_fitsAllSeen_2 o_me o_me_court o_me_court_isles o_me_court_isles_now o_pool  N1 (v1_1, v2_1, o_me_court_machine_1)) (fun (y : Int32 × Ob) => (0 ≤ y.1.toInt ∧ y.1.toInt ≤ 1) ∧ IvX3 y.2 ∧ Kp [] [] [] o_me_court_machine y.2) := by
    intro N1
    induction N1 with
    | zero =>
      intro v1_1 v2_1 o_me_court_machine_1 hI_me_court_machine_1 hkp_me_court_machine_1 hh1 hh2 hh3 hh4 hN1
      exact absurd hN1 (Nat.not_lt_zero _)
    | succ N1 ihx =>
      have ih1 := ihx
      intro v1_1 v2_1 o_me_court_machine_1 hI_me_court_machine_1 hkp_me_court_machine_1 hh1 hh2 hh3 hh4 hN1
      show wp (lb_X7_fitsAllSeen_2 o_me o_me_court o_me_court_isles o_me_court_isles_now o_pool  (lp_X7_fitsAllSeen_2 o_me o_me_court o_me_court_isles o_me_court_isles_now o_pool  N1) v1_1 v2_1 o_me_court_machine_1) (fun (y : Int32 × Ob) => (0 ≤ y.1.toInt ∧ y.1.toInt ≤ 1) ∧ IvX3 y.2 ∧ Kp [] [] [] o_me_court_machine y.2)
      unfold lb_X7_fitsAllSeen_2
      have t5 := igX2_8 hI_me_court_isles
      refine wp_if (fun c6 => ?_) (fun c6 => ?_)
      · have c6 := cv_ge (a := v2_1.toInt) (b := (gI o_me_court_isles 8).toInt) rfl rfl c6
        refine wp_some ?_
        exact (show (0 ≤ (1 : Int32).toInt ∧ (1 : Int32).toInt ≤ 1) ∧ IvX3 o_me_court_machine_1 ∧ Kp [] [] [] o_me_court_machine o_me_court_machine_1 from ⟨⟨by decide, by decide⟩, hI_me_court_machine_1, hkp_me_court_machine_1⟩)
      · have c6 := cv_nge (a := v2_1.toInt) (b := (gI o_me_court_isles 8).toInt) rfl rfl c6
        refine wp_bd (s_X2_lawInForce   o_me_court_isles  hI_me_court_isles  ) (fun z7 hz7 => ?_)
        have hz7_0 := hz7
        refine wp_gd (zin_of (m := 6) rfl (by omega) (by omega)) ?_
        have t8 := iaX2_4_0 hI_me_court_isles (j := v2_1) (by omega) (by omega)
        refine wp_bd (s_X1_turnsTo_Q   o_me_court o_me_court_isles o_me_court_isles_now o_me_court_machine_1 o_pool z7 v1_1 (gA o_me_court_isles 4 v2_1.toNatClampNeg)  hI_me_court hI_me_court_isles hI_me_court_isles_now hI_me_court_machine_1 hI_pool hz7_0 ⟨by omega, by omega⟩ ⟨by omega, by omega⟩) (fun z9 hz9 => ?_)
        obtain ⟨hz9_0, hz9_1, hz9_2⟩ := hz9
        have hkpz9_me_court_machine : Kp [] [] [] o_me_court_machine z9.2 := hkp_me_court_machine_1.trans (hz9_2.mono (by decide) (by decide) (by decide))
        refine wp_gd (zin_of (m := 6) rfl (by omega) (by omega)) ?_
        have rg11 := i32_rg (gA o_me_court_isles 5 v2_1.toNatClampNeg)
        refine wp_if (fun c10 => ?_) (fun c10 => ?_)
        · have c10 := cv_eq (a := z9.1.toInt) (b := (gA o_me_court_isles 5 v2_1.toNatClampNeg).toInt) rfl rfl c10
          refine wp_lt (fun x12 ex12 => ?_)
          have tx12 : x12.toInt = v2_1.toInt + 1 := by rw [ex12]; exact i32_add rfl (by decide) (by omega) (by omega)
          exact ih1 v1_1 x12 z9.2 hz9_1 hkpz9_me_court_machine ⟨by omega, by omega⟩ ⟨by omega, by omega⟩ (by omega) (by omega) (by omega)
        · have c10 := cv_ne (a := z9.1.toInt) (b := (gA o_me_court_isles 5 v2_1.toNatClampNeg).toInt) rfl rfl c10
          refine wp_some ?_
          exact (show (0 ≤ (0 : Int32).toInt ∧ (0 : Int32).toInt ≤ 1) ∧ IvX3 z9.2 ∧ Kp [] [] [] o_me_court_machine z9.2 from ⟨⟨by decide, by decide⟩, hz9_1, hkpz9_me_court_machine⟩)
  exact lp1 zfu p0 (0 : Int32) o_me_court_machine hI_me_court_machine Kp.rf ⟨by omega, by omega⟩ ⟨by decide, by decide⟩ (by omega) (by omega) (by show _ < 100000; omega)

set_option maxHeartbeats 4000000 in
set_option maxRecDepth 100000 in
theorem s_X7_suspects (o_me : Ob) (o_me_court : Ob) (o_me_court_isles : Ob) (o_me_court_isles_now : Ob) (o_me_court_machine : Ob) (o_pool : List CR) (hI_me : IvX7 o_me) (hI_me_court : IvX1 o_me_court) (hI_me_court_isles : IvX2 o_pool o_me_court_isles) (hI_me_court_isles_now : IvX4 o_me_court_isles_now) (hI_me_court_machine : IvX3 o_me_court_machine) (hI_pool : PLok o_pool)  : wp (f_X7_suspects   o_me o_me_court o_me_court_isles o_me_court_isles_now o_me_court_machine o_pool) (fun (y : Int32 × Ob) => (0 ≤ y.1.toInt ∧ y.1.toInt ≤ 127) ∧ IvX3 y.2 ∧ Kp [] [] [] o_me_court_machine y.2) := by
  have li0 : (0 : Int32).toInt = 0 := by decide
  have li1 : (1 : Int32).toInt = 1 := by decide
  unfold f_X7_suspects
  have lp1 : ∀ (N1 : Nat) (v1_1 : Int32) (v2_1 : Int32) (o_me_court_machine_1 : Ob), IvX3 o_me_court_machine_1 → Kp [] [] [] o_me_court_machine o_me_court_machine_1 → (0 ≤ v1_1.toInt ∧ v1_1.toInt ≤ 127) → (0 ≤ v2_1.toInt ∧ v2_1.toInt ≤ 7) → (7 - v2_1.toInt).toNat < N1 → wp (lp_X7_suspects_4 o_me o_me_court o_me_court_isles o_me_court_isles_now o_pool  N1 (v1_1, v2_1, o_me_court_machine_1)) (fun (y : Int32 × Ob) => (0 ≤ y.1.toInt ∧ y.1.toInt ≤ 127) ∧ IvX3 y.2 ∧ Kp [] [] [] o_me_court_machine y.2) := by
    intro N1
    induction N1 with
    | zero =>
      intro v1_1 v2_1 o_me_court_machine_1 hI_me_court_machine_1 hkp_me_court_machine_1 hh1 hh2 hN1
      exact absurd hN1 (Nat.not_lt_zero _)
    | succ N1 ihx =>
      have ih1 := ihx
      intro v1_1 v2_1 o_me_court_machine_1 hI_me_court_machine_1 hkp_me_court_machine_1 hh1 hh2 hN1
      show wp (lb_X7_suspects_4 o_me o_me_court o_me_court_isles o_me_court_isles_now o_pool  (lp_X7_suspects_4 o_me o_me_court o_me_court_isles o_me_court_isles_now o_pool  N1) v1_1 v2_1 o_me_court_machine_1) (fun (y : Int32 × Ob) => (0 ≤ y.1.toInt ∧ y.1.toInt ≤ 127) ∧ IvX3 y.2 ∧ Kp [] [] [] o_me_court_machine y.2)
      unfold lb_X7_suspects_4
      have t3 := igX2_7 hI_me_court_isles
      refine wp_if (fun c4 => ?_) (fun c4 => ?_)
      · have c4 := cv_ge (a := v2_1.toInt) (b := (gI o_me_court_isles 7).toInt) rfl rfl c4
        refine wp_some ?_
        exact (show (0 ≤ v1_1.toInt ∧ v1_1.toInt ≤ 127) ∧ IvX3 o_me_court_machine_1 ∧ Kp [] [] [] o_me_court_machine o_me_court_machine_1 from ⟨⟨by omega, by omega⟩, hI_me_court_machine_1, hkp_me_court_machine_1⟩)
      · have c4 := cv_nge (a := v2_1.toInt) (b := (gI o_me_court_isles 7).toInt) rfl rfl c4
        refine wp_bd (s_X7_fitsAllSeen   o_me o_me_court o_me_court_isles o_me_court_isles_now o_me_court_machine_1 o_pool v2_1  hI_me hI_me_court hI_me_court_isles hI_me_court_isles_now hI_me_court_machine_1 hI_pool  ⟨by omega, by omega⟩) (fun z5 hz5 => ?_)
        obtain ⟨hz5_0, hz5_1, hz5_2⟩ := hz5
        have hkpz5_me_court_machine : Kp [] [] [] o_me_court_machine z5.2 := hkp_me_court_machine_1.trans (hz5_2.mono (by decide) (by decide) (by decide))
        refine wp_if (fun c6 => ?_) (fun c6 => ?_)
        · have c6 := cv_eq (a := z5.1.toInt) (b := 0) rfl (by decide) c6
          unfold bk_X7_suspects_29
          refine wp_lt (fun x7 ex7 => ?_)
          have tx7 : x7.toInt = v2_1.toInt + 1 := by rw [ex7]; exact i32_add rfl (by decide) (by omega) (by omega)
          exact ih1 v1_1 x7 z5.2 hz5_1 hkpz5_me_court_machine ⟨by omega, by omega⟩ ⟨by omega, by omega⟩ (by omega)
        · have c6z := c6
          have c6 := cv_ne (a := z5.1.toInt) (b := 0) rfl (by decide) c6
          have t8 : 1 ≤ ((1 : Int32) <<< (v2_1 &&& 31)).toInt ∧ ((1 : Int32) <<< (v2_1 &&& 31)).toInt ≤ 64 := i32_shl6 (p := v2_1) (by omega) (by omega)
          have t9 := i32_or7 (x := v1_1) (y := (1 : Int32) <<< (v2_1 &&& 31)) ⟨by omega, by omega⟩ ⟨by omega, by omega⟩
          refine wp_lt (fun x10 ex10 => ?_)
          have tx10 : x10.toInt = (v1_1 ||| ((1 : Int32) <<< (v2_1 &&& 31))).toInt := by rw [ex10]
          unfold bk_X7_suspects_29
          refine wp_lt (fun x11 ex11 => ?_)
          have tx11 : x11.toInt = v2_1.toInt + 1 := by rw [ex11]; exact i32_add rfl (by decide) (by omega) (by omega)
          exact ih1 x10 x11 z5.2 hz5_1 hkpz5_me_court_machine ⟨by omega, by omega⟩ ⟨by omega, by omega⟩ (by omega)
  exact lp1 zfu (0 : Int32) (0 : Int32) o_me_court_machine hI_me_court_machine Kp.rf ⟨by decide, by decide⟩ ⟨by decide, by decide⟩ (by show _ < 100000; omega)

set_option maxHeartbeats 4000000 in
set_option maxRecDepth 100000 in
theorem s_X8_canBe {rI : Nat → Option Nat} (o_me : Ob) (o_me_machine : Ob) (o_me_isles : Ob) (o_me_isles_now : Ob) (o_me_court : Ob) (o_me_study : Ob) (o_pool : List CR) (hI_me : IvX8 rI o_me) (hI_me_machine : IvX3 o_me_machine) (hI_me_isles : IvX2 o_pool o_me_isles) (hI_me_isles_now : IvX4 o_me_isles_now) (hI_me_court : IvX1 o_me_court) (hI_me_study : IvX7 o_me_study) (hI_pool : PLok o_pool)  : wp (f_X8_canBe   o_me o_me_machine o_me_isles o_me_isles_now o_me_court o_me_study o_pool) (fun (y : Int32 × Ob) => (0 ≤ y.1.toInt ∧ y.1.toInt ≤ 127) ∧ IvX3 y.2 ∧ Kp [] [] [] o_me_machine y.2) := by
  unfold f_X8_canBe
  refine wp_bd (s_X7_suspects   o_me_study o_me_court o_me_isles o_me_isles_now o_me_machine o_pool  hI_me_study hI_me_court hI_me_isles hI_me_isles_now hI_me_machine hI_pool  ) (fun z1 hz1 => ?_)
  obtain ⟨hz1_0, hz1_1, hz1_2⟩ := hz1
  have hkpz1_me_machine : Kp [] [] [] o_me_machine z1.2 := Kp.rf.trans (hz1_2.mono (by decide) (by decide) (by decide))
  refine wp_some ?_
  exact (show (0 ≤ z1.1.toInt ∧ z1.1.toInt ≤ 127) ∧ IvX3 z1.2 ∧ Kp [] [] [] o_me_machine z1.2 from ⟨⟨by omega, by omega⟩, hz1_1, hkpz1_me_machine⟩)

set_option maxHeartbeats 4000000 in
set_option maxRecDepth 100000 in
theorem s_X4_set_O (o_me : Ob) (o_a0 : Ob) (hI_me : IvX4 o_me) (hI_a0 : IvX4 o_a0)  : wp (f_X4_set_O   o_me o_a0) (fun (y : Ob) => IvX4 y ∧ Kp [] [] [] o_me y) := by
  have li0 : (0 : Int32).toInt = 0 := by decide
  have li1 : (7 : Int32).toInt = 7 := by decide
  unfold f_X4_set_O
  refine wp_gd (zcp_of (m0 := 7) (m1 := 7) rfl rfl (by omega) (by omega) (by omega) (by omega) (by omega)) ?_
  refine wp_lt (fun o1 eo1 => ?_)
  have hIo1 : IvX4 o1 := by rw [eo1]; exact icX4_0 hI_me hI_a0
  have hkpo1 : Kp [] [] [] o_me o1 := Kp.rf.trans (by rw [eo1]; exact Kp.cA (by decide) (by decide))
  refine wp_gd (zcp_of (m0 := 7) (m1 := 7) rfl rfl (by omega) (by omega) (by omega) (by omega) (by omega)) ?_
  refine wp_lt (fun o2 eo2 => ?_)
  have hIo2 : IvX4 o2 := by rw [eo2]; exact hIo1
  have hkpo2 : Kp [] [] [] o_me o2 := hkpo1.trans (by rw [eo2]; exact Kp.cA (by decide) (by decide))
  refine wp_lt (fun o3 eo3 => ?_)
  have hIo3 : IvX4 o3 := by rw [eo3]; exact hIo2
  have ko3_v : (gI o3 2).toInt = (gI o_a0 2).toInt := by rw [eo3]; rfl
  have hkpo3 : Kp [] [] [] o_me o3 := hkpo2.trans (by rw [eo3]; exact Kp.sI (by decide))
  refine wp_lt (fun o4 eo4 => ?_)
  have hIo4 : IvX4 o4 := by rw [eo4]; exact hIo3
  have ko4_k5 : (gI o4 2).toInt = (gI o3 2).toInt := by rw [eo4]; rfl
  have ko4_v : (gI o4 3).toInt = (gI o_a0 3).toInt := by rw [eo4]; rfl
  have hkpo4 : Kp [] [] [] o_me o4 := hkpo3.trans (by rw [eo4]; exact Kp.sI (by decide))
  refine wp_lt (fun o6 eo6 => ?_)
  have hIo6 : IvX4 o6 := by rw [eo6]; exact hIo4
  have ko6_k7 : (gI o6 2).toInt = (gI o4 2).toInt := by rw [eo6]; rfl
  have ko6_k8 : (gI o6 3).toInt = (gI o4 3).toInt := by rw [eo6]; rfl
  have ko6_v : (gI o6 4).toInt = (gI o_a0 4).toInt := by rw [eo6]; rfl
  have hkpo6 : Kp [] [] [] o_me o6 := hkpo4.trans (by rw [eo6]; exact Kp.sI (by decide))
  refine wp_some ?_
  exact (show IvX4 o6 ∧ Kp [] [] [] o_me o6 from ⟨hIo6, hkpo6⟩)

set_option maxHeartbeats 4000000 in
set_option maxRecDepth 100000 in
theorem s_X2_set_O (o_me : Ob) (o_me_now : Ob) (o_pool : List CR) (o_a0 : Ob) (o_a0_now : Ob) (hI_me : IvX2 o_pool o_me) (hI_me_now : IvX4 o_me_now) (hI_pool : PLok o_pool) (hI_a0 : IvX2 o_pool o_a0) (hI_a0_now : IvX4 o_a0_now)  : wp (f_X2_set_O   o_me o_me_now o_pool o_a0 o_a0_now) (fun (y : Ob × Ob) => IvX2 o_pool y.1 ∧ Kp [] [] [] o_me y.1 ∧ IvX4 y.2 ∧ Kp [] [] [] o_me_now y.2) := by
  have li0 : (0 : Int32).toInt = 0 := by decide
  have li1 : (28 : Int32).toInt = 28 := by decide
  have li2 : (6 : Int32).toInt = 6 := by decide
  have li3 : (7 : Int32).toInt = 7 := by decide
  unfold f_X2_set_O
  refine wp_bd (s_X4_set_O   o_me_now o_a0_now  hI_me_now hI_a0_now  ) (fun z1 hz1 => ?_)
  obtain ⟨hz1_0, hz1_1⟩ := hz1
  have hkpz1_me_now : Kp [] [] [] o_me_now z1 := Kp.rf.trans (hz1_1.mono (by decide) (by decide) (by decide))
  refine wp_gd (zcp_of (m0 := 7) (m1 := 7) rfl rfl (by omega) (by omega) (by omega) (by omega) (by omega)) ?_
  refine wp_lt (fun o2 eo2 => ?_)
  have hIo2 : IvX2 o_pool o2 := by rw [eo2]; exact hI_me
  have hkpo2 : Kp [] [] [] o_me o2 := Kp.rf.trans (by rw [eo2]; exact Kp.cA (by decide) (by decide))
  refine wp_gd (zcp_of (m0 := 28) (m1 := 28) rfl rfl (by omega) (by omega) (by omega) (by omega) (by omega)) ?_
  refine wp_lt (fun o3 eo3 => ?_)
  have hIo3 : IvX2 o_pool o3 := by rw [eo3]; exact hIo2
  have hkpo3 : Kp [] [] [] o_me o3 := hkpo2.trans (by rw [eo3]; exact Kp.cA (by decide) (by decide))
  refine wp_gd (zcp_of (m0 := 7) (m1 := 7) rfl rfl (by omega) (by omega) (by omega) (by omega) (by omega)) ?_
  refine wp_lt (fun o4 eo4 => ?_)
  have hIo4 : IvX2 o_pool o4 := by rw [eo4]; exact hIo3
  have hkpo4 : Kp [] [] [] o_me o4 := hkpo3.trans (by rw [eo4]; exact Kp.cA (by decide) (by decide))
  refine wp_gd (zcp_of (m0 := 6) (m1 := 6) rfl rfl (by omega) (by omega) (by omega) (by omega) (by omega)) ?_
  refine wp_lt (fun o5 eo5 => ?_)
  have hIo5 : IvX2 o_pool o5 := by rw [eo5]; exact icX2_4 hIo4 hI_a0
  have hkpo5 : Kp [] [] [] o_me o5 := hkpo4.trans (by rw [eo5]; exact Kp.cA (by decide) (by decide))
  refine wp_gd (zcp_of (m0 := 6) (m1 := 6) rfl rfl (by omega) (by omega) (by omega) (by omega) (by omega)) ?_
  refine wp_lt (fun o6 eo6 => ?_)
  have hIo6 : IvX2 o_pool o6 := by rw [eo6]; exact hIo5
  have hkpo6 : Kp [] [] [] o_me o6 := hkpo5.trans (by rw [eo6]; exact Kp.cA (by decide) (by decide))
  have lp1 : ∀ (N1 : Nat) (v2_1 : Int32) (o_me_1 : Ob) (o_me_now_1 : Ob), IvX2 o_pool o_me_1 → Kp [] [] [] o_me o_me_1 → IvX4 o_me_now_1 → Kp [] [] [] o_me_now o_me_now_1 → (0 ≤ v2_1.toInt ∧ v2_1.toInt ≤ 6) → (6 - v2_1.toInt).toNat < N1 → wp (lp_X2_set_O_88 o_pool o_a0 o_a0_now  N1 (v2_1, o_me_1, o_me_now_1)) (fun (y : Ob × Ob) => IvX2 o_pool y.1 ∧ Kp [] [] [] o_me y.1 ∧ IvX4 y.2 ∧ Kp [] [] [] o_me_now y.2) := by
    intro N1
    induction N1 with
    | zero =>
      intro v2_1 o_me_1 o_me_now_1 hI_me_1 hkp_me_1 hI_me_now_1 hkp_me_now_1 hh7 hN1
      exact absurd hN1 (Nat.not_lt_zero _)
    | succ N1 ihx =>
      have ih1 := ihx
      intro v2_1 o_me_1 o_me_now_1 hI_me_1 hkp_me_1 hI_me_now_1 hkp_me_now_1 hh7 hN1
      show wp (lb_X2_set_O_88 o_pool o_a0 o_a0_now  (lp_X2_set_O_88 o_pool o_a0 o_a0_now  N1) v2_1 o_me_1 o_me_now_1) (fun (y : Ob × Ob) => IvX2 o_pool y.1 ∧ Kp [] [] [] o_me y.1 ∧ IvX4 y.2 ∧ Kp [] [] [] o_me_now y.2)
      unfold lb_X2_set_O_88
      refine wp_if (fun c8 => ?_) (fun c8 => ?_)
      · have c8 := cv_ge (a := v2_1.toInt) (b := 6) rfl (by decide) c8
        have t9 := igX2_7 hI_a0
        refine wp_lt (fun o10 eo10 => ?_)
        have hIo10 : IvX2 o_pool o10 := by rw [eo10]; exact ipX2_7 hI_me_1 ⟨by omega, by omega⟩
        have ko10_v : (gI o10 7).toInt = (gI o_a0 7).toInt := by rw [eo10]; rfl
        have hkpo10 : Kp [] [] [] o_me o10 := hkp_me_1.trans (by rw [eo10]; exact Kp.sI (by decide))
        have t11 := igX2_8 hI_a0
        refine wp_lt (fun o12 eo12 => ?_)
        have hIo12 : IvX2 o_pool o12 := by rw [eo12]; exact ipX2_8 hIo10 ⟨by omega, by omega⟩
        have ko12_k13 : (gI o12 7).toInt = (gI o10 7).toInt := by rw [eo12]; rfl
        have ko12_v : (gI o12 8).toInt = (gI o_a0 8).toInt := by rw [eo12]; rfl
        have hkpo12 : Kp [] [] [] o_me o12 := hkpo10.trans (by rw [eo12]; exact Kp.sI (by decide))
        have t14 := igX2_9 hI_a0
        refine wp_lt (fun o15 eo15 => ?_)
        have hIo15 : IvX2 o_pool o15 := by rw [eo15]; exact ipX2_9 hIo12 ⟨by omega, by omega⟩
        have ko15_k16 : (gI o15 7).toInt = (gI o12 7).toInt := by rw [eo15]; rfl
        have ko15_k17 : (gI o15 8).toInt = (gI o12 8).toInt := by rw [eo15]; rfl
        have ko15_v : (gI o15 9).toInt = (gI o_a0 9).toInt := by rw [eo15]; rfl
        have hkpo15 : Kp [] [] [] o_me o15 := hkpo12.trans (by rw [eo15]; exact Kp.sI (by decide))
        have t18 := igX2_10 hI_a0
        refine wp_lt (fun o19 eo19 => ?_)
        have hIo19 : IvX2 o_pool o19 := by rw [eo19]; exact ipX2_10 hIo15 ⟨by omega, by omega⟩
        have ko19_k20 : (gI o19 7).toInt = (gI o15 7).toInt := by rw [eo19]; rfl
        have ko19_k21 : (gI o19 8).toInt = (gI o15 8).toInt := by rw [eo19]; rfl
        have ko19_k22 : (gI o19 9).toInt = (gI o15 9).toInt := by rw [eo19]; rfl
        have ko19_v : (gI o19 10).toInt = (gI o_a0 10).toInt := by rw [eo19]; rfl
        have hkpo19 : Kp [] [] [] o_me o19 := hkpo15.trans (by rw [eo19]; exact Kp.sI (by decide))
        refine wp_lt (fun o23 eo23 => ?_)
        have hIo23 : IvX2 o_pool o23 := by rw [eo23]; exact hIo19
        have ko23_k24 : (gI o23 10).toInt = (gI o19 10).toInt := by rw [eo23]; rfl
        have ko23_k25 : (gI o23 7).toInt = (gI o19 7).toInt := by rw [eo23]; rfl
        have ko23_k26 : (gI o23 8).toInt = (gI o19 8).toInt := by rw [eo23]; rfl
        have ko23_k27 : (gI o23 9).toInt = (gI o19 9).toInt := by rw [eo23]; rfl
        have ko23_v : (gI o23 11).toInt = (gI o_a0 11).toInt := by rw [eo23]; rfl
        have hkpo23 : Kp [] [] [] o_me o23 := hkpo19.trans (by rw [eo23]; exact Kp.sI (by decide))
        refine wp_lt (fun o28 eo28 => ?_)
        have hIo28 : IvX2 o_pool o28 := by rw [eo28]; exact hIo23
        have ko28_k29 : (gI o28 10).toInt = (gI o23 10).toInt := by rw [eo28]; rfl
        have ko28_k30 : (gI o28 11).toInt = (gI o23 11).toInt := by rw [eo28]; rfl
        have ko28_k31 : (gI o28 7).toInt = (gI o23 7).toInt := by rw [eo28]; rfl
        have ko28_k32 : (gI o28 8).toInt = (gI o23 8).toInt := by rw [eo28]; rfl
        have ko28_k33 : (gI o28 9).toInt = (gI o23 9).toInt := by rw [eo28]; rfl
        have ko28_v : (gI o28 12).toInt = (gI o_a0 12).toInt := by rw [eo28]; rfl
        have hkpo28 : Kp [] [] [] o_me o28 := hkpo23.trans (by rw [eo28]; exact Kp.sI (by decide))
        refine wp_some ?_
        exact (show IvX2 o_pool o28 ∧ Kp [] [] [] o_me o28 ∧ IvX4 o_me_now_1 ∧ Kp [] [] [] o_me_now o_me_now_1 from ⟨hIo28, hkpo28, hI_me_now_1, hkp_me_now_1⟩)
      · have c8 := cv_nge (a := v2_1.toInt) (b := 6) rfl (by decide) c8
        refine wp_gd (zin_of (m := 6) rfl (by omega) (by omega)) ?_
        have po34 := irX2 hI_a0 (j := v2_1) (by omega) (by omega)
        refine wp_gd po34 ?_
        refine wp_gd (zin_of (m := 6) rfl (by omega) (by omega)) ?_
        refine wp_lt (fun o35 eo35 => ?_)
        have hIo35 : IvX2 o_pool o35 := by rw [eo35]; exact iqX2 hI_me_1 po34
        have hkpo35 : Kp [] [] [] o_me o35 := hkp_me_1.trans (by rw [eo35]; exact Kp.tR)
        refine wp_lt (fun x36 ex36 => ?_)
        have tx36 : x36.toInt = v2_1.toInt + 1 := by rw [ex36]; exact i32_add rfl (by decide) (by omega) (by omega)
        exact ih1 x36 o35 o_me_now_1 hIo35 hkpo35 hI_me_now_1 hkp_me_now_1 ⟨by omega, by omega⟩ (by omega)
  exact lp1 zfu (0 : Int32) o6 z1 hIo6 hkpo6 hz1_0 hkpz1_me_now ⟨by decide, by decide⟩ (by show _ < 100000; omega)

set_option maxHeartbeats 4000000 in
set_option maxRecDepth 100000 in
theorem s_X8_nextDraw (p0 : Int32)   : wp (f_X8_nextDraw   p0) (fun (y : Int32) => True) := by
  have li0 : (1000003 : Int64).toInt = 1000003 := by decide
  have li1 : (1103 : Int64).toInt = 1103 := by decide
  have li2 : (12345 : Int64).toInt = 12345 := by decide
  unfold f_X8_nextDraw
  have rg1 := i32_rg p0
  have t2 : p0.toInt64.toInt = p0.toInt := Int32.toInt_toInt64 _
  refine wp_some ?_
  exact trivial

set_option maxHeartbeats 4000000 in
set_option maxRecDepth 100000 in
theorem s_X1_at (o_me : Ob) (p0 : Int32) (hI_me : IvX1 o_me)  : wp (f_X1_at   o_me p0) (fun (y : Int32) => ((-1) ≤ y.toInt ∧ y.toInt ≤ 6)) := by
  have li0 : (-1 : Int32).toInt = (-1) := by decide
  have li1 : (1 : Int32).toInt = 1 := by decide
  unfold f_X1_at
  refine wp_if (fun c1 => ?_) (fun c1 => ?_)
  · have c1 := cv_lt (a := p0.toInt) (b := 1) rfl (by decide) c1
    refine wp_some ?_
    exact (show ((-1) ≤ (-1 : Int32).toInt ∧ (-1 : Int32).toInt ≤ 6) from ⟨by decide, by decide⟩)
  · have c1 := cv_nlt (a := p0.toInt) (b := 1) rfl (by decide) c1
    have t2 := igX1_4 hI_me
    have rg4 := i32_rg p0
    refine wp_if (fun c3 => ?_) (fun c3 => ?_)
    · have c3 := cv_gt (a := p0.toInt) (b := (gI o_me 4).toInt) rfl rfl c3
      refine wp_some ?_
      exact (show ((-1) ≤ (-1 : Int32).toInt ∧ (-1 : Int32).toInt ≤ 6) from ⟨by decide, by decide⟩)
    · have c3 := cv_ngt (a := p0.toInt) (b := (gI o_me 4).toInt) rfl rfl c3
      have t5 : (p0 - (1 : Int32)).toInt = p0.toInt - 1 := i32_sub rfl (by decide) (by omega) (by omega)
      refine wp_gd (zin_of (m := 7) rfl (by omega) (by omega)) ?_
      have t6 := iaX1_2_0 hI_me (j := p0 - (1 : Int32)) (by omega) (by omega)
      refine wp_some ?_
      exact (show ((-1) ≤ (gA o_me 2 (p0 - (1 : Int32)).toNatClampNeg).toInt ∧ (gA o_me 2 (p0 - (1 : Int32)).toNatClampNeg).toInt ≤ 6) from ⟨by omega, by omega⟩)

set_option maxHeartbeats 4000000 in
set_option maxRecDepth 100000 in
theorem s_X1_wins_Q (o_me : Ob) (o_me_isles : Ob) (o_me_isles_now : Ob) (o_me_machine : Ob) (o_pool : List CR) (p0 : Option Nat) (p1 : Int32) (p2 : Int32) (p3 : Int32) (hI_me : IvX1 o_me) (hI_me_isles : IvX2 o_pool o_me_isles) (hI_me_isles_now : IvX4 o_me_isles_now) (hI_me_machine : IvX3 o_me_machine) (hI_pool : PLok o_pool) (po_p0 : zpo o_pool p0 = true) (q0 : 0 ≤ p1.toInt ∧ p1.toInt ≤ 6) (q1 : 0 ≤ p2.toInt ∧ p2.toInt ≤ 3) : wp (f_X1_wins_Q   o_me o_me_isles o_me_isles_now o_me_machine o_pool p0 p1 p2 p3) (fun (y : Int32 × Ob) => IvX3 y.2 ∧ Kp [] [] [] o_me_machine y.2) := by
  have li0 : (-9000000000000000000 : Int64).toInt = (-9000000000000000000) := by decide
  have li1 : (2 : Int32).toInt = 2 := by decide
  have li2 : (4 : Int32).toInt = 4 := by decide
  have li3 : (9 : Int32).toInt = 9 := by decide
  unfold f_X1_wins_Q
  refine wp_bd (Q := fun (z9 : Int64 × Ob) => IvX3 z9.2 ∧ Kp [] [] [] o_me_machine z9.2) (wp_zop po_p0 ⟨(_, o_me_machine), rfl, hI_me_machine, Kp.rf⟩ (fun c9 hc9 => s_X1_told_O c9.2.2.2.1 c9.2.2.2.2.1 o_me o_me_isles o_me_isles_now o_me_machine c9.2.2.2.2.2 (2 : Int32) p1 p2 p3 hI_me hI_me_isles hI_me_isles_now hI_me_machine (hI_pool c9 hc9))) (fun z1 hz1 => ?_)
  obtain ⟨hz1_0, hz1_1⟩ := hz1
  have hkpz1 : Kp [] [] [] o_me_machine z1.2 := Kp.rf.trans (hz1_1.mono (by decide) (by decide) (by decide))
  refine wp_if (fun c2 => ?_) (fun c2 => ?_)
  · have c2 := cvl_eq (a := z1.1.toInt) (b := (-9000000000000000000)) rfl (by decide) c2
    refine wp_some ?_
    exact (show IvX3 z1.2 ∧ Kp [] [] [] o_me_machine z1.2 from ⟨hz1_0, hkpz1⟩)
  · have c2 := cvl_ne (a := z1.1.toInt) (b := (-9000000000000000000)) rfl (by decide) c2
    refine wp_bd (s_X1_nearest_v1   z1.1 (9 : Int32)    ⟨by decide, by decide⟩) (fun z3 hz3 => ?_)
    have hz3_0 := hz3
    refine wp_some ?_
    exact (show IvX3 z1.2 ∧ Kp [] [] [] o_me_machine z1.2 from ⟨hz1_0, hkpz1⟩)

set_option maxHeartbeats 4000000 in
set_option maxRecDepth 100000 in
theorem s_X4_addPrizes (o_me : Ob) (p0 : Int32) (p1 : Int32) (hI_me : IvX4 o_me) (q0 : 0 ≤ p0.toInt ∧ p0.toInt ≤ 6) : wp (f_X4_addPrizes   o_me p0 p1) (fun (y : Ob) => IvX4 y ∧ Kp [2, 3, 4] [0] [] o_me y) := by
  have li0 : (999 : Int32).toInt = 999 := by decide
  unfold f_X4_addPrizes
  refine wp_gd (zin_of (m := 7) rfl (by omega) (by omega)) ?_
  have rg2 := i32_rg ((gA o_me 1 p0.toNatClampNeg) + p1)
  have t1 : (-2147483648) ≤ (if ((gA o_me 1 p0.toNatClampNeg) + p1) < (999 : Int32) then ((gA o_me 1 p0.toNatClampNeg) + p1) else (999 : Int32)).toInt ∧ (if ((gA o_me 1 p0.toNatClampNeg) + p1) < (999 : Int32) then ((gA o_me 1 p0.toNatClampNeg) + p1) else (999 : Int32)).toInt ≤ 999 := z_min (a := 999) (b := ((gA o_me 1 p0.toNatClampNeg) + p1).toInt) (by decide) rfl (by omega) (by omega)
  have t3 := z_mng (999 : Int32) ((gA o_me 1 p0.toNatClampNeg) + p1)
  refine wp_gd (zin_of (m := 7) rfl (by omega) (by omega)) ?_
  refine wp_lt (fun o4 eo4 => ?_)
  have hIo4 : IvX4 o4 := by rw [eo4]; exact hI_me
  have ko4_v : (gA o4 1 p0.toNatClampNeg).toInt = (if ((gA o_me 1 p0.toNatClampNeg) + p1) < (999 : Int32) then ((gA o_me 1 p0.toNatClampNeg) + p1) else (999 : Int32)).toInt := by rw [eo4]; exact congrArg Int32.toInt (upd_eq (g := gA o_me 1) (i := p0) (v := (if ((gA o_me 1 p0.toNatClampNeg) + p1) < (999 : Int32) then ((gA o_me 1 p0.toNatClampNeg) + p1) else (999 : Int32))))
  have hkpo4 : Kp [2, 3, 4] [0] [] o_me o4 := Kp.rf.trans (by rw [eo4]; exact Kp.tA (by decide) (by decide))
  refine wp_some ?_
  exact (show IvX4 o4 ∧ Kp [2, 3, 4] [0] [] o_me o4 from ⟨hIo4, hkpo4⟩)

set_option maxHeartbeats 4000000 in
set_option maxRecDepth 100000 in
theorem s_X1_heldRace (o_me : Ob) (o_me_isles : Ob) (o_me_isles_now : Ob) (o_me_machine : Ob) (o_pool : List CR) (p0 : Int32) (hI_me : IvX1 o_me) (hI_me_isles : IvX2 o_pool o_me_isles) (hI_me_isles_now : IvX4 o_me_isles_now) (hI_me_machine : IvX3 o_me_machine) (hI_pool : PLok o_pool) (q0 : 0 ≤ p0.toInt ∧ p0.toInt ≤ 3) : wp (f_X1_heldRace   o_me o_me_isles o_me_isles_now o_me_machine o_pool p0) (fun (y : Int32 × Ob × Ob) => ((-1) ≤ y.1.toInt ∧ y.1.toInt ≤ 6) ∧ IvX4 y.2.1 ∧ Kp [4] [] [] o_me_isles_now y.2.1 ∧ IvX3 y.2.2 ∧ Kp [] [] [] o_me_machine y.2.2) := by
  have li0 : (-1 : Int32).toInt = (-1) := by decide
  have li1 : (0 : Int32).toInt = 0 := by decide
  have li2 : (1 : Int32).toInt = 1 := by decide
  have li3 : (2 : Int32).toInt = 2 := by decide
  have li4 : (3 : Int32).toInt = 3 := by decide
  have li5 : (999 : Int32).toInt = 999 := by decide
  unfold f_X1_heldRace
  refine wp_bd (s_X2_lawInForce   o_me_isles  hI_me_isles  ) (fun z1 hz1 => ?_)
  have hz1_0 := hz1
  refine wp_bd (s_X1_at   o_me (1 : Int32)  hI_me  ) (fun z2 hz2 => ?_)
  have hz2_0 := hz2
  refine wp_bd (s_X1_at   o_me (2 : Int32)  hI_me  ) (fun z3 hz3 => ?_)
  have hz3_0 := hz3
  refine wp_bd (s_X1_at   o_me (3 : Int32)  hI_me  ) (fun z4 hz4 => ?_)
  have hz4_0 := hz4
  refine wp_if (fun c5 => ?_) (fun c5 => ?_)
  · have c5 := cv_eq (a := z2.toInt) (b := (-1)) rfl (by decide) c5
    obtain ⟨w6, ew6⟩ : ∃ z : Int32, z = (0 : Int32) := ⟨_, rfl⟩
    have tw6 : w6.toInt = 0 := by rw [ew6]; decide
    rw [show bk_X1_heldRace_45 o_me o_me_isles o_pool  p0 z1 z2 z3 z4 (0 : Int32) o_me_isles_now o_me_machine = bk_X1_heldRace_45 o_me o_me_isles o_pool  p0 z1 z2 z3 z4 w6 o_me_isles_now o_me_machine from by rw [ew6]]
    unfold bk_X1_heldRace_45
    refine wp_if (fun c7 => ?_) (fun c7 => ?_)
    · have c7 := cv_eq (a := z3.toInt) (b := (-1)) rfl (by decide) c7
      obtain ⟨w8, ew8⟩ : ∃ z : Int32, z = (0 : Int32) := ⟨_, rfl⟩
      have tw8 : w8.toInt = 0 := by rw [ew8]; decide
      rw [show bk_X1_heldRace_66 o_me o_me_isles o_pool  p0 z1 z2 z3 z4 w6 (0 : Int32) o_me_isles_now o_me_machine = bk_X1_heldRace_66 o_me o_me_isles o_pool  p0 z1 z2 z3 z4 w6 w8 o_me_isles_now o_me_machine from by rw [ew8]]
      unfold bk_X1_heldRace_66
      refine wp_if (fun c9 => ?_) (fun c9 => ?_)
      · have c9 := cv_eq (a := z4.toInt) (b := (-1)) rfl (by decide) c9
        obtain ⟨w10, ew10⟩ : ∃ z : Int32, z = (0 : Int32) := ⟨_, rfl⟩
        have tw10 : w10.toInt = 0 := by rw [ew10]; decide
        rw [show bk_X1_heldRace_87 o_me o_me_isles o_pool  p0 z1 z2 z3 z4 w6 w8 (0 : Int32) o_me_isles_now o_me_machine = bk_X1_heldRace_87 o_me o_me_isles o_pool  p0 z1 z2 z3 z4 w6 w8 w10 o_me_isles_now o_me_machine from by rw [ew10]]
        unfold bk_X1_heldRace_87
        refine wp_if (fun c11 => ?_) (fun c11 => ?_)
        · have c11 := cv_eq (a := z3.toInt) (b := (-1)) rfl (by decide) c11
          unfold bk_X1_heldRace_145
          refine wp_if (fun c12 => ?_) (fun c12 => ?_)
          · have c12 := cv_eq (a := z2.toInt) (b := (-1)) rfl (by decide) c12
            unfold bk_X1_heldRace_163
            refine wp_if (fun c13 => ?_) (fun c13 => ?_)
            · have c13 := cv_eq (a := z4.toInt) (b := (-1)) rfl (by decide) c13
              unfold bk_X1_heldRace_183
              have lp1 : ∀ (N1 : Nat) (v3_1 : Int32) (v9_1 : Int32) (o_me_isles_now_1 : Ob) (o_me_machine_1 : Ob), IvX4 o_me_isles_now_1 → Kp [4] [] [] o_me_isles_now o_me_isles_now_1 → IvX3 o_me_machine_1 → Kp [] [] [] o_me_machine o_me_machine_1 → ((-1) ≤ v3_1.toInt ∧ v3_1.toInt ≤ (-1)) → (0 ≤ v9_1.toInt ∧ v9_1.toInt ≤ 7) → (7 - v9_1.toInt).toNat < N1 → wp (lp_X1_heldRace_186 o_me o_me_isles o_pool  N1 (v3_1, v9_1, o_me_isles_now_1, o_me_machine_1)) (fun (y : Int32 × Ob × Ob) => ((-1) ≤ y.1.toInt ∧ y.1.toInt ≤ 6) ∧ IvX4 y.2.1 ∧ Kp [4] [] [] o_me_isles_now y.2.1 ∧ IvX3 y.2.2 ∧ Kp [] [] [] o_me_machine y.2.2) := by
                intro N1
                induction N1 with
                | zero =>
                  intro v3_1 v9_1 o_me_isles_now_1 o_me_machine_1 hI_me_isles_now_1 hkp_me_isles_now_1 hI_me_machine_1 hkp_me_machine_1 hh14 hh15 hN1
                  exact absurd hN1 (Nat.not_lt_zero _)
                | succ N1 ihx =>
                  have ih1 := ihx
                  intro v3_1 v9_1 o_me_isles_now_1 o_me_machine_1 hI_me_isles_now_1 hkp_me_isles_now_1 hI_me_machine_1 hkp_me_machine_1 hh14 hh15 hN1
                  show wp (lb_X1_heldRace_186 o_me o_me_isles o_pool  (lp_X1_heldRace_186 o_me o_me_isles o_pool  N1) v3_1 v9_1 o_me_isles_now_1 o_me_machine_1) (fun (y : Int32 × Ob × Ob) => ((-1) ≤ y.1.toInt ∧ y.1.toInt ≤ 6) ∧ IvX4 y.2.1 ∧ Kp [4] [] [] o_me_isles_now y.2.1 ∧ IvX3 y.2.2 ∧ Kp [] [] [] o_me_machine y.2.2)
                  unfold lb_X1_heldRace_186
                  have t16 := igX1_4 hI_me
                  refine wp_if (fun c17 => ?_) (fun c17 => ?_)
                  · have c17 := cv_ge (a := v9_1.toInt) (b := (gI o_me 4).toInt) rfl rfl c17
                    refine wp_some ?_
                    exact (show ((-1) ≤ v3_1.toInt ∧ v3_1.toInt ≤ 6) ∧ IvX4 o_me_isles_now_1 ∧ Kp [4] [] [] o_me_isles_now o_me_isles_now_1 ∧ IvX3 o_me_machine_1 ∧ Kp [] [] [] o_me_machine o_me_machine_1 from ⟨⟨by omega, by omega⟩, hI_me_isles_now_1, hkp_me_isles_now_1, hI_me_machine_1, hkp_me_machine_1⟩)
                  · have c17 := cv_nge (a := v9_1.toInt) (b := (gI o_me 4).toInt) rfl rfl c17
                    refine wp_gd (zin_of (m := 7) rfl (by omega) (by omega)) ?_
                    have t18 := iaX1_2_0 hI_me (j := v9_1) (by omega) (by omega)
                    have t19 : 1 ≤ ((1 : Int32) <<< ((gA o_me 2 v9_1.toNatClampNeg) &&& 31)).toInt ∧ ((1 : Int32) <<< ((gA o_me 2 v9_1.toNatClampNeg) &&& 31)).toInt ≤ 64 := i32_shl6 (p := gA o_me 2 v9_1.toNatClampNeg) (by omega) (by omega)
                    refine wp_lt (fun o20 eo20 => ?_)
                    have hIo20 : IvX4 o20 := by rw [eo20]; exact hI_me_isles_now_1
                    have ko20_v : (gI o20 2).toInt = ((gI o_me_isles_now_1 2) &&& (((1 : Int32) <<< ((gA o_me 2 v9_1.toNatClampNeg) &&& 31)) ^^^ (-1 : Int32))).toInt := by rw [eo20]; rfl
                    have hkpo20 : Kp [4] [] [] o_me_isles_now o20 := hkp_me_isles_now_1.trans (by rw [eo20]; exact Kp.sI (by decide))
                    refine wp_lt (fun x21 ex21 => ?_)
                    have tx21 : x21.toInt = v9_1.toInt + 1 := by rw [ex21]; exact i32_add rfl (by decide) (by omega) (by omega)
                    exact ih1 v3_1 x21 o20 o_me_machine_1 hIo20 hkpo20 hI_me_machine_1 hkp_me_machine_1 ⟨by omega, by omega⟩ ⟨by omega, by omega⟩ (by omega)
              exact lp1 zfu z2 (0 : Int32) o_me_isles_now o_me_machine hI_me_isles_now Kp.rf hI_me_machine Kp.rf ⟨by omega, by omega⟩ ⟨by decide, by decide⟩ (by show _ < 100000; omega)
            · have c13 := cv_ne (a := z4.toInt) (b := (-1)) rfl (by decide) c13
              exfalso; omega
          · have c12 := cv_ne (a := z2.toInt) (b := (-1)) rfl (by decide) c12
            exfalso; omega
        · have c11 := cv_ne (a := z3.toInt) (b := (-1)) rfl (by decide) c11
          exfalso; omega
      · have c9 := cv_ne (a := z4.toInt) (b := (-1)) rfl (by decide) c9
        refine wp_bd (s_X1_wins_Q   o_me o_me_isles o_me_isles_now o_me_machine o_pool z1 z4 p0 (3 : Int32)  hI_me hI_me_isles hI_me_isles_now hI_me_machine hI_pool hz1_0 ⟨by omega, by omega⟩ ⟨by omega, by omega⟩) (fun z22 hz22 => ?_)
        obtain ⟨hz22_0, hz22_1⟩ := hz22
        have hkpz22_me_machine : Kp [] [] [] o_me_machine z22.2 := Kp.rf.trans (hz22_1.mono (by decide) (by decide) (by decide))
        unfold bk_X1_heldRace_87
        refine wp_if (fun c23 => ?_) (fun c23 => ?_)
        · have c23 := cv_eq (a := z3.toInt) (b := (-1)) rfl (by decide) c23
          unfold bk_X1_heldRace_145
          refine wp_if (fun c24 => ?_) (fun c24 => ?_)
          · have c24 := cv_eq (a := z2.toInt) (b := (-1)) rfl (by decide) c24
            unfold bk_X1_heldRace_163
            refine wp_if (fun c25 => ?_) (fun c25 => ?_)
            · have c25 := cv_eq (a := z4.toInt) (b := (-1)) rfl (by decide) c25
              exfalso; omega
            · have c25 := cv_ne (a := z4.toInt) (b := (-1)) rfl (by decide) c25
              refine wp_bd (s_X4_addPrizes   o_me_isles_now z4 z22.1  hI_me_isles_now  ⟨by omega, by omega⟩) (fun z26 hz26 => ?_)
              obtain ⟨hz26_0, hz26_1⟩ := hz26
              have hkpz26_me_isles_now : Kp [4] [] [] o_me_isles_now z26 := Kp.rf.trans (hz26_1.mono (by decide) (by decide) (by decide))
              unfold bk_X1_heldRace_183
              have lp2 : ∀ (N2 : Nat) (v3_2 : Int32) (v9_2 : Int32) (o_me_isles_now_2 : Ob) (o_me_machine_2 : Ob), IvX4 o_me_isles_now_2 → Kp [4] [] [] o_me_isles_now o_me_isles_now_2 → IvX3 o_me_machine_2 → Kp [] [] [] o_me_machine o_me_machine_2 → ((-1) ≤ v3_2.toInt ∧ v3_2.toInt ≤ (-1)) → (0 ≤ v9_2.toInt ∧ v9_2.toInt ≤ 7) → (7 - v9_2.toInt).toNat < N2 → wp (lp_X1_heldRace_186 o_me o_me_isles o_pool  N2 (v3_2, v9_2, o_me_isles_now_2, o_me_machine_2)) (fun (y : Int32 × Ob × Ob) => ((-1) ≤ y.1.toInt ∧ y.1.toInt ≤ 6) ∧ IvX4 y.2.1 ∧ Kp [4] [] [] o_me_isles_now y.2.1 ∧ IvX3 y.2.2 ∧ Kp [] [] [] o_me_machine y.2.2) := by
                intro N2
                induction N2 with
                | zero =>
                  intro v3_2 v9_2 o_me_isles_now_2 o_me_machine_2 hI_me_isles_now_2 hkp_me_isles_now_2 hI_me_machine_2 hkp_me_machine_2 hh27 hh28 hN2
                  exact absurd hN2 (Nat.not_lt_zero _)
                | succ N2 ihx =>
                  have ih2 := ihx
                  intro v3_2 v9_2 o_me_isles_now_2 o_me_machine_2 hI_me_isles_now_2 hkp_me_isles_now_2 hI_me_machine_2 hkp_me_machine_2 hh27 hh28 hN2
                  show wp (lb_X1_heldRace_186 o_me o_me_isles o_pool  (lp_X1_heldRace_186 o_me o_me_isles o_pool  N2) v3_2 v9_2 o_me_isles_now_2 o_me_machine_2) (fun (y : Int32 × Ob × Ob) => ((-1) ≤ y.1.toInt ∧ y.1.toInt ≤ 6) ∧ IvX4 y.2.1 ∧ Kp [4] [] [] o_me_isles_now y.2.1 ∧ IvX3 y.2.2 ∧ Kp [] [] [] o_me_machine y.2.2)
                  unfold lb_X1_heldRace_186
                  have t29 := igX1_4 hI_me
                  refine wp_if (fun c30 => ?_) (fun c30 => ?_)
                  · have c30 := cv_ge (a := v9_2.toInt) (b := (gI o_me 4).toInt) rfl rfl c30
                    refine wp_some ?_
                    exact (show ((-1) ≤ v3_2.toInt ∧ v3_2.toInt ≤ 6) ∧ IvX4 o_me_isles_now_2 ∧ Kp [4] [] [] o_me_isles_now o_me_isles_now_2 ∧ IvX3 o_me_machine_2 ∧ Kp [] [] [] o_me_machine o_me_machine_2 from ⟨⟨by omega, by omega⟩, hI_me_isles_now_2, hkp_me_isles_now_2, hI_me_machine_2, hkp_me_machine_2⟩)
                  · have c30 := cv_nge (a := v9_2.toInt) (b := (gI o_me 4).toInt) rfl rfl c30
                    refine wp_gd (zin_of (m := 7) rfl (by omega) (by omega)) ?_
                    have t31 := iaX1_2_0 hI_me (j := v9_2) (by omega) (by omega)
                    have t32 : 1 ≤ ((1 : Int32) <<< ((gA o_me 2 v9_2.toNatClampNeg) &&& 31)).toInt ∧ ((1 : Int32) <<< ((gA o_me 2 v9_2.toNatClampNeg) &&& 31)).toInt ≤ 64 := i32_shl6 (p := gA o_me 2 v9_2.toNatClampNeg) (by omega) (by omega)
                    refine wp_lt (fun o33 eo33 => ?_)
                    have hIo33 : IvX4 o33 := by rw [eo33]; exact hI_me_isles_now_2
                    have ko33_v : (gI o33 2).toInt = ((gI o_me_isles_now_2 2) &&& (((1 : Int32) <<< ((gA o_me 2 v9_2.toNatClampNeg) &&& 31)) ^^^ (-1 : Int32))).toInt := by rw [eo33]; rfl
                    have hkpo33 : Kp [4] [] [] o_me_isles_now o33 := hkp_me_isles_now_2.trans (by rw [eo33]; exact Kp.sI (by decide))
                    refine wp_lt (fun x34 ex34 => ?_)
                    have tx34 : x34.toInt = v9_2.toInt + 1 := by rw [ex34]; exact i32_add rfl (by decide) (by omega) (by omega)
                    exact ih2 v3_2 x34 o33 o_me_machine_2 hIo33 hkpo33 hI_me_machine_2 hkp_me_machine_2 ⟨by omega, by omega⟩ ⟨by omega, by omega⟩ (by omega)
              exact lp2 zfu z2 (0 : Int32) z26 z22.2 hz26_0 hkpz26_me_isles_now hz22_0 hkpz22_me_machine ⟨by omega, by omega⟩ ⟨by decide, by decide⟩ (by show _ < 100000; omega)
          · have c24 := cv_ne (a := z2.toInt) (b := (-1)) rfl (by decide) c24
            exfalso; omega
        · have c23 := cv_ne (a := z3.toInt) (b := (-1)) rfl (by decide) c23
          exfalso; omega
    · have c7 := cv_ne (a := z3.toInt) (b := (-1)) rfl (by decide) c7
      refine wp_bd (s_X1_wins_Q   o_me o_me_isles o_me_isles_now o_me_machine o_pool z1 z3 p0 (2 : Int32)  hI_me hI_me_isles hI_me_isles_now hI_me_machine hI_pool hz1_0 ⟨by omega, by omega⟩ ⟨by omega, by omega⟩) (fun z35 hz35 => ?_)
      obtain ⟨hz35_0, hz35_1⟩ := hz35
      have hkpz35_me_machine : Kp [] [] [] o_me_machine z35.2 := Kp.rf.trans (hz35_1.mono (by decide) (by decide) (by decide))
      unfold bk_X1_heldRace_66
      refine wp_if (fun c36 => ?_) (fun c36 => ?_)
      · have c36 := cv_eq (a := z4.toInt) (b := (-1)) rfl (by decide) c36
        obtain ⟨w37, ew37⟩ : ∃ z : Int32, z = (0 : Int32) := ⟨_, rfl⟩
        have tw37 : w37.toInt = 0 := by rw [ew37]; decide
        rw [show bk_X1_heldRace_87 o_me o_me_isles o_pool  p0 z1 z2 z3 z4 w6 z35.1 (0 : Int32) o_me_isles_now z35.2 = bk_X1_heldRace_87 o_me o_me_isles o_pool  p0 z1 z2 z3 z4 w6 z35.1 w37 o_me_isles_now z35.2 from by rw [ew37]]
        unfold bk_X1_heldRace_87
        refine wp_if (fun c38 => ?_) (fun c38 => ?_)
        · have c38 := cv_eq (a := z3.toInt) (b := (-1)) rfl (by decide) c38
          exfalso; omega
        · have c38 := cv_ne (a := z3.toInt) (b := (-1)) rfl (by decide) c38
          refine wp_bd (s_X1_turnsTo_Q   o_me o_me_isles o_me_isles_now z35.2 o_pool z1 z3 p0  hI_me hI_me_isles hI_me_isles_now hz35_0 hI_pool hz1_0 ⟨by omega, by omega⟩ ⟨by omega, by omega⟩) (fun z39 hz39 => ?_)
          obtain ⟨hz39_0, hz39_1, hz39_2⟩ := hz39
          have hkpz39_me_machine : Kp [] [] [] o_me_machine z39.2 := hkpz35_me_machine.trans (hz39_2.mono (by decide) (by decide) (by decide))
          refine wp_gd (zin_of (m := 7) rfl (by omega) (by omega)) ?_
          refine wp_lt (fun o40 eo40 => ?_)
          have hIo40 : IvX4 o40 := by rw [eo40]; exact ibX4_0 hI_me_isles_now (by omega) (Or.inr (Or.inr ⟨by omega, by omega⟩))
          have ko40_v : (gA o40 0 z3.toNatClampNeg).toInt = z39.1.toInt := by rw [eo40]; exact congrArg Int32.toInt (upd_eq (g := gA o_me_isles_now 0) (i := z3) (v := z39.1))
          have hkpo40 : Kp [4] [] [] o_me_isles_now o40 := Kp.rf.trans (by rw [eo40]; exact Kp.tA (by decide) (by decide))
          have rg42 := i32_rg ((gI o40 3) + z35.1)
          have t41 : (-2147483648) ≤ (if ((gI o40 3) + z35.1) < (999 : Int32) then ((gI o40 3) + z35.1) else (999 : Int32)).toInt ∧ (if ((gI o40 3) + z35.1) < (999 : Int32) then ((gI o40 3) + z35.1) else (999 : Int32)).toInt ≤ 999 := z_min (a := 999) (b := ((gI o40 3) + z35.1).toInt) (by decide) rfl (by omega) (by omega)
          have t43 := z_mng (999 : Int32) ((gI o40 3) + z35.1)
          refine wp_lt (fun o44 eo44 => ?_)
          have hIo44 : IvX4 o44 := by rw [eo44]; exact hIo40
          have ko44_k45 : (gA o44 0 z3.toNatClampNeg).toInt = (gA o40 0 z3.toNatClampNeg).toInt := by rw [eo44]; rfl
          have ko44_v : (gI o44 3).toInt = (if ((gI o40 3) + z35.1) < (999 : Int32) then ((gI o40 3) + z35.1) else (999 : Int32)).toInt := by rw [eo44]; rfl
          have hkpo44 : Kp [4] [] [] o_me_isles_now o44 := hkpo40.trans (by rw [eo44]; exact Kp.sI (by decide))
          unfold bk_X1_heldRace_145
          refine wp_if (fun c46 => ?_) (fun c46 => ?_)
          · have c46 := cv_eq (a := z2.toInt) (b := (-1)) rfl (by decide) c46
            unfold bk_X1_heldRace_163
            refine wp_if (fun c47 => ?_) (fun c47 => ?_)
            · have c47 := cv_eq (a := z4.toInt) (b := (-1)) rfl (by decide) c47
              unfold bk_X1_heldRace_183
              have lp3 : ∀ (N3 : Nat) (v3_3 : Int32) (v9_3 : Int32) (o_me_isles_now_3 : Ob) (o_me_machine_3 : Ob), IvX4 o_me_isles_now_3 → Kp [4] [] [] o_me_isles_now o_me_isles_now_3 → IvX3 o_me_machine_3 → Kp [] [] [] o_me_machine o_me_machine_3 → ((-1) ≤ v3_3.toInt ∧ v3_3.toInt ≤ (-1)) → (0 ≤ v9_3.toInt ∧ v9_3.toInt ≤ 7) → ((-2147483648) ≤ (gI o_me_isles_now_3 3).toInt ∧ (gI o_me_isles_now_3 3).toInt ≤ 999) → (7 - v9_3.toInt).toNat < N3 → wp (lp_X1_heldRace_186 o_me o_me_isles o_pool  N3 (v3_3, v9_3, o_me_isles_now_3, o_me_machine_3)) (fun (y : Int32 × Ob × Ob) => ((-1) ≤ y.1.toInt ∧ y.1.toInt ≤ 6) ∧ IvX4 y.2.1 ∧ Kp [4] [] [] o_me_isles_now y.2.1 ∧ IvX3 y.2.2 ∧ Kp [] [] [] o_me_machine y.2.2) := by
                intro N3
                induction N3 with
                | zero =>
                  intro v3_3 v9_3 o_me_isles_now_3 o_me_machine_3 hI_me_isles_now_3 hkp_me_isles_now_3 hI_me_machine_3 hkp_me_machine_3 hh48 hh49 hh50 hN3
                  exact absurd hN3 (Nat.not_lt_zero _)
                | succ N3 ihx =>
                  have ih3 := ihx
                  intro v3_3 v9_3 o_me_isles_now_3 o_me_machine_3 hI_me_isles_now_3 hkp_me_isles_now_3 hI_me_machine_3 hkp_me_machine_3 hh48 hh49 hh50 hN3
                  show wp (lb_X1_heldRace_186 o_me o_me_isles o_pool  (lp_X1_heldRace_186 o_me o_me_isles o_pool  N3) v3_3 v9_3 o_me_isles_now_3 o_me_machine_3) (fun (y : Int32 × Ob × Ob) => ((-1) ≤ y.1.toInt ∧ y.1.toInt ≤ 6) ∧ IvX4 y.2.1 ∧ Kp [4] [] [] o_me_isles_now y.2.1 ∧ IvX3 y.2.2 ∧ Kp [] [] [] o_me_machine y.2.2)
                  unfold lb_X1_heldRace_186
                  have t51 := igX1_4 hI_me
                  refine wp_if (fun c52 => ?_) (fun c52 => ?_)
                  · have c52 := cv_ge (a := v9_3.toInt) (b := (gI o_me 4).toInt) rfl rfl c52
                    refine wp_some ?_
                    exact (show ((-1) ≤ v3_3.toInt ∧ v3_3.toInt ≤ 6) ∧ IvX4 o_me_isles_now_3 ∧ Kp [4] [] [] o_me_isles_now o_me_isles_now_3 ∧ IvX3 o_me_machine_3 ∧ Kp [] [] [] o_me_machine o_me_machine_3 from ⟨⟨by omega, by omega⟩, hI_me_isles_now_3, hkp_me_isles_now_3, hI_me_machine_3, hkp_me_machine_3⟩)
                  · have c52 := cv_nge (a := v9_3.toInt) (b := (gI o_me 4).toInt) rfl rfl c52
                    refine wp_gd (zin_of (m := 7) rfl (by omega) (by omega)) ?_
                    have t53 := iaX1_2_0 hI_me (j := v9_3) (by omega) (by omega)
                    have t54 : 1 ≤ ((1 : Int32) <<< ((gA o_me 2 v9_3.toNatClampNeg) &&& 31)).toInt ∧ ((1 : Int32) <<< ((gA o_me 2 v9_3.toNatClampNeg) &&& 31)).toInt ≤ 64 := i32_shl6 (p := gA o_me 2 v9_3.toNatClampNeg) (by omega) (by omega)
                    refine wp_lt (fun o55 eo55 => ?_)
                    have hIo55 : IvX4 o55 := by rw [eo55]; exact hI_me_isles_now_3
                    have ko55_k56 : (gI o55 3).toInt = (gI o_me_isles_now_3 3).toInt := by rw [eo55]; rfl
                    have ko55_v : (gI o55 2).toInt = ((gI o_me_isles_now_3 2) &&& (((1 : Int32) <<< ((gA o_me 2 v9_3.toNatClampNeg) &&& 31)) ^^^ (-1 : Int32))).toInt := by rw [eo55]; rfl
                    have hkpo55 : Kp [4] [] [] o_me_isles_now o55 := hkp_me_isles_now_3.trans (by rw [eo55]; exact Kp.sI (by decide))
                    refine wp_lt (fun x57 ex57 => ?_)
                    have tx57 : x57.toInt = v9_3.toInt + 1 := by rw [ex57]; exact i32_add rfl (by decide) (by omega) (by omega)
                    have rg58 := i32_rg (gI o55 3)
                    exact ih3 v3_3 x57 o55 o_me_machine_3 hIo55 hkpo55 hI_me_machine_3 hkp_me_machine_3 ⟨by omega, by omega⟩ ⟨by omega, by omega⟩ ⟨by omega, by omega⟩ (by omega)
              have rg59 := i32_rg (gI o44 3)
              exact lp3 zfu z2 (0 : Int32) o44 z39.2 hIo44 hkpo44 hz39_1 hkpz39_me_machine ⟨by omega, by omega⟩ ⟨by decide, by decide⟩ ⟨by omega, by omega⟩ (by show _ < 100000; omega)
            · have c47 := cv_ne (a := z4.toInt) (b := (-1)) rfl (by decide) c47
              exfalso; omega
          · have c46 := cv_ne (a := z2.toInt) (b := (-1)) rfl (by decide) c46
            exfalso; omega
      · have c36 := cv_ne (a := z4.toInt) (b := (-1)) rfl (by decide) c36
        refine wp_bd (s_X1_wins_Q   o_me o_me_isles o_me_isles_now z35.2 o_pool z1 z4 p0 (3 : Int32)  hI_me hI_me_isles hI_me_isles_now hz35_0 hI_pool hz1_0 ⟨by omega, by omega⟩ ⟨by omega, by omega⟩) (fun z60 hz60 => ?_)
        obtain ⟨hz60_0, hz60_1⟩ := hz60
        have hkpz60_me_machine : Kp [] [] [] o_me_machine z60.2 := hkpz35_me_machine.trans (hz60_1.mono (by decide) (by decide) (by decide))
        unfold bk_X1_heldRace_87
        refine wp_if (fun c61 => ?_) (fun c61 => ?_)
        · have c61 := cv_eq (a := z3.toInt) (b := (-1)) rfl (by decide) c61
          exfalso; omega
        · have c61 := cv_ne (a := z3.toInt) (b := (-1)) rfl (by decide) c61
          refine wp_bd (s_X1_turnsTo_Q   o_me o_me_isles o_me_isles_now z60.2 o_pool z1 z3 p0  hI_me hI_me_isles hI_me_isles_now hz60_0 hI_pool hz1_0 ⟨by omega, by omega⟩ ⟨by omega, by omega⟩) (fun z62 hz62 => ?_)
          obtain ⟨hz62_0, hz62_1, hz62_2⟩ := hz62
          have hkpz62_me_machine : Kp [] [] [] o_me_machine z62.2 := hkpz60_me_machine.trans (hz62_2.mono (by decide) (by decide) (by decide))
          refine wp_gd (zin_of (m := 7) rfl (by omega) (by omega)) ?_
          refine wp_lt (fun o63 eo63 => ?_)
          have hIo63 : IvX4 o63 := by rw [eo63]; exact ibX4_0 hI_me_isles_now (by omega) (Or.inr (Or.inr ⟨by omega, by omega⟩))
          have ko63_v : (gA o63 0 z3.toNatClampNeg).toInt = z62.1.toInt := by rw [eo63]; exact congrArg Int32.toInt (upd_eq (g := gA o_me_isles_now 0) (i := z3) (v := z62.1))
          have hkpo63 : Kp [4] [] [] o_me_isles_now o63 := Kp.rf.trans (by rw [eo63]; exact Kp.tA (by decide) (by decide))
          have rg65 := i32_rg ((gI o63 3) + z35.1)
          have t64 : (-2147483648) ≤ (if ((gI o63 3) + z35.1) < (999 : Int32) then ((gI o63 3) + z35.1) else (999 : Int32)).toInt ∧ (if ((gI o63 3) + z35.1) < (999 : Int32) then ((gI o63 3) + z35.1) else (999 : Int32)).toInt ≤ 999 := z_min (a := 999) (b := ((gI o63 3) + z35.1).toInt) (by decide) rfl (by omega) (by omega)
          have t66 := z_mng (999 : Int32) ((gI o63 3) + z35.1)
          refine wp_lt (fun o67 eo67 => ?_)
          have hIo67 : IvX4 o67 := by rw [eo67]; exact hIo63
          have ko67_k68 : (gA o67 0 z3.toNatClampNeg).toInt = (gA o63 0 z3.toNatClampNeg).toInt := by rw [eo67]; rfl
          have ko67_v : (gI o67 3).toInt = (if ((gI o63 3) + z35.1) < (999 : Int32) then ((gI o63 3) + z35.1) else (999 : Int32)).toInt := by rw [eo67]; rfl
          have hkpo67 : Kp [4] [] [] o_me_isles_now o67 := hkpo63.trans (by rw [eo67]; exact Kp.sI (by decide))
          unfold bk_X1_heldRace_145
          refine wp_if (fun c69 => ?_) (fun c69 => ?_)
          · have c69 := cv_eq (a := z2.toInt) (b := (-1)) rfl (by decide) c69
            unfold bk_X1_heldRace_163
            refine wp_if (fun c70 => ?_) (fun c70 => ?_)
            · have c70 := cv_eq (a := z4.toInt) (b := (-1)) rfl (by decide) c70
              exfalso; omega
            · have c70 := cv_ne (a := z4.toInt) (b := (-1)) rfl (by decide) c70
              refine wp_bd (s_X4_addPrizes   o67 z4 z60.1  hIo67  ⟨by omega, by omega⟩) (fun z71 hz71 => ?_)
              obtain ⟨hz71_0, hz71_1⟩ := hz71
              have hkpz71_me_isles_now : Kp [4] [] [] o_me_isles_now z71 := hkpo67.trans (hz71_1.mono (by decide) (by decide) (by decide))
              have kz71_k72 : (gA z71 0 z3.toNatClampNeg).toInt = (gA o67 0 z3.toNatClampNeg).toInt := congrArg (fun g => (g z3.toNatClampNeg).toInt) (hz71_1.2.1 0 (by decide))
              have kz71_k73 : (gI z71 3).toInt = (gI o67 3).toInt := congrArg Int32.toInt (hz71_1.1 3 (by decide))
              unfold bk_X1_heldRace_183
              have lp4 : ∀ (N4 : Nat) (v3_4 : Int32) (v9_4 : Int32) (o_me_isles_now_4 : Ob) (o_me_machine_4 : Ob), IvX4 o_me_isles_now_4 → Kp [4] [] [] o_me_isles_now o_me_isles_now_4 → IvX3 o_me_machine_4 → Kp [] [] [] o_me_machine o_me_machine_4 → ((-1) ≤ v3_4.toInt ∧ v3_4.toInt ≤ (-1)) → (0 ≤ v9_4.toInt ∧ v9_4.toInt ≤ 7) → ((-2147483648) ≤ (gI o_me_isles_now_4 3).toInt ∧ (gI o_me_isles_now_4 3).toInt ≤ 999) → (7 - v9_4.toInt).toNat < N4 → wp (lp_X1_heldRace_186 o_me o_me_isles o_pool  N4 (v3_4, v9_4, o_me_isles_now_4, o_me_machine_4)) (fun (y : Int32 × Ob × Ob) => ((-1) ≤ y.1.toInt ∧ y.1.toInt ≤ 6) ∧ IvX4 y.2.1 ∧ Kp [4] [] [] o_me_isles_now y.2.1 ∧ IvX3 y.2.2 ∧ Kp [] [] [] o_me_machine y.2.2) := by
                intro N4
                induction N4 with
                | zero =>
                  intro v3_4 v9_4 o_me_isles_now_4 o_me_machine_4 hI_me_isles_now_4 hkp_me_isles_now_4 hI_me_machine_4 hkp_me_machine_4 hh74 hh75 hh76 hN4
                  exact absurd hN4 (Nat.not_lt_zero _)
                | succ N4 ihx =>
                  have ih4 := ihx
                  intro v3_4 v9_4 o_me_isles_now_4 o_me_machine_4 hI_me_isles_now_4 hkp_me_isles_now_4 hI_me_machine_4 hkp_me_machine_4 hh74 hh75 hh76 hN4
                  show wp (lb_X1_heldRace_186 o_me o_me_isles o_pool  (lp_X1_heldRace_186 o_me o_me_isles o_pool  N4) v3_4 v9_4 o_me_isles_now_4 o_me_machine_4) (fun (y : Int32 × Ob × Ob) => ((-1) ≤ y.1.toInt ∧ y.1.toInt ≤ 6) ∧ IvX4 y.2.1 ∧ Kp [4] [] [] o_me_isles_now y.2.1 ∧ IvX3 y.2.2 ∧ Kp [] [] [] o_me_machine y.2.2)
                  unfold lb_X1_heldRace_186
                  have t77 := igX1_4 hI_me
                  refine wp_if (fun c78 => ?_) (fun c78 => ?_)
                  · have c78 := cv_ge (a := v9_4.toInt) (b := (gI o_me 4).toInt) rfl rfl c78
                    refine wp_some ?_
                    exact (show ((-1) ≤ v3_4.toInt ∧ v3_4.toInt ≤ 6) ∧ IvX4 o_me_isles_now_4 ∧ Kp [4] [] [] o_me_isles_now o_me_isles_now_4 ∧ IvX3 o_me_machine_4 ∧ Kp [] [] [] o_me_machine o_me_machine_4 from ⟨⟨by omega, by omega⟩, hI_me_isles_now_4, hkp_me_isles_now_4, hI_me_machine_4, hkp_me_machine_4⟩)
                  · have c78 := cv_nge (a := v9_4.toInt) (b := (gI o_me 4).toInt) rfl rfl c78
                    refine wp_gd (zin_of (m := 7) rfl (by omega) (by omega)) ?_
                    have t79 := iaX1_2_0 hI_me (j := v9_4) (by omega) (by omega)
                    have t80 : 1 ≤ ((1 : Int32) <<< ((gA o_me 2 v9_4.toNatClampNeg) &&& 31)).toInt ∧ ((1 : Int32) <<< ((gA o_me 2 v9_4.toNatClampNeg) &&& 31)).toInt ≤ 64 := i32_shl6 (p := gA o_me 2 v9_4.toNatClampNeg) (by omega) (by omega)
                    refine wp_lt (fun o81 eo81 => ?_)
                    have hIo81 : IvX4 o81 := by rw [eo81]; exact hI_me_isles_now_4
                    have ko81_k82 : (gI o81 3).toInt = (gI o_me_isles_now_4 3).toInt := by rw [eo81]; rfl
                    have ko81_v : (gI o81 2).toInt = ((gI o_me_isles_now_4 2) &&& (((1 : Int32) <<< ((gA o_me 2 v9_4.toNatClampNeg) &&& 31)) ^^^ (-1 : Int32))).toInt := by rw [eo81]; rfl
                    have hkpo81 : Kp [4] [] [] o_me_isles_now o81 := hkp_me_isles_now_4.trans (by rw [eo81]; exact Kp.sI (by decide))
                    refine wp_lt (fun x83 ex83 => ?_)
                    have tx83 : x83.toInt = v9_4.toInt + 1 := by rw [ex83]; exact i32_add rfl (by decide) (by omega) (by omega)
                    have rg84 := i32_rg (gI o81 3)
                    exact ih4 v3_4 x83 o81 o_me_machine_4 hIo81 hkpo81 hI_me_machine_4 hkp_me_machine_4 ⟨by omega, by omega⟩ ⟨by omega, by omega⟩ ⟨by omega, by omega⟩ (by omega)
              have rg85 := i32_rg (gI z71 3)
              exact lp4 zfu z2 (0 : Int32) z71 z62.2 hz71_0 hkpz71_me_isles_now hz62_1 hkpz62_me_machine ⟨by omega, by omega⟩ ⟨by decide, by decide⟩ ⟨by omega, by omega⟩ (by show _ < 100000; omega)
          · have c69 := cv_ne (a := z2.toInt) (b := (-1)) rfl (by decide) c69
            exfalso; omega
  · have c5 := cv_ne (a := z2.toInt) (b := (-1)) rfl (by decide) c5
    refine wp_bd (s_X1_wins_Q   o_me o_me_isles o_me_isles_now o_me_machine o_pool z1 z2 p0 (1 : Int32)  hI_me hI_me_isles hI_me_isles_now hI_me_machine hI_pool hz1_0 ⟨by omega, by omega⟩ ⟨by omega, by omega⟩) (fun z86 hz86 => ?_)
    obtain ⟨hz86_0, hz86_1⟩ := hz86
    have hkpz86_me_machine : Kp [] [] [] o_me_machine z86.2 := Kp.rf.trans (hz86_1.mono (by decide) (by decide) (by decide))
    unfold bk_X1_heldRace_45
    refine wp_if (fun c87 => ?_) (fun c87 => ?_)
    · have c87 := cv_eq (a := z3.toInt) (b := (-1)) rfl (by decide) c87
      obtain ⟨w88, ew88⟩ : ∃ z : Int32, z = (0 : Int32) := ⟨_, rfl⟩
      have tw88 : w88.toInt = 0 := by rw [ew88]; decide
      rw [show bk_X1_heldRace_66 o_me o_me_isles o_pool  p0 z1 z2 z3 z4 z86.1 (0 : Int32) o_me_isles_now z86.2 = bk_X1_heldRace_66 o_me o_me_isles o_pool  p0 z1 z2 z3 z4 z86.1 w88 o_me_isles_now z86.2 from by rw [ew88]]
      unfold bk_X1_heldRace_66
      refine wp_if (fun c89 => ?_) (fun c89 => ?_)
      · have c89 := cv_eq (a := z4.toInt) (b := (-1)) rfl (by decide) c89
        obtain ⟨w90, ew90⟩ : ∃ z : Int32, z = (0 : Int32) := ⟨_, rfl⟩
        have tw90 : w90.toInt = 0 := by rw [ew90]; decide
        rw [show bk_X1_heldRace_87 o_me o_me_isles o_pool  p0 z1 z2 z3 z4 z86.1 w88 (0 : Int32) o_me_isles_now z86.2 = bk_X1_heldRace_87 o_me o_me_isles o_pool  p0 z1 z2 z3 z4 z86.1 w88 w90 o_me_isles_now z86.2 from by rw [ew90]]
        unfold bk_X1_heldRace_87
        refine wp_if (fun c91 => ?_) (fun c91 => ?_)
        · have c91 := cv_eq (a := z3.toInt) (b := (-1)) rfl (by decide) c91
          unfold bk_X1_heldRace_145
          refine wp_if (fun c92 => ?_) (fun c92 => ?_)
          · have c92 := cv_eq (a := z2.toInt) (b := (-1)) rfl (by decide) c92
            exfalso; omega
          · have c92 := cv_ne (a := z2.toInt) (b := (-1)) rfl (by decide) c92
            refine wp_bd (s_X4_addPrizes   o_me_isles_now z2 z86.1  hI_me_isles_now  ⟨by omega, by omega⟩) (fun z93 hz93 => ?_)
            obtain ⟨hz93_0, hz93_1⟩ := hz93
            have hkpz93_me_isles_now : Kp [4] [] [] o_me_isles_now z93 := Kp.rf.trans (hz93_1.mono (by decide) (by decide) (by decide))
            unfold bk_X1_heldRace_163
            refine wp_if (fun c94 => ?_) (fun c94 => ?_)
            · have c94 := cv_eq (a := z4.toInt) (b := (-1)) rfl (by decide) c94
              unfold bk_X1_heldRace_183
              have lp5 : ∀ (N5 : Nat) (v3_5 : Int32) (v9_5 : Int32) (o_me_isles_now_5 : Ob) (o_me_machine_5 : Ob), IvX4 o_me_isles_now_5 → Kp [4] [] [] o_me_isles_now o_me_isles_now_5 → IvX3 o_me_machine_5 → Kp [] [] [] o_me_machine o_me_machine_5 → (0 ≤ v3_5.toInt ∧ v3_5.toInt ≤ 6) → (0 ≤ v9_5.toInt ∧ v9_5.toInt ≤ 7) → (v3_5.toInt ≤ z2.toInt + 0) → (z2.toInt ≤ v3_5.toInt + 0) → (7 - v9_5.toInt).toNat < N5 → wp (lp_X1_heldRace_186 o_me o_me_isles o_pool  N5 (v3_5, v9_5, o_me_isles_now_5, o_me_machine_5)) (fun (y : Int32 × Ob × Ob) => ((-1) ≤ y.1.toInt ∧ y.1.toInt ≤ 6) ∧ IvX4 y.2.1 ∧ Kp [4] [] [] o_me_isles_now y.2.1 ∧ IvX3 y.2.2 ∧ Kp [] [] [] o_me_machine y.2.2) := by
                intro N5
                induction N5 with
                | zero =>
                  intro v3_5 v9_5 o_me_isles_now_5 o_me_machine_5 hI_me_isles_now_5 hkp_me_isles_now_5 hI_me_machine_5 hkp_me_machine_5 hh95 hh96 hh97 hh98 hN5
                  exact absurd hN5 (Nat.not_lt_zero _)
                | succ N5 ihx =>
                  have ih5 := ihx
                  intro v3_5 v9_5 o_me_isles_now_5 o_me_machine_5 hI_me_isles_now_5 hkp_me_isles_now_5 hI_me_machine_5 hkp_me_machine_5 hh95 hh96 hh97 hh98 hN5
                  show wp (lb_X1_heldRace_186 o_me o_me_isles o_pool  (lp_X1_heldRace_186 o_me o_me_isles o_pool  N5) v3_5 v9_5 o_me_isles_now_5 o_me_machine_5) (fun (y : Int32 × Ob × Ob) => ((-1) ≤ y.1.toInt ∧ y.1.toInt ≤ 6) ∧ IvX4 y.2.1 ∧ Kp [4] [] [] o_me_isles_now y.2.1 ∧ IvX3 y.2.2 ∧ Kp [] [] [] o_me_machine y.2.2)
                  unfold lb_X1_heldRace_186
                  have t99 := igX1_4 hI_me
                  refine wp_if (fun c100 => ?_) (fun c100 => ?_)
                  · have c100 := cv_ge (a := v9_5.toInt) (b := (gI o_me 4).toInt) rfl rfl c100
                    refine wp_some ?_
                    exact (show ((-1) ≤ v3_5.toInt ∧ v3_5.toInt ≤ 6) ∧ IvX4 o_me_isles_now_5 ∧ Kp [4] [] [] o_me_isles_now o_me_isles_now_5 ∧ IvX3 o_me_machine_5 ∧ Kp [] [] [] o_me_machine o_me_machine_5 from ⟨⟨by omega, by omega⟩, hI_me_isles_now_5, hkp_me_isles_now_5, hI_me_machine_5, hkp_me_machine_5⟩)
                  · have c100 := cv_nge (a := v9_5.toInt) (b := (gI o_me 4).toInt) rfl rfl c100
                    refine wp_gd (zin_of (m := 7) rfl (by omega) (by omega)) ?_
                    have t101 := iaX1_2_0 hI_me (j := v9_5) (by omega) (by omega)
                    have t102 : 1 ≤ ((1 : Int32) <<< ((gA o_me 2 v9_5.toNatClampNeg) &&& 31)).toInt ∧ ((1 : Int32) <<< ((gA o_me 2 v9_5.toNatClampNeg) &&& 31)).toInt ≤ 64 := i32_shl6 (p := gA o_me 2 v9_5.toNatClampNeg) (by omega) (by omega)
                    refine wp_lt (fun o103 eo103 => ?_)
                    have hIo103 : IvX4 o103 := by rw [eo103]; exact hI_me_isles_now_5
                    have ko103_v : (gI o103 2).toInt = ((gI o_me_isles_now_5 2) &&& (((1 : Int32) <<< ((gA o_me 2 v9_5.toNatClampNeg) &&& 31)) ^^^ (-1 : Int32))).toInt := by rw [eo103]; rfl
                    have hkpo103 : Kp [4] [] [] o_me_isles_now o103 := hkp_me_isles_now_5.trans (by rw [eo103]; exact Kp.sI (by decide))
                    refine wp_lt (fun x104 ex104 => ?_)
                    have tx104 : x104.toInt = v9_5.toInt + 1 := by rw [ex104]; exact i32_add rfl (by decide) (by omega) (by omega)
                    exact ih5 v3_5 x104 o103 o_me_machine_5 hIo103 hkpo103 hI_me_machine_5 hkp_me_machine_5 ⟨by omega, by omega⟩ ⟨by omega, by omega⟩ (by omega) (by omega) (by omega)
              exact lp5 zfu z2 (0 : Int32) z93 z86.2 hz93_0 hkpz93_me_isles_now hz86_0 hkpz86_me_machine ⟨by omega, by omega⟩ ⟨by decide, by decide⟩ (by omega) (by omega) (by show _ < 100000; omega)
            · have c94 := cv_ne (a := z4.toInt) (b := (-1)) rfl (by decide) c94
              exfalso; omega
        · have c91 := cv_ne (a := z3.toInt) (b := (-1)) rfl (by decide) c91
          exfalso; omega
      · have c89 := cv_ne (a := z4.toInt) (b := (-1)) rfl (by decide) c89
        refine wp_bd (s_X1_wins_Q   o_me o_me_isles o_me_isles_now z86.2 o_pool z1 z4 p0 (3 : Int32)  hI_me hI_me_isles hI_me_isles_now hz86_0 hI_pool hz1_0 ⟨by omega, by omega⟩ ⟨by omega, by omega⟩) (fun z105 hz105 => ?_)
        obtain ⟨hz105_0, hz105_1⟩ := hz105
        have hkpz105_me_machine : Kp [] [] [] o_me_machine z105.2 := hkpz86_me_machine.trans (hz105_1.mono (by decide) (by decide) (by decide))
        unfold bk_X1_heldRace_87
        refine wp_if (fun c106 => ?_) (fun c106 => ?_)
        · have c106 := cv_eq (a := z3.toInt) (b := (-1)) rfl (by decide) c106
          unfold bk_X1_heldRace_145
          refine wp_if (fun c107 => ?_) (fun c107 => ?_)
          · have c107 := cv_eq (a := z2.toInt) (b := (-1)) rfl (by decide) c107
            exfalso; omega
          · have c107 := cv_ne (a := z2.toInt) (b := (-1)) rfl (by decide) c107
            refine wp_bd (s_X4_addPrizes   o_me_isles_now z2 z86.1  hI_me_isles_now  ⟨by omega, by omega⟩) (fun z108 hz108 => ?_)
            obtain ⟨hz108_0, hz108_1⟩ := hz108
            have hkpz108_me_isles_now : Kp [4] [] [] o_me_isles_now z108 := Kp.rf.trans (hz108_1.mono (by decide) (by decide) (by decide))
            unfold bk_X1_heldRace_163
            refine wp_if (fun c109 => ?_) (fun c109 => ?_)
            · have c109 := cv_eq (a := z4.toInt) (b := (-1)) rfl (by decide) c109
              exfalso; omega
            · have c109 := cv_ne (a := z4.toInt) (b := (-1)) rfl (by decide) c109
              refine wp_bd (s_X4_addPrizes   z108 z4 z105.1  hz108_0  ⟨by omega, by omega⟩) (fun z110 hz110 => ?_)
              obtain ⟨hz110_0, hz110_1⟩ := hz110
              have hkpz110_me_isles_now : Kp [4] [] [] o_me_isles_now z110 := hkpz108_me_isles_now.trans (hz110_1.mono (by decide) (by decide) (by decide))
              unfold bk_X1_heldRace_183
              have lp6 : ∀ (N6 : Nat) (v3_6 : Int32) (v9_6 : Int32) (o_me_isles_now_6 : Ob) (o_me_machine_6 : Ob), IvX4 o_me_isles_now_6 → Kp [4] [] [] o_me_isles_now o_me_isles_now_6 → IvX3 o_me_machine_6 → Kp [] [] [] o_me_machine o_me_machine_6 → (0 ≤ v3_6.toInt ∧ v3_6.toInt ≤ 6) → (0 ≤ v9_6.toInt ∧ v9_6.toInt ≤ 7) → (v3_6.toInt ≤ z2.toInt + 0) → (z2.toInt ≤ v3_6.toInt + 0) → (7 - v9_6.toInt).toNat < N6 → wp (lp_X1_heldRace_186 o_me o_me_isles o_pool  N6 (v3_6, v9_6, o_me_isles_now_6, o_me_machine_6)) (fun (y : Int32 × Ob × Ob) => ((-1) ≤ y.1.toInt ∧ y.1.toInt ≤ 6) ∧ IvX4 y.2.1 ∧ Kp [4] [] [] o_me_isles_now y.2.1 ∧ IvX3 y.2.2 ∧ Kp [] [] [] o_me_machine y.2.2) := by
                intro N6
                induction N6 with
                | zero =>
                  intro v3_6 v9_6 o_me_isles_now_6 o_me_machine_6 hI_me_isles_now_6 hkp_me_isles_now_6 hI_me_machine_6 hkp_me_machine_6 hh111 hh112 hh113 hh114 hN6
                  exact absurd hN6 (Nat.not_lt_zero _)
                | succ N6 ihx =>
                  have ih6 := ihx
                  intro v3_6 v9_6 o_me_isles_now_6 o_me_machine_6 hI_me_isles_now_6 hkp_me_isles_now_6 hI_me_machine_6 hkp_me_machine_6 hh111 hh112 hh113 hh114 hN6
                  show wp (lb_X1_heldRace_186 o_me o_me_isles o_pool  (lp_X1_heldRace_186 o_me o_me_isles o_pool  N6) v3_6 v9_6 o_me_isles_now_6 o_me_machine_6) (fun (y : Int32 × Ob × Ob) => ((-1) ≤ y.1.toInt ∧ y.1.toInt ≤ 6) ∧ IvX4 y.2.1 ∧ Kp [4] [] [] o_me_isles_now y.2.1 ∧ IvX3 y.2.2 ∧ Kp [] [] [] o_me_machine y.2.2)
                  unfold lb_X1_heldRace_186
                  have t115 := igX1_4 hI_me
                  refine wp_if (fun c116 => ?_) (fun c116 => ?_)
                  · have c116 := cv_ge (a := v9_6.toInt) (b := (gI o_me 4).toInt) rfl rfl c116
                    refine wp_some ?_
                    exact (show ((-1) ≤ v3_6.toInt ∧ v3_6.toInt ≤ 6) ∧ IvX4 o_me_isles_now_6 ∧ Kp [4] [] [] o_me_isles_now o_me_isles_now_6 ∧ IvX3 o_me_machine_6 ∧ Kp [] [] [] o_me_machine o_me_machine_6 from ⟨⟨by omega, by omega⟩, hI_me_isles_now_6, hkp_me_isles_now_6, hI_me_machine_6, hkp_me_machine_6⟩)
                  · have c116 := cv_nge (a := v9_6.toInt) (b := (gI o_me 4).toInt) rfl rfl c116
                    refine wp_gd (zin_of (m := 7) rfl (by omega) (by omega)) ?_
                    have t117 := iaX1_2_0 hI_me (j := v9_6) (by omega) (by omega)
                    have t118 : 1 ≤ ((1 : Int32) <<< ((gA o_me 2 v9_6.toNatClampNeg) &&& 31)).toInt ∧ ((1 : Int32) <<< ((gA o_me 2 v9_6.toNatClampNeg) &&& 31)).toInt ≤ 64 := i32_shl6 (p := gA o_me 2 v9_6.toNatClampNeg) (by omega) (by omega)
                    refine wp_lt (fun o119 eo119 => ?_)
                    have hIo119 : IvX4 o119 := by rw [eo119]; exact hI_me_isles_now_6
                    have ko119_v : (gI o119 2).toInt = ((gI o_me_isles_now_6 2) &&& (((1 : Int32) <<< ((gA o_me 2 v9_6.toNatClampNeg) &&& 31)) ^^^ (-1 : Int32))).toInt := by rw [eo119]; rfl
                    have hkpo119 : Kp [4] [] [] o_me_isles_now o119 := hkp_me_isles_now_6.trans (by rw [eo119]; exact Kp.sI (by decide))
                    refine wp_lt (fun x120 ex120 => ?_)
                    have tx120 : x120.toInt = v9_6.toInt + 1 := by rw [ex120]; exact i32_add rfl (by decide) (by omega) (by omega)
                    exact ih6 v3_6 x120 o119 o_me_machine_6 hIo119 hkpo119 hI_me_machine_6 hkp_me_machine_6 ⟨by omega, by omega⟩ ⟨by omega, by omega⟩ (by omega) (by omega) (by omega)
              exact lp6 zfu z2 (0 : Int32) z110 z105.2 hz110_0 hkpz110_me_isles_now hz105_0 hkpz105_me_machine ⟨by omega, by omega⟩ ⟨by decide, by decide⟩ (by omega) (by omega) (by show _ < 100000; omega)
        · have c106 := cv_ne (a := z3.toInt) (b := (-1)) rfl (by decide) c106
          exfalso; omega
    · have c87 := cv_ne (a := z3.toInt) (b := (-1)) rfl (by decide) c87
      refine wp_bd (s_X1_wins_Q   o_me o_me_isles o_me_isles_now z86.2 o_pool z1 z3 p0 (2 : Int32)  hI_me hI_me_isles hI_me_isles_now hz86_0 hI_pool hz1_0 ⟨by omega, by omega⟩ ⟨by omega, by omega⟩) (fun z121 hz121 => ?_)
      obtain ⟨hz121_0, hz121_1⟩ := hz121
      have hkpz121_me_machine : Kp [] [] [] o_me_machine z121.2 := hkpz86_me_machine.trans (hz121_1.mono (by decide) (by decide) (by decide))
      unfold bk_X1_heldRace_66
      refine wp_if (fun c122 => ?_) (fun c122 => ?_)
      · have c122 := cv_eq (a := z4.toInt) (b := (-1)) rfl (by decide) c122
        obtain ⟨w123, ew123⟩ : ∃ z : Int32, z = (0 : Int32) := ⟨_, rfl⟩
        have tw123 : w123.toInt = 0 := by rw [ew123]; decide
        rw [show bk_X1_heldRace_87 o_me o_me_isles o_pool  p0 z1 z2 z3 z4 z86.1 z121.1 (0 : Int32) o_me_isles_now z121.2 = bk_X1_heldRace_87 o_me o_me_isles o_pool  p0 z1 z2 z3 z4 z86.1 z121.1 w123 o_me_isles_now z121.2 from by rw [ew123]]
        unfold bk_X1_heldRace_87
        refine wp_if (fun c124 => ?_) (fun c124 => ?_)
        · have c124 := cv_eq (a := z3.toInt) (b := (-1)) rfl (by decide) c124
          exfalso; omega
        · have c124 := cv_ne (a := z3.toInt) (b := (-1)) rfl (by decide) c124
          refine wp_bd (s_X1_turnsTo_Q   o_me o_me_isles o_me_isles_now z121.2 o_pool z1 z3 p0  hI_me hI_me_isles hI_me_isles_now hz121_0 hI_pool hz1_0 ⟨by omega, by omega⟩ ⟨by omega, by omega⟩) (fun z125 hz125 => ?_)
          obtain ⟨hz125_0, hz125_1, hz125_2⟩ := hz125
          have hkpz125_me_machine : Kp [] [] [] o_me_machine z125.2 := hkpz121_me_machine.trans (hz125_2.mono (by decide) (by decide) (by decide))
          refine wp_gd (zin_of (m := 7) rfl (by omega) (by omega)) ?_
          refine wp_lt (fun o126 eo126 => ?_)
          have hIo126 : IvX4 o126 := by rw [eo126]; exact ibX4_0 hI_me_isles_now (by omega) (Or.inr (Or.inr ⟨by omega, by omega⟩))
          have ko126_v : (gA o126 0 z3.toNatClampNeg).toInt = z125.1.toInt := by rw [eo126]; exact congrArg Int32.toInt (upd_eq (g := gA o_me_isles_now 0) (i := z3) (v := z125.1))
          have hkpo126 : Kp [4] [] [] o_me_isles_now o126 := Kp.rf.trans (by rw [eo126]; exact Kp.tA (by decide) (by decide))
          have rg128 := i32_rg ((gI o126 3) + z121.1)
          have t127 : (-2147483648) ≤ (if ((gI o126 3) + z121.1) < (999 : Int32) then ((gI o126 3) + z121.1) else (999 : Int32)).toInt ∧ (if ((gI o126 3) + z121.1) < (999 : Int32) then ((gI o126 3) + z121.1) else (999 : Int32)).toInt ≤ 999 := z_min (a := 999) (b := ((gI o126 3) + z121.1).toInt) (by decide) rfl (by omega) (by omega)
          have t129 := z_mng (999 : Int32) ((gI o126 3) + z121.1)
          refine wp_lt (fun o130 eo130 => ?_)
          have hIo130 : IvX4 o130 := by rw [eo130]; exact hIo126
          have ko130_k131 : (gA o130 0 z3.toNatClampNeg).toInt = (gA o126 0 z3.toNatClampNeg).toInt := by rw [eo130]; rfl
          have ko130_v : (gI o130 3).toInt = (if ((gI o126 3) + z121.1) < (999 : Int32) then ((gI o126 3) + z121.1) else (999 : Int32)).toInt := by rw [eo130]; rfl
          have hkpo130 : Kp [4] [] [] o_me_isles_now o130 := hkpo126.trans (by rw [eo130]; exact Kp.sI (by decide))
          unfold bk_X1_heldRace_145
          refine wp_if (fun c132 => ?_) (fun c132 => ?_)
          · have c132 := cv_eq (a := z2.toInt) (b := (-1)) rfl (by decide) c132
            exfalso; omega
          · have c132 := cv_ne (a := z2.toInt) (b := (-1)) rfl (by decide) c132
            refine wp_bd (s_X4_addPrizes   o130 z2 z86.1  hIo130  ⟨by omega, by omega⟩) (fun z133 hz133 => ?_)
            obtain ⟨hz133_0, hz133_1⟩ := hz133
            have hkpz133_me_isles_now : Kp [4] [] [] o_me_isles_now z133 := hkpo130.trans (hz133_1.mono (by decide) (by decide) (by decide))
            have kz133_k134 : (gA z133 0 z3.toNatClampNeg).toInt = (gA o130 0 z3.toNatClampNeg).toInt := congrArg (fun g => (g z3.toNatClampNeg).toInt) (hz133_1.2.1 0 (by decide))
            have kz133_k135 : (gI z133 3).toInt = (gI o130 3).toInt := congrArg Int32.toInt (hz133_1.1 3 (by decide))
            unfold bk_X1_heldRace_163
            refine wp_if (fun c136 => ?_) (fun c136 => ?_)
            · have c136 := cv_eq (a := z4.toInt) (b := (-1)) rfl (by decide) c136
              unfold bk_X1_heldRace_183
              have lp7 : ∀ (N7 : Nat) (v3_7 : Int32) (v9_7 : Int32) (o_me_isles_now_7 : Ob) (o_me_machine_7 : Ob), IvX4 o_me_isles_now_7 → Kp [4] [] [] o_me_isles_now o_me_isles_now_7 → IvX3 o_me_machine_7 → Kp [] [] [] o_me_machine o_me_machine_7 → (0 ≤ v3_7.toInt ∧ v3_7.toInt ≤ 6) → (0 ≤ v9_7.toInt ∧ v9_7.toInt ≤ 7) → ((-2147483648) ≤ (gI o_me_isles_now_7 3).toInt ∧ (gI o_me_isles_now_7 3).toInt ≤ 999) → (v3_7.toInt ≤ z2.toInt + 0) → (z2.toInt ≤ v3_7.toInt + 0) → (7 - v9_7.toInt).toNat < N7 → wp (lp_X1_heldRace_186 o_me o_me_isles o_pool  N7 (v3_7, v9_7, o_me_isles_now_7, o_me_machine_7)) (fun (y : Int32 × Ob × Ob) => ((-1) ≤ y.1.toInt ∧ y.1.toInt ≤ 6) ∧ IvX4 y.2.1 ∧ Kp [4] [] [] o_me_isles_now y.2.1 ∧ IvX3 y.2.2 ∧ Kp [] [] [] o_me_machine y.2.2) := by
                intro N7
                induction N7 with
                | zero =>
                  intro v3_7 v9_7 o_me_isles_now_7 o_me_machine_7 hI_me_isles_now_7 hkp_me_isles_now_7 hI_me_machine_7 hkp_me_machine_7 hh137 hh138 hh139 hh140 hh141 hN7
                  exact absurd hN7 (Nat.not_lt_zero _)
                | succ N7 ihx =>
                  have ih7 := ihx
                  intro v3_7 v9_7 o_me_isles_now_7 o_me_machine_7 hI_me_isles_now_7 hkp_me_isles_now_7 hI_me_machine_7 hkp_me_machine_7 hh137 hh138 hh139 hh140 hh141 hN7
                  show wp (lb_X1_heldRace_186 o_me o_me_isles o_pool  (lp_X1_heldRace_186 o_me o_me_isles o_pool  N7) v3_7 v9_7 o_me_isles_now_7 o_me_machine_7) (fun (y : Int32 × Ob × Ob) => ((-1) ≤ y.1.toInt ∧ y.1.toInt ≤ 6) ∧ IvX4 y.2.1 ∧ Kp [4] [] [] o_me_isles_now y.2.1 ∧ IvX3 y.2.2 ∧ Kp [] [] [] o_me_machine y.2.2)
                  unfold lb_X1_heldRace_186
                  have t142 := igX1_4 hI_me
                  refine wp_if (fun c143 => ?_) (fun c143 => ?_)
                  · have c143 := cv_ge (a := v9_7.toInt) (b := (gI o_me 4).toInt) rfl rfl c143
                    refine wp_some ?_
                    exact (show ((-1) ≤ v3_7.toInt ∧ v3_7.toInt ≤ 6) ∧ IvX4 o_me_isles_now_7 ∧ Kp [4] [] [] o_me_isles_now o_me_isles_now_7 ∧ IvX3 o_me_machine_7 ∧ Kp [] [] [] o_me_machine o_me_machine_7 from ⟨⟨by omega, by omega⟩, hI_me_isles_now_7, hkp_me_isles_now_7, hI_me_machine_7, hkp_me_machine_7⟩)
                  · have c143 := cv_nge (a := v9_7.toInt) (b := (gI o_me 4).toInt) rfl rfl c143
                    refine wp_gd (zin_of (m := 7) rfl (by omega) (by omega)) ?_
                    have t144 := iaX1_2_0 hI_me (j := v9_7) (by omega) (by omega)
                    have t145 : 1 ≤ ((1 : Int32) <<< ((gA o_me 2 v9_7.toNatClampNeg) &&& 31)).toInt ∧ ((1 : Int32) <<< ((gA o_me 2 v9_7.toNatClampNeg) &&& 31)).toInt ≤ 64 := i32_shl6 (p := gA o_me 2 v9_7.toNatClampNeg) (by omega) (by omega)
                    refine wp_lt (fun o146 eo146 => ?_)
                    have hIo146 : IvX4 o146 := by rw [eo146]; exact hI_me_isles_now_7
                    have ko146_k147 : (gI o146 3).toInt = (gI o_me_isles_now_7 3).toInt := by rw [eo146]; rfl
                    have ko146_v : (gI o146 2).toInt = ((gI o_me_isles_now_7 2) &&& (((1 : Int32) <<< ((gA o_me 2 v9_7.toNatClampNeg) &&& 31)) ^^^ (-1 : Int32))).toInt := by rw [eo146]; rfl
                    have hkpo146 : Kp [4] [] [] o_me_isles_now o146 := hkp_me_isles_now_7.trans (by rw [eo146]; exact Kp.sI (by decide))
                    refine wp_lt (fun x148 ex148 => ?_)
                    have tx148 : x148.toInt = v9_7.toInt + 1 := by rw [ex148]; exact i32_add rfl (by decide) (by omega) (by omega)
                    have rg149 := i32_rg (gI o146 3)
                    exact ih7 v3_7 x148 o146 o_me_machine_7 hIo146 hkpo146 hI_me_machine_7 hkp_me_machine_7 ⟨by omega, by omega⟩ ⟨by omega, by omega⟩ ⟨by omega, by omega⟩ (by omega) (by omega) (by omega)
              have rg150 := i32_rg (gI z133 3)
              exact lp7 zfu z2 (0 : Int32) z133 z125.2 hz133_0 hkpz133_me_isles_now hz125_1 hkpz125_me_machine ⟨by omega, by omega⟩ ⟨by decide, by decide⟩ ⟨by omega, by omega⟩ (by omega) (by omega) (by show _ < 100000; omega)
            · have c136 := cv_ne (a := z4.toInt) (b := (-1)) rfl (by decide) c136
              exfalso; omega
      · have c122 := cv_ne (a := z4.toInt) (b := (-1)) rfl (by decide) c122
        refine wp_bd (s_X1_wins_Q   o_me o_me_isles o_me_isles_now z121.2 o_pool z1 z4 p0 (3 : Int32)  hI_me hI_me_isles hI_me_isles_now hz121_0 hI_pool hz1_0 ⟨by omega, by omega⟩ ⟨by omega, by omega⟩) (fun z151 hz151 => ?_)
        obtain ⟨hz151_0, hz151_1⟩ := hz151
        have hkpz151_me_machine : Kp [] [] [] o_me_machine z151.2 := hkpz121_me_machine.trans (hz151_1.mono (by decide) (by decide) (by decide))
        unfold bk_X1_heldRace_87
        refine wp_if (fun c152 => ?_) (fun c152 => ?_)
        · have c152 := cv_eq (a := z3.toInt) (b := (-1)) rfl (by decide) c152
          exfalso; omega
        · have c152 := cv_ne (a := z3.toInt) (b := (-1)) rfl (by decide) c152
          refine wp_bd (s_X1_turnsTo_Q   o_me o_me_isles o_me_isles_now z151.2 o_pool z1 z3 p0  hI_me hI_me_isles hI_me_isles_now hz151_0 hI_pool hz1_0 ⟨by omega, by omega⟩ ⟨by omega, by omega⟩) (fun z153 hz153 => ?_)
          obtain ⟨hz153_0, hz153_1, hz153_2⟩ := hz153
          have hkpz153_me_machine : Kp [] [] [] o_me_machine z153.2 := hkpz151_me_machine.trans (hz153_2.mono (by decide) (by decide) (by decide))
          refine wp_gd (zin_of (m := 7) rfl (by omega) (by omega)) ?_
          refine wp_lt (fun o154 eo154 => ?_)
          have hIo154 : IvX4 o154 := by rw [eo154]; exact ibX4_0 hI_me_isles_now (by omega) (Or.inr (Or.inr ⟨by omega, by omega⟩))
          have ko154_v : (gA o154 0 z3.toNatClampNeg).toInt = z153.1.toInt := by rw [eo154]; exact congrArg Int32.toInt (upd_eq (g := gA o_me_isles_now 0) (i := z3) (v := z153.1))
          have hkpo154 : Kp [4] [] [] o_me_isles_now o154 := Kp.rf.trans (by rw [eo154]; exact Kp.tA (by decide) (by decide))
          have rg156 := i32_rg ((gI o154 3) + z121.1)
          have t155 : (-2147483648) ≤ (if ((gI o154 3) + z121.1) < (999 : Int32) then ((gI o154 3) + z121.1) else (999 : Int32)).toInt ∧ (if ((gI o154 3) + z121.1) < (999 : Int32) then ((gI o154 3) + z121.1) else (999 : Int32)).toInt ≤ 999 := z_min (a := 999) (b := ((gI o154 3) + z121.1).toInt) (by decide) rfl (by omega) (by omega)
          have t157 := z_mng (999 : Int32) ((gI o154 3) + z121.1)
          refine wp_lt (fun o158 eo158 => ?_)
          have hIo158 : IvX4 o158 := by rw [eo158]; exact hIo154
          have ko158_k159 : (gA o158 0 z3.toNatClampNeg).toInt = (gA o154 0 z3.toNatClampNeg).toInt := by rw [eo158]; rfl
          have ko158_v : (gI o158 3).toInt = (if ((gI o154 3) + z121.1) < (999 : Int32) then ((gI o154 3) + z121.1) else (999 : Int32)).toInt := by rw [eo158]; rfl
          have hkpo158 : Kp [4] [] [] o_me_isles_now o158 := hkpo154.trans (by rw [eo158]; exact Kp.sI (by decide))
          unfold bk_X1_heldRace_145
          refine wp_if (fun c160 => ?_) (fun c160 => ?_)
          · have c160 := cv_eq (a := z2.toInt) (b := (-1)) rfl (by decide) c160
            exfalso; omega
          · have c160 := cv_ne (a := z2.toInt) (b := (-1)) rfl (by decide) c160
            refine wp_bd (s_X4_addPrizes   o158 z2 z86.1  hIo158  ⟨by omega, by omega⟩) (fun z161 hz161 => ?_)
            obtain ⟨hz161_0, hz161_1⟩ := hz161
            have hkpz161_me_isles_now : Kp [4] [] [] o_me_isles_now z161 := hkpo158.trans (hz161_1.mono (by decide) (by decide) (by decide))
            have kz161_k162 : (gA z161 0 z3.toNatClampNeg).toInt = (gA o158 0 z3.toNatClampNeg).toInt := congrArg (fun g => (g z3.toNatClampNeg).toInt) (hz161_1.2.1 0 (by decide))
            have kz161_k163 : (gI z161 3).toInt = (gI o158 3).toInt := congrArg Int32.toInt (hz161_1.1 3 (by decide))
            unfold bk_X1_heldRace_163
            refine wp_if (fun c164 => ?_) (fun c164 => ?_)
            · have c164 := cv_eq (a := z4.toInt) (b := (-1)) rfl (by decide) c164
              exfalso; omega
            · have c164 := cv_ne (a := z4.toInt) (b := (-1)) rfl (by decide) c164
              refine wp_bd (s_X4_addPrizes   z161 z4 z151.1  hz161_0  ⟨by omega, by omega⟩) (fun z165 hz165 => ?_)
              obtain ⟨hz165_0, hz165_1⟩ := hz165
              have hkpz165_me_isles_now : Kp [4] [] [] o_me_isles_now z165 := hkpz161_me_isles_now.trans (hz165_1.mono (by decide) (by decide) (by decide))
              have kz165_k166 : (gA z165 0 z3.toNatClampNeg).toInt = (gA z161 0 z3.toNatClampNeg).toInt := congrArg (fun g => (g z3.toNatClampNeg).toInt) (hz165_1.2.1 0 (by decide))
              have kz165_k167 : (gI z165 3).toInt = (gI z161 3).toInt := congrArg Int32.toInt (hz165_1.1 3 (by decide))
              unfold bk_X1_heldRace_183
              have lp8 : ∀ (N8 : Nat) (v3_8 : Int32) (v9_8 : Int32) (o_me_isles_now_8 : Ob) (o_me_machine_8 : Ob), IvX4 o_me_isles_now_8 → Kp [4] [] [] o_me_isles_now o_me_isles_now_8 → IvX3 o_me_machine_8 → Kp [] [] [] o_me_machine o_me_machine_8 → (0 ≤ v3_8.toInt ∧ v3_8.toInt ≤ 6) → (0 ≤ v9_8.toInt ∧ v9_8.toInt ≤ 7) → ((-2147483648) ≤ (gI o_me_isles_now_8 3).toInt ∧ (gI o_me_isles_now_8 3).toInt ≤ 999) → (v3_8.toInt ≤ z2.toInt + 0) → (z2.toInt ≤ v3_8.toInt + 0) → (7 - v9_8.toInt).toNat < N8 → wp (lp_X1_heldRace_186 o_me o_me_isles o_pool  N8 (v3_8, v9_8, o_me_isles_now_8, o_me_machine_8)) (fun (y : Int32 × Ob × Ob) => ((-1) ≤ y.1.toInt ∧ y.1.toInt ≤ 6) ∧ IvX4 y.2.1 ∧ Kp [4] [] [] o_me_isles_now y.2.1 ∧ IvX3 y.2.2 ∧ Kp [] [] [] o_me_machine y.2.2) := by
                intro N8
                induction N8 with
                | zero =>
                  intro v3_8 v9_8 o_me_isles_now_8 o_me_machine_8 hI_me_isles_now_8 hkp_me_isles_now_8 hI_me_machine_8 hkp_me_machine_8 hh168 hh169 hh170 hh171 hh172 hN8
                  exact absurd hN8 (Nat.not_lt_zero _)
                | succ N8 ihx =>
                  have ih8 := ihx
                  intro v3_8 v9_8 o_me_isles_now_8 o_me_machine_8 hI_me_isles_now_8 hkp_me_isles_now_8 hI_me_machine_8 hkp_me_machine_8 hh168 hh169 hh170 hh171 hh172 hN8
                  show wp (lb_X1_heldRace_186 o_me o_me_isles o_pool  (lp_X1_heldRace_186 o_me o_me_isles o_pool  N8) v3_8 v9_8 o_me_isles_now_8 o_me_machine_8) (fun (y : Int32 × Ob × Ob) => ((-1) ≤ y.1.toInt ∧ y.1.toInt ≤ 6) ∧ IvX4 y.2.1 ∧ Kp [4] [] [] o_me_isles_now y.2.1 ∧ IvX3 y.2.2 ∧ Kp [] [] [] o_me_machine y.2.2)
                  unfold lb_X1_heldRace_186
                  have t173 := igX1_4 hI_me
                  refine wp_if (fun c174 => ?_) (fun c174 => ?_)
                  · have c174 := cv_ge (a := v9_8.toInt) (b := (gI o_me 4).toInt) rfl rfl c174
                    refine wp_some ?_
                    exact (show ((-1) ≤ v3_8.toInt ∧ v3_8.toInt ≤ 6) ∧ IvX4 o_me_isles_now_8 ∧ Kp [4] [] [] o_me_isles_now o_me_isles_now_8 ∧ IvX3 o_me_machine_8 ∧ Kp [] [] [] o_me_machine o_me_machine_8 from ⟨⟨by omega, by omega⟩, hI_me_isles_now_8, hkp_me_isles_now_8, hI_me_machine_8, hkp_me_machine_8⟩)
                  · have c174 := cv_nge (a := v9_8.toInt) (b := (gI o_me 4).toInt) rfl rfl c174
                    refine wp_gd (zin_of (m := 7) rfl (by omega) (by omega)) ?_
                    have t175 := iaX1_2_0 hI_me (j := v9_8) (by omega) (by omega)
                    have t176 : 1 ≤ ((1 : Int32) <<< ((gA o_me 2 v9_8.toNatClampNeg) &&& 31)).toInt ∧ ((1 : Int32) <<< ((gA o_me 2 v9_8.toNatClampNeg) &&& 31)).toInt ≤ 64 := i32_shl6 (p := gA o_me 2 v9_8.toNatClampNeg) (by omega) (by omega)
                    refine wp_lt (fun o177 eo177 => ?_)
                    have hIo177 : IvX4 o177 := by rw [eo177]; exact hI_me_isles_now_8
                    have ko177_k178 : (gI o177 3).toInt = (gI o_me_isles_now_8 3).toInt := by rw [eo177]; rfl
                    have ko177_v : (gI o177 2).toInt = ((gI o_me_isles_now_8 2) &&& (((1 : Int32) <<< ((gA o_me 2 v9_8.toNatClampNeg) &&& 31)) ^^^ (-1 : Int32))).toInt := by rw [eo177]; rfl
                    have hkpo177 : Kp [4] [] [] o_me_isles_now o177 := hkp_me_isles_now_8.trans (by rw [eo177]; exact Kp.sI (by decide))
                    refine wp_lt (fun x179 ex179 => ?_)
                    have tx179 : x179.toInt = v9_8.toInt + 1 := by rw [ex179]; exact i32_add rfl (by decide) (by omega) (by omega)
                    have rg180 := i32_rg (gI o177 3)
                    exact ih8 v3_8 x179 o177 o_me_machine_8 hIo177 hkpo177 hI_me_machine_8 hkp_me_machine_8 ⟨by omega, by omega⟩ ⟨by omega, by omega⟩ ⟨by omega, by omega⟩ (by omega) (by omega) (by omega)
              have rg181 := i32_rg (gI z165 3)
              exact lp8 zfu z2 (0 : Int32) z165 z153.2 hz165_0 hkpz165_me_isles_now hz153_1 hkpz153_me_machine ⟨by omega, by omega⟩ ⟨by decide, by decide⟩ ⟨by omega, by omega⟩ (by omega) (by omega) (by show _ < 100000; omega)

