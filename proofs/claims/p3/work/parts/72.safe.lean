set_option maxHeartbeats 4000000 in
set_option maxRecDepth 100000 in
theorem s_X9_in (p0 : Int64) (p1 : Int64) (p2 : Int64)   : wp (f_X9_in   p0 p1 p2) (fun (y : Int32) => (0 ≤ y.toInt ∧ y.toInt ≤ 1) ∧ (¬ y = 0 → (p1.toInt ≤ p0.toInt + 0) ∧ (p0.toInt ≤ p2.toInt + 0))) := by
  have li0 : (0 : Int32).toInt = 0 := by decide
  have li1 : (1 : Int32).toInt = 1 := by decide
  unfold f_X9_in
  refine wp_if (fun c1 => ?_) (fun c1 => ?_)
  · have c1 := cvl_lt (a := p0.toInt) (b := p1.toInt) rfl rfl c1
    refine wp_some ?_
    exact (show (0 ≤ (0 : Int32).toInt ∧ (0 : Int32).toInt ≤ 1) ∧ (¬ (0 : Int32) = 0 → (p1.toInt ≤ p0.toInt + 0) ∧ (p0.toInt ≤ p2.toInt + 0)) from ⟨⟨by decide, by decide⟩, (fun h9 => absurd rfl h9)⟩)
  · have c1 := cvl_nlt (a := p0.toInt) (b := p1.toInt) rfl rfl c1
    refine wp_if (fun c2 => ?_) (fun c2 => ?_)
    · have c2 := cvl_gt (a := p0.toInt) (b := p2.toInt) rfl rfl c2
      refine wp_some ?_
      exact (show (0 ≤ (0 : Int32).toInt ∧ (0 : Int32).toInt ≤ 1) ∧ (¬ (0 : Int32) = 0 → (p1.toInt ≤ p0.toInt + 0) ∧ (p0.toInt ≤ p2.toInt + 0)) from ⟨⟨by decide, by decide⟩, (fun h9 => absurd rfl h9)⟩)
    · have c2 := cvl_ngt (a := p0.toInt) (b := p2.toInt) rfl rfl c2
      refine wp_some ?_
      exact (show (0 ≤ (1 : Int32).toInt ∧ (1 : Int32).toInt ≤ 1) ∧ (¬ (1 : Int32) = 0 → (p1.toInt ≤ p0.toInt + 0) ∧ (p0.toInt ≤ p2.toInt + 0)) from ⟨⟨by decide, by decide⟩, (fun h9 => ⟨by omega, by omega⟩)⟩)

set_option maxHeartbeats 4000000 in
set_option maxRecDepth 100000 in
theorem s_X9_isRace (p0 : Int32)   : wp (f_X9_isRace   p0) (fun (y : Int32) => (0 ≤ y.toInt ∧ y.toInt ≤ 1) ∧ (¬ y = 0 → (0 ≤ p0.toInt ∧ p0.toInt ≤ 3))) := by
  have li0 : (0 : Int64).toInt = 0 := by decide
  have li1 : (3 : Int64).toInt = 3 := by decide
  unfold f_X9_isRace
  have rg1 := i32_rg p0
  have t2 : p0.toInt64.toInt = p0.toInt := Int32.toInt_toInt64 _
  refine wp_bd (s_X9_in   p0.toInt64 (0 : Int64) (3 : Int64)    ) (fun z3 hz3 => ?_)
  obtain ⟨hz3_0, hz3_1⟩ := hz3
  refine wp_gd (zbo_of (by omega) (by omega)) ?_
  refine wp_some ?_
  exact (show (0 ≤ z3.toInt ∧ z3.toInt ≤ 1) ∧ (¬ z3 = 0 → (0 ≤ p0.toInt ∧ p0.toInt ≤ 3)) from ⟨⟨by omega, by omega⟩, (fun h9 => by have i0 := hz3_1 h9; exact ⟨by omega, by omega⟩)⟩)

set_option maxHeartbeats 4000000 in
set_option maxRecDepth 100000 in
theorem s_X9_reckon (o_me : Ob) (p0 : Int32) (p1 : Int64) (p2 : Int64) (hI_me : IvX9 o_me)  : wp (f_X9_reckon   o_me p0 p1 p2) (fun (y : Int64 × Ob) => IvX9 y.2 ∧ Kp [1, 8, 11, 13, 14, 15, 16, 18, 19, 20, 21, 23, 26, 29, 34, 43, 56, 57, 58, 59, 62] [2, 3, 4, 5, 7, 10, 12, 22, 24, 25, 27, 28, 42, 48, 50, 51, 55, 61] [(0, 1), (1, 2), (29, 36), (36, 64), (64, 71)] o_me y.2) := by
  have li0 : (0 : Int32).toInt = 0 := by decide
  have li1 : (0 : Int64).toInt = 0 := by decide
  have li2 : (1 : Int32).toInt = 1 := by decide
  have li3 : (1 : Int64).toInt = 1 := by decide
  unfold f_X9_reckon
  refine wp_if (fun c1 => ?_) (fun c1 => ?_)
  · have c1 := cv_eq (a := p0.toInt) (b := 20) rfl (by decide) c1
    refine wp_some ?_
    exact (show IvX9 o_me ∧ Kp [1, 8, 11, 13, 14, 15, 16, 18, 19, 20, 21, 23, 26, 29, 34, 43, 56, 57, 58, 59, 62] [2, 3, 4, 5, 7, 10, 12, 22, 24, 25, 27, 28, 42, 48, 50, 51, 55, 61] [(0, 1), (1, 2), (29, 36), (36, 64), (64, 71)] o_me o_me from ⟨hI_me, Kp.rf⟩)
  have c1 := cv_ne (a := p0.toInt) (b := 20) rfl (by decide) c1
  refine wp_if (fun c2 => ?_) (fun c2 => ?_)
  · have c2 := cv_eq (a := p0.toInt) (b := 21) rfl (by decide) c2
    refine wp_some ?_
    exact (show IvX9 o_me ∧ Kp [1, 8, 11, 13, 14, 15, 16, 18, 19, 20, 21, 23, 26, 29, 34, 43, 56, 57, 58, 59, 62] [2, 3, 4, 5, 7, 10, 12, 22, 24, 25, 27, 28, 42, 48, 50, 51, 55, 61] [(0, 1), (1, 2), (29, 36), (36, 64), (64, 71)] o_me o_me from ⟨hI_me, Kp.rf⟩)
  have c2 := cv_ne (a := p0.toInt) (b := 21) rfl (by decide) c2
  refine wp_if (fun c3 => ?_) (fun c3 => ?_)
  · have c3 := cv_eq (a := p0.toInt) (b := 22) rfl (by decide) c3
    refine wp_some ?_
    exact (show IvX9 o_me ∧ Kp [1, 8, 11, 13, 14, 15, 16, 18, 19, 20, 21, 23, 26, 29, 34, 43, 56, 57, 58, 59, 62] [2, 3, 4, 5, 7, 10, 12, 22, 24, 25, 27, 28, 42, 48, 50, 51, 55, 61] [(0, 1), (1, 2), (29, 36), (36, 64), (64, 71)] o_me o_me from ⟨hI_me, Kp.rf⟩)
  have c3 := cv_ne (a := p0.toInt) (b := 22) rfl (by decide) c3
  refine wp_if (fun c4 => ?_) (fun c4 => ?_)
  · have c4 := cv_eq (a := p0.toInt) (b := 23) rfl (by decide) c4
    refine wp_if (fun c5 => ?_) (fun c5 => ?_)
    · have c5 := cvl_eq (a := p2.toInt) (b := 0) rfl (by decide) c5
      obtain ⟨w6, ew6⟩ : ∃ z : Int32, z = (1 : Int32) := ⟨_, rfl⟩
      have tw6 : w6.toInt = 1 := by rw [ew6]; decide
      rw [show bk_X9_reckon_72   p1 p2 (1 : Int32) o_me = bk_X9_reckon_72   p1 p2 w6 o_me from by rw [ew6]]
      unfold bk_X9_reckon_72
      refine wp_gd (zbo_of (by omega) (by omega)) ?_
      refine wp_lt (fun o7 eo7 => ?_)
      have hIo7 : IvX9 o7 := by rw [eo7]; exact ipX9_38 hI_me ⟨by omega, by omega⟩
      have ko7_v : (gI o7 38).toInt = w6.toInt := by rw [eo7]; rfl
      have hkpo7 : Kp [1, 8, 11, 13, 14, 15, 16, 18, 19, 20, 21, 23, 26, 29, 34, 43, 56, 57, 58, 59, 62] [2, 3, 4, 5, 7, 10, 12, 22, 24, 25, 27, 28, 42, 48, 50, 51, 55, 61] [(0, 1), (1, 2), (29, 36), (36, 64), (64, 71)] o_me o7 := Kp.rf.trans (by rw [eo7]; exact Kp.sI (by decide))
      refine wp_if (fun c8 => ?_) (fun c8 => ?_)
      · have c8 := cv_eq (a := (gI o7 38).toInt) (b := 0) rfl (by decide) c8
        exfalso; omega
      · have c8z := c8
        have c8 := cv_ne (a := (gI o7 38).toInt) (b := 0) rfl (by decide) c8
        refine wp_some ?_
        exact (show IvX9 o7 ∧ Kp [1, 8, 11, 13, 14, 15, 16, 18, 19, 20, 21, 23, 26, 29, 34, 43, 56, 57, 58, 59, 62] [2, 3, 4, 5, 7, 10, 12, 22, 24, 25, 27, 28, 42, 48, 50, 51, 55, 61] [(0, 1), (1, 2), (29, 36), (36, 64), (64, 71)] o_me o7 from ⟨hIo7, hkpo7⟩)
    · have c5z := mt (fun e9 => (lg_cmp_eq _ _).mpr e9) c5
      have c5 := cvl_ne (a := p2.toInt) (b := 0) rfl (by decide) c5
      obtain ⟨w9, ew9⟩ : ∃ z : Int32, z = (0 : Int32) := ⟨_, rfl⟩
      have tw9 : w9.toInt = 0 := by rw [ew9]; decide
      rw [show bk_X9_reckon_72   p1 p2 (0 : Int32) o_me = bk_X9_reckon_72   p1 p2 w9 o_me from by rw [ew9]]
      unfold bk_X9_reckon_72
      refine wp_gd (zbo_of (by omega) (by omega)) ?_
      refine wp_lt (fun o10 eo10 => ?_)
      have hIo10 : IvX9 o10 := by rw [eo10]; exact ipX9_38 hI_me ⟨by omega, by omega⟩
      have ko10_v : (gI o10 38).toInt = w9.toInt := by rw [eo10]; rfl
      have hkpo10 : Kp [1, 8, 11, 13, 14, 15, 16, 18, 19, 20, 21, 23, 26, 29, 34, 43, 56, 57, 58, 59, 62] [2, 3, 4, 5, 7, 10, 12, 22, 24, 25, 27, 28, 42, 48, 50, 51, 55, 61] [(0, 1), (1, 2), (29, 36), (36, 64), (64, 71)] o_me o10 := Kp.rf.trans (by rw [eo10]; exact Kp.sI (by decide))
      refine wp_if (fun c11 => ?_) (fun c11 => ?_)
      · have c11 := cv_eq (a := (gI o10 38).toInt) (b := 0) rfl (by decide) c11
        refine wp_gd (decide_eq_true c5z) ?_
        refine wp_some ?_
        exact (show IvX9 o10 ∧ Kp [1, 8, 11, 13, 14, 15, 16, 18, 19, 20, 21, 23, 26, 29, 34, 43, 56, 57, 58, 59, 62] [2, 3, 4, 5, 7, 10, 12, 22, 24, 25, 27, 28, 42, 48, 50, 51, 55, 61] [(0, 1), (1, 2), (29, 36), (36, 64), (64, 71)] o_me o10 from ⟨hIo10, hkpo10⟩)
      · have c11z := c11
        have c11 := cv_ne (a := (gI o10 38).toInt) (b := 0) rfl (by decide) c11
        exfalso; omega
  have c4 := cv_ne (a := p0.toInt) (b := 23) rfl (by decide) c4
  refine wp_if (fun c12 => ?_) (fun c12 => ?_)
  · have c12 := cv_eq (a := p0.toInt) (b := 24) rfl (by decide) c12
    refine wp_if (fun c13 => ?_) (fun c13 => ?_)
    · have c13 := cvl_eq (a := p2.toInt) (b := 0) rfl (by decide) c13
      obtain ⟨w14, ew14⟩ : ∃ z : Int32, z = (1 : Int32) := ⟨_, rfl⟩
      have tw14 : w14.toInt = 1 := by rw [ew14]; decide
      rw [show bk_X9_reckon_104   p1 p2 (1 : Int32) o_me = bk_X9_reckon_104   p1 p2 w14 o_me from by rw [ew14]]
      unfold bk_X9_reckon_104
      refine wp_gd (zbo_of (by omega) (by omega)) ?_
      refine wp_lt (fun o15 eo15 => ?_)
      have hIo15 : IvX9 o15 := by rw [eo15]; exact ipX9_38 hI_me ⟨by omega, by omega⟩
      have ko15_v : (gI o15 38).toInt = w14.toInt := by rw [eo15]; rfl
      have hkpo15 : Kp [1, 8, 11, 13, 14, 15, 16, 18, 19, 20, 21, 23, 26, 29, 34, 43, 56, 57, 58, 59, 62] [2, 3, 4, 5, 7, 10, 12, 22, 24, 25, 27, 28, 42, 48, 50, 51, 55, 61] [(0, 1), (1, 2), (29, 36), (36, 64), (64, 71)] o_me o15 := Kp.rf.trans (by rw [eo15]; exact Kp.sI (by decide))
      refine wp_if (fun c16 => ?_) (fun c16 => ?_)
      · have c16 := cv_eq (a := (gI o15 38).toInt) (b := 0) rfl (by decide) c16
        exfalso; omega
      · have c16z := c16
        have c16 := cv_ne (a := (gI o15 38).toInt) (b := 0) rfl (by decide) c16
        refine wp_some ?_
        exact (show IvX9 o15 ∧ Kp [1, 8, 11, 13, 14, 15, 16, 18, 19, 20, 21, 23, 26, 29, 34, 43, 56, 57, 58, 59, 62] [2, 3, 4, 5, 7, 10, 12, 22, 24, 25, 27, 28, 42, 48, 50, 51, 55, 61] [(0, 1), (1, 2), (29, 36), (36, 64), (64, 71)] o_me o15 from ⟨hIo15, hkpo15⟩)
    · have c13z := mt (fun e9 => (lg_cmp_eq _ _).mpr e9) c13
      have c13 := cvl_ne (a := p2.toInt) (b := 0) rfl (by decide) c13
      obtain ⟨w17, ew17⟩ : ∃ z : Int32, z = (0 : Int32) := ⟨_, rfl⟩
      have tw17 : w17.toInt = 0 := by rw [ew17]; decide
      rw [show bk_X9_reckon_104   p1 p2 (0 : Int32) o_me = bk_X9_reckon_104   p1 p2 w17 o_me from by rw [ew17]]
      unfold bk_X9_reckon_104
      refine wp_gd (zbo_of (by omega) (by omega)) ?_
      refine wp_lt (fun o18 eo18 => ?_)
      have hIo18 : IvX9 o18 := by rw [eo18]; exact ipX9_38 hI_me ⟨by omega, by omega⟩
      have ko18_v : (gI o18 38).toInt = w17.toInt := by rw [eo18]; rfl
      have hkpo18 : Kp [1, 8, 11, 13, 14, 15, 16, 18, 19, 20, 21, 23, 26, 29, 34, 43, 56, 57, 58, 59, 62] [2, 3, 4, 5, 7, 10, 12, 22, 24, 25, 27, 28, 42, 48, 50, 51, 55, 61] [(0, 1), (1, 2), (29, 36), (36, 64), (64, 71)] o_me o18 := Kp.rf.trans (by rw [eo18]; exact Kp.sI (by decide))
      refine wp_if (fun c19 => ?_) (fun c19 => ?_)
      · have c19 := cv_eq (a := (gI o18 38).toInt) (b := 0) rfl (by decide) c19
        refine wp_gd (decide_eq_true c13z) ?_
        refine wp_some ?_
        exact (show IvX9 o18 ∧ Kp [1, 8, 11, 13, 14, 15, 16, 18, 19, 20, 21, 23, 26, 29, 34, 43, 56, 57, 58, 59, 62] [2, 3, 4, 5, 7, 10, 12, 22, 24, 25, 27, 28, 42, 48, 50, 51, 55, 61] [(0, 1), (1, 2), (29, 36), (36, 64), (64, 71)] o_me o18 from ⟨hIo18, hkpo18⟩)
      · have c19z := c19
        have c19 := cv_ne (a := (gI o18 38).toInt) (b := 0) rfl (by decide) c19
        exfalso; omega
  have c12 := cv_ne (a := p0.toInt) (b := 24) rfl (by decide) c12
  refine wp_if (fun c20 => ?_) (fun c20 => ?_)
  · have c20 := cv_eq (a := p0.toInt) (b := 25) rfl (by decide) c20
    refine wp_if (fun c21 => ?_) (fun c21 => ?_)
    · have c21 := cvl_ge (a := p1.toInt) (b := p2.toInt) rfl rfl c21
      refine wp_some ?_
      exact (show IvX9 o_me ∧ Kp [1, 8, 11, 13, 14, 15, 16, 18, 19, 20, 21, 23, 26, 29, 34, 43, 56, 57, 58, 59, 62] [2, 3, 4, 5, 7, 10, 12, 22, 24, 25, 27, 28, 42, 48, 50, 51, 55, 61] [(0, 1), (1, 2), (29, 36), (36, 64), (64, 71)] o_me o_me from ⟨hI_me, Kp.rf⟩)
    · have c21 := cvl_nge (a := p1.toInt) (b := p2.toInt) rfl rfl c21
      refine wp_some ?_
      exact (show IvX9 o_me ∧ Kp [1, 8, 11, 13, 14, 15, 16, 18, 19, 20, 21, 23, 26, 29, 34, 43, 56, 57, 58, 59, 62] [2, 3, 4, 5, 7, 10, 12, 22, 24, 25, 27, 28, 42, 48, 50, 51, 55, 61] [(0, 1), (1, 2), (29, 36), (36, 64), (64, 71)] o_me o_me from ⟨hI_me, Kp.rf⟩)
  have c20 := cv_ne (a := p0.toInt) (b := 25) rfl (by decide) c20
  refine wp_if (fun c22 => ?_) (fun c22 => ?_)
  · have c22 := cv_eq (a := p0.toInt) (b := 26) rfl (by decide) c22
    refine wp_if (fun c23 => ?_) (fun c23 => ?_)
    · have c23 := cvl_le (a := p1.toInt) (b := p2.toInt) rfl rfl c23
      refine wp_some ?_
      exact (show IvX9 o_me ∧ Kp [1, 8, 11, 13, 14, 15, 16, 18, 19, 20, 21, 23, 26, 29, 34, 43, 56, 57, 58, 59, 62] [2, 3, 4, 5, 7, 10, 12, 22, 24, 25, 27, 28, 42, 48, 50, 51, 55, 61] [(0, 1), (1, 2), (29, 36), (36, 64), (64, 71)] o_me o_me from ⟨hI_me, Kp.rf⟩)
    · have c23 := cvl_nle (a := p1.toInt) (b := p2.toInt) rfl rfl c23
      refine wp_some ?_
      exact (show IvX9 o_me ∧ Kp [1, 8, 11, 13, 14, 15, 16, 18, 19, 20, 21, 23, 26, 29, 34, 43, 56, 57, 58, 59, 62] [2, 3, 4, 5, 7, 10, 12, 22, 24, 25, 27, 28, 42, 48, 50, 51, 55, 61] [(0, 1), (1, 2), (29, 36), (36, 64), (64, 71)] o_me o_me from ⟨hI_me, Kp.rf⟩)
  have c22 := cv_ne (a := p0.toInt) (b := 26) rfl (by decide) c22
  refine wp_if (fun c24 => ?_) (fun c24 => ?_)
  · have c24 := cvl_eq (a := p1.toInt) (b := p2.toInt) rfl rfl c24
    refine wp_some ?_
    exact (show IvX9 o_me ∧ Kp [1, 8, 11, 13, 14, 15, 16, 18, 19, 20, 21, 23, 26, 29, 34, 43, 56, 57, 58, 59, 62] [2, 3, 4, 5, 7, 10, 12, 22, 24, 25, 27, 28, 42, 48, 50, 51, 55, 61] [(0, 1), (1, 2), (29, 36), (36, 64), (64, 71)] o_me o_me from ⟨hI_me, Kp.rf⟩)
  · have c24 := cvl_ne (a := p1.toInt) (b := p2.toInt) rfl rfl c24
    refine wp_some ?_
    exact (show IvX9 o_me ∧ Kp [1, 8, 11, 13, 14, 15, 16, 18, 19, 20, 21, 23, 26, 29, 34, 43, 56, 57, 58, 59, 62] [2, 3, 4, 5, 7, 10, 12, 22, 24, 25, 27, 28, 42, 48, 50, 51, 55, 61] [(0, 1), (1, 2), (29, 36), (36, 64), (64, 71)] o_me o_me from ⟨hI_me, Kp.rf⟩)

set_option maxHeartbeats 4000000 in
set_option maxRecDepth 100000 in
theorem s_X9_isPerson (o_me : Ob) (p0 : Int32) (hI_me : IvX9 o_me)  : wp (f_X9_isPerson   o_me p0) (fun (y : Int32) => (0 ≤ y.toInt ∧ y.toInt ≤ 1) ∧ (¬ y = 0 → (0 ≤ p0.toInt ∧ p0.toInt ≤ 6))) := by
  have li0 : (0 : Int32).toInt = 0 := by decide
  have li1 : (0 : Int64).toInt = 0 := by decide
  have li2 : (1 : Int64).toInt = 1 := by decide
  unfold f_X9_isPerson
  have rg1 := i32_rg p0
  have t2 : p0.toInt64.toInt = p0.toInt := Int32.toInt_toInt64 _
  have t3 := iaX9_3_0 hI_me (j := (0 : Int32)) (by decide) (by decide)
  have t4 : ((gA o_me 3 (0 : Int32).toNatClampNeg).toInt64).toInt = (gA o_me 3 (0 : Int32).toNatClampNeg).toInt := Int32.toInt_toInt64 _
  have t5 : (((gA o_me 3 (0 : Int32).toNatClampNeg).toInt64) - (1 : Int64)).toInt = ((gA o_me 3 (0 : Int32).toNatClampNeg).toInt64).toInt - 1 := i64_sub rfl (by decide) (by omega) (by omega)
  refine wp_bd (s_X9_in   p0.toInt64 (0 : Int64) (((gA o_me 3 (0 : Int32).toNatClampNeg).toInt64) - (1 : Int64))    ) (fun z6 hz6 => ?_)
  obtain ⟨hz6_0, hz6_1⟩ := hz6
  refine wp_gd (zbo_of (by omega) (by omega)) ?_
  refine wp_some ?_
  exact (show (0 ≤ z6.toInt ∧ z6.toInt ≤ 1) ∧ (¬ z6 = 0 → (0 ≤ p0.toInt ∧ p0.toInt ≤ 6)) from ⟨⟨by omega, by omega⟩, (fun h9 => by have i0 := hz6_1 h9; exact ⟨by omega, by omega⟩)⟩)

-- reckoning: what is left to do at one place of the code
theorem h_r350 {rec : Int32 × Int32 × Int32 × Ob → Option Ob} {v2 v3 v4 : Int32} {o : Ob} {P : Ob → Prop} (h : wp (rec (v2, v3, v4, o)) P) : wp (bk_X9_reckonAll_350 rec v2 v3 v4 o) P := h
theorem h_r95 (op arg : Nat → Int32) (a b k : Nat) (hb : b ≤ 400) (h : Nat → Nat) (o0 : Ob) (P : Ob → Prop) (rec : Int32 × Int32 × Int32 × Ob → Option Ob) (v2 v3 v4 : Int32) (o : Ob)
    (hak : a ≤ k) (hkb : k < b) (hcs : CS op arg h b k) (hI : IvX9 o) (hK : Kp [1, 8, 11, 13, 14, 15, 16, 18, 19, 20, 21, 23, 26, 29, 34, 43, 56, 57, 58, 59, 62] [2, 3, 4, 5, 7, 10, 12, 22, 24, 25, 27, 28, 42, 48, 50, 51, 55, 61] [(0, 1), (1, 2), (29, 36), (36, 64), (64, 71)] o0 o) (e4 : v4.toInt = (k : Int)) (e3 : v3.toInt = (h k : Int)) (hh : h k + a ≤ k)
    (hrec : ∀ (w3 w4 : Int32) (o' : Ob) (k' : Nat), IvX9 o' → Kp [1, 8, 11, 13, 14, 15, 16, 18, 19, 20, 21, 23, 26, 29, 34, 43, 56, 57, 58, 59, 62] [2, 3, 4, 5, 7, 10, 12, 22, 24, 25, 27, 28, 42, 48, 50, 51, 55, 61] [(0, 1), (1, 2), (29, 36), (36, 64), (64, 71)] o0 o' → w4.toInt = (k' : Int) → k < k' → k' ≤ b → w3.toInt = (h k' : Int) → h k' + a ≤ k' → wp (rec (v2, w3, w4, o')) P) :
    wp (bk_X9_reckonAll_95 rec v2 v3 v4 (op k) (arg k) o) P := by
  unfold bk_X9_reckonAll_95
  refine wp_lt (fun x5 e5 => ?_)
  have t5 : x5.toInt = (k : Int) + 1 := by rw [e5]; exact i32_add e4 (by decide) (by omega) (by omega)
  have h204 : ∀ (s0 : Int64) (o' : Ob), IvX9 o' → Kp [1, 8, 11, 13, 14, 15, 16, 18, 19, 20, 21, 23, 26, 29, 34, 43, 56, 57, 58, 59, 62] [2, 3, 4, 5, 7, 10, 12, 22, 24, 25, 27, 28, 42, 48, 50, 51, 55, 61] [(0, 1), (1, 2), (29, 36), (36, 64), (64, 71)] o0 o' → h (k + 1) = h k + 1 → wp (bk_X9_reckonAll_204 rec v2 v3 x5 s0 v3 o') P := by
    intro s0 o' hI' hK' e
    unfold bk_X9_reckonAll_204
    refine wp_gd (zin_of (m := 400) rfl (by omega) (by omega)) ?_
    refine wp_lt (fun o24 e24 => ?_)
    refine wp_lt (fun x25 e25 => ?_)
    have t25 : x25.toInt = (h k : Int) + 1 := by rw [e25]; exact i32_add e3 (by decide) (by omega) (by omega)
    refine h_r350 (hrec x25 x5 o24 (k + 1) (by rw [e24]; exact hI') (hK'.trans (by rw [e24]; exact Kp.tM)) (by omega) (by omega) (by omega) (by omega) (by omega))
  rcases hcs with ⟨c1, c2, c3⟩ | ⟨c1, c2, c3, c4⟩ | ⟨c1, c3, c4⟩ | ⟨c1, c2, c3, c4, c5, c6, c7⟩
  · refine wp_if (fun c => ?_) (fun c => ?_)
    · exfalso; have c := cv_le (a := 20) (b := (op k).toInt) (by decide) rfl c; omega
    refine wp_if (fun c => ?_) (fun c => ?_)
    · exact h204 _ o hI hK c3
    refine wp_if (fun c => ?_) (fun c => ?_)
    · exact wp_gd (zin_of (m := 13) rfl (by omega) (by omega)) (h204 _ o hI hK c3)
    refine wp_if (fun c => ?_) (fun c => ?_)
    · refine wp_bd (s_X9_isPerson o (arg k) hI) (fun z hz => ?_)
      refine wp_if (fun cz => ?_) (fun cz => ?_)
      · exact h204 _ o hI hK c3
      have hz2 := hz.2 cz
      refine wp_if (fun c => ?_) (fun c => ?_)
      · have t : ((15 : Int32) + arg k).toInt = 15 + (arg k).toInt := i32_add (by decide) rfl (by omega) (by omega)
        exact wp_gd (zin_of (m := 5484) rfl (by omega) (by omega)) (h204 _ o hI hK c3)
      · have t : ((8 : Int32) + arg k).toInt = 8 + (arg k).toInt := i32_add (by decide) rfl (by omega) (by omega)
        exact wp_gd (zin_of (m := 5484) rfl (by omega) (by omega)) (h204 _ o hI hK c3)
    · exact wp_gd (zin_of (m := 13) rfl (by omega) (by omega)) (h204 _ o hI hK c3)
  · refine wp_if (fun c => ?_) (fun c => ?_)
    rotate_left
    · exfalso; have c := cv_nle (a := 20) (b := (op k).toInt) (by decide) rfl c; omega
    refine wp_if (fun c => ?_) (fun c => ?_)
    · exfalso; have c := cv_le (a := 28) (b := (op k).toInt) (by decide) rfl c; omega
    refine wp_lt (fun x11 e11 => ?_)
    have t11 : x11.toInt = (h k : Int) + (-1) := by rw [e11]; exact i32_add e3 (by decide) (by omega) (by omega)
    have t12 : (x11 - (1 : Int32)).toInt = x11.toInt - 1 := i32_sub rfl (by decide) (by omega) (by omega)
    refine wp_gd (zin_of (m := 400) rfl (by omega) (by omega)) ?_
    refine wp_gd (zin_of (m := 400) rfl (by omega) (by omega)) ?_
    refine wp_bd (s_X9_reckon o (op k) _ _ hI) (fun z hz => ?_)
    refine wp_gd (zin_of (m := 400) rfl (by omega) (by omega)) ?_
    refine wp_lt (fun o16 e16 => ?_)
    have hI16 : IvX9 o16 := by rw [e16]; exact hz.1
    have hK16 : Kp [1, 8, 11, 13, 14, 15, 16, 18, 19, 20, 21, 23, 26, 29, 34, 43, 56, 57, 58, 59, 62] [2, 3, 4, 5, 7, 10, 12, 22, 24, 25, 27, 28, 42, 48, 50, 51, 55, 61] [(0, 1), (1, 2), (29, 36), (36, 64), (64, 71)] o0 o16 := (hK.trans hz.2).trans (by rw [e16]; exact Kp.tM)
    have h282 : ∀ s0 : Int32, 0 ≤ s0.toInt → s0.toInt ≤ 1 → wp (bk_X9_reckonAll_282 rec v2 x11 x5 s0 o16) P := by
      intro s0 g0 g1
      unfold bk_X9_reckonAll_282
      refine wp_gd (zbo_of g0 g1) ?_
      refine wp_lt (fun o18 e18 => ?_)
      exact h_r350 (hrec x11 x5 o18 (k + 1) (by rw [e18]; exact ipX9_38 hI16 ⟨g0, g1⟩) (hK16.trans (by rw [e18]; exact Kp.sI (by decide))) (by omega) (by omega) (by omega) (by omega) (by omega))
    have h277 : wp (bk_X9_reckonAll_277 rec v2 x11 x5 o16) P := h282 1 (by decide) (by decide)
    refine wp_if (fun c => ?_) (fun c => ?_)
    · refine wp_gd (zin_of (m := 400) rfl (by omega) (by omega)) ?_
      refine wp_bd (s_X9_in _ _ _) (fun z20 hz20 => ?_)
      refine wp_if (fun c => ?_) (fun c => ?_)
      · exact h277
      · exact h282 0 (by decide) (by decide)
    · exact h277
  · refine wp_if (fun c => ?_) (fun c => ?_)
    rotate_left
    · exfalso; have c := cv_nle (a := 20) (b := (op k).toInt) (by decide) rfl c; omega
    refine wp_if (fun c => ?_) (fun c => ?_)
    rotate_left
    · exfalso; have c := cv_nle (a := 28) (b := (op k).toInt) (by decide) rfl c; omega
    have t12 : (v3 - (1 : Int32)).toInt = v3.toInt - 1 := i32_sub rfl (by decide) (by omega) (by omega)
    refine wp_if (fun c => ?_) (fun c => ?_)
    rotate_left
    · exfalso; have c := cv_ne (a := (op k).toInt) (b := 28) rfl (by decide) c; omega
    refine wp_gd (zin_of (m := 400) rfl (by omega) (by omega)) ?_
    refine wp_gd (zin_of (m := 400) rfl (by omega) (by omega)) ?_
    refine wp_lt (fun o10 e10 => ?_)
    exact h_r350 (hrec v3 x5 o10 (k + 1) (by rw [e10]; exact hI) (hK.trans (by rw [e10]; exact Kp.tM)) (by omega) (by omega) (by omega) (by omega) (by omega))
  · refine wp_if (fun c => ?_) (fun c => ?_)
    rotate_left
    · exfalso; have c := cv_nle (a := 20) (b := (op k).toInt) (by decide) rfl c; omega
    refine wp_if (fun c => ?_) (fun c => ?_)
    rotate_left
    · exfalso; have c := cv_nle (a := 28) (b := (op k).toInt) (by decide) rfl c; omega
    have t12 : (v3 - (1 : Int32)).toInt = v3.toInt - 1 := i32_sub rfl (by decide) (by omega) (by omega)
    have h336 : ∀ s0 s1 : Int64, wp (bk_X9_reckonAll_336 rec v2 v3 x5 (arg k) s0 s1 o) P := by
      intro s0 s1
      unfold bk_X9_reckonAll_336
      refine wp_if (fun c => ?_) (fun c => ?_)
      · refine h_r350 (hrec v3 (arg k) o (arg k).toInt.toNat hI hK (by omega) (by omega) (by omega) (by omega) (by omega))
      · refine wp_lt (fun x7 e7 => ?_)
        have t7 : x7.toInt = (h k : Int) + (-1) := by rw [e7]; exact i32_add e3 (by decide) (by omega) (by omega)
        exact h_r350 (hrec x7 x5 o (k + 1) hI hK (by omega) (by omega) (by omega) (by omega) (by omega))
    refine wp_if (fun c => ?_) (fun c => ?_)
    · exfalso; have c := cv_eq (a := (op k).toInt) (b := 28) rfl (by decide) c; omega
    refine wp_gd (zin_of (m := 400) rfl (by omega) (by omega)) ?_
    refine wp_if (fun c => ?_) (fun c => ?_)
    · exact h336 _ _
    · exact h336 _ _
-- where the code is read: a law's, or the orders'
def RD (op arg : Nat → Int32) (o : Ob) : Prop :=
  (gI o 20 = 0 ∧ ∃ l : Nat, l < 6 ∧ (gI o 34).toInt = 84 + 900 * (l : Int) ∧ ∀ k, op k = gA o 3 (84 + 900 * l + 98 + 2 * k) ∧ arg k = gA o 3 (84 + 900 * l + 98 + 2 * k + 1)) ∨
  (¬ gI o 20 = 0 ∧ ∀ k, op k = gA o 24 k ∧ arg k = gA o 25 k)
theorem h_rloop (op arg : Nat → Int32) (a b : Nat) (hb : b ≤ 400) (h : Nat → Nat) (hcs : ∀ k, a ≤ k → k < b → CS op arg h b k) (o0 : Ob) (hrd : RD op arg o0) :
    ∀ (N : Nat) (v2 v3 v4 : Int32) (o : Ob) (k : Nat), IvX9 o → Kp [1, 8, 11, 13, 14, 15, 16, 18, 19, 20, 21, 23, 26, 29, 34, 43, 56, 57, 58, 59, 62] [2, 3, 4, 5, 7, 10, 12, 22, 24, 25, 27, 28, 42, 48, 50, 51, 55, 61] [(0, 1), (1, 2), (29, 36), (36, 64), (64, 71)] o0 o → v2.toInt = (b : Int) → v4.toInt = (k : Int) → a ≤ k → k ≤ b → v3.toInt = (h k : Int) → h k + a ≤ k → b < N + k → wp (lp_X9_reckonAll_10 N (v2, v3, v4, o)) (fun y => IvX9 y ∧ Kp [1, 8, 11, 13, 14, 15, 16, 18, 19, 20, 21, 23, 26, 29, 34, 43, 56, 57, 58, 59, 62] [2, 3, 4, 5, 7, 10, 12, 22, 24, 25, 27, 28, 42, 48, 50, 51, 55, 61] [(0, 1), (1, 2), (29, 36), (36, 64), (64, 71)] o0 y) := by
  intro N
  induction N with
  | zero => intro v2 v3 v4 o k _ _ _ _ _ _ _ _ hN; exfalso; omega
  | succ N ih =>
    intro v2 v3 v4 o k hI hK e2 e4 hak hkb e3 hh hN
    show wp (lb_X9_reckonAll_10 (lp_X9_reckonAll_10 N) v2 v3 v4 o) _
    unfold lb_X9_reckonAll_10
    have hend : wp (bk_X9_reckonAll_353 v3 o) (fun y => IvX9 y ∧ Kp [1, 8, 11, 13, 14, 15, 16, 18, 19, 20, 21, 23, 26, 29, 34, 43, 56, 57, 58, 59, 62] [2, 3, 4, 5, 7, 10, 12, 22, 24, 25, 27, 28, 42, 48, 50, 51, 55, 61] [(0, 1), (1, 2), (29, 36), (36, 64), (64, 71)] o0 y) := by
      have h368 : ∀ s0 : Int64, wp (bk_X9_reckonAll_368 s0 o) (fun y => IvX9 y ∧ Kp [1, 8, 11, 13, 14, 15, 16, 18, 19, 20, 21, 23, 26, 29, 34, 43, 56, 57, 58, 59, 62] [2, 3, 4, 5, 7, 10, 12, 22, 24, 25, 27, 28, 42, 48, 50, 51, 55, 61] [(0, 1), (1, 2), (29, 36), (36, 64), (64, 71)] o0 y) := by
        intro s0
        unfold bk_X9_reckonAll_368
        refine wp_lt (fun o2 e2 => ?_)
        exact wp_some ⟨by rw [e2]; exact hI, hK.trans (by rw [e2]; exact Kp.sL)⟩
      unfold bk_X9_reckonAll_353
      exact wp_if (fun c => h368 _) (fun c => h368 _)
    refine wp_if (fun c => hend) (fun c => ?_)
    have c := cv_nle (a := v2.toInt) (b := v4.toInt) rfl rfl c
    refine wp_if (fun c2 => ?_) (fun c2 => hend)
    have h95 : wp (bk_X9_reckonAll_95 (lp_X9_reckonAll_10 N) v2 v3 v4 (op k) (arg k) o) (fun y => IvX9 y ∧ Kp [1, 8, 11, 13, 14, 15, 16, 18, 19, 20, 21, 23, 26, 29, 34, 43, 56, 57, 58, 59, 62] [2, 3, 4, 5, 7, 10, 12, 22, 24, 25, 27, 28, 42, 48, 50, 51, 55, 61] [(0, 1), (1, 2), (29, 36), (36, 64), (64, 71)] o0 y) := by
      refine h_r95 op arg a b k hb h o0 _ _ v2 v3 v4 o hak (by omega) (hcs k hak (by omega)) hI hK e4 e3 hh ?_
      intro w3 w4 o' k' g1 g2 g3 g4 g5 g6 g7
      exact ih v2 w3 w4 o' k' g1 g2 e2 g3 (by omega) g5 g6 g7 (by omega)
    have k20 : gI o 20 = gI o0 20 := hK.1 20 (by decide)
    rcases hrd with ⟨r1, l, r2, r3, r4⟩ | ⟨r1, r4⟩
    · have k34 : gI o 34 = gI o0 34 := hK.1 34 (by decide)
      have k3 : gA o 3 = gA o0 3 := hK.2.1 3 (by decide)
      have a1 : ((gI o 34) + (98 : Int32)).toInt = 84 + 900 * (l : Int) + 98 := i32_add (by rw [k34]; exact r3) (by decide) (by omega) (by omega)
      have a2 : ((2 : Int32) * v4).toInt = 2 * (k : Int) := i32_mul (by decide) e4 (by omega) (by omega)
      have a3 : (((gI o 34) + (98 : Int32)) + ((2 : Int32) * v4)).toInt = 84 + 900 * (l : Int) + 98 + 2 * (k : Int) := i32_add a1 a2 (by omega) (by omega)
      have a4 : ((((gI o 34) + (98 : Int32)) + ((2 : Int32) * v4)) + (1 : Int32)).toInt = 84 + 900 * (l : Int) + 98 + 2 * (k : Int) + 1 := i32_add a3 (by decide) (by omega) (by omega)
      have n3 : (((gI o 34) + (98 : Int32)) + ((2 : Int32) * v4)).toNatClampNeg = 84 + 900 * l + 98 + 2 * k := tnc_eq (by omega)
      have n4 : ((((gI o 34) + (98 : Int32)) + ((2 : Int32) * v4)) + (1 : Int32)).toNatClampNeg = 84 + 900 * l + 98 + 2 * k + 1 := tnc_eq (by omega)
      refine wp_if (fun c3 => ?_) (fun c3 => absurd (k20.trans r1) c3)
      refine wp_gd (zin_of (m := 5484) rfl (by omega) (by omega)) ?_
      unfold bk_X9_reckonAll_57
      refine wp_if (fun c4 => ?_) (fun c4 => absurd (k20.trans r1) c4)
      refine wp_gd (zin_of (m := 5484) rfl (by omega) (by omega)) ?_
      rw [n3, n4, k3, ← (r4 k).1, ← (r4 k).2]
      exact h95
    · have k24 : gA o 24 = gA o0 24 := hK.2.1 24 (by decide)
      have k25 : gA o 25 = gA o0 25 := hK.2.1 25 (by decide)
      have n4 : v4.toNatClampNeg = k := tnc_eq e4
      refine wp_if (fun c3 => absurd (k20.symm.trans c3) r1) (fun c3 => ?_)
      refine wp_gd (zin_of (m := 400) rfl (by omega) (by omega)) ?_
      unfold bk_X9_reckonAll_57
      refine wp_if (fun c4 => absurd (k20.symm.trans c4) r1) (fun c4 => ?_)
      refine wp_gd (zin_of (m := 400) rfl (by omega) (by omega)) ?_
      rw [n4, k24, k25, ← (r4 k).1, ← (r4 k).2]
      exact h95
theorem h_reckonAll (op arg : Nat → Int32) (a b : Nat) (hab : a ≤ b) (hb : b ≤ 400) (hc : CW op arg a b) (o : Ob) (hI : IvX9 o) (hrd : RD op arg o) (p0 p1 : Int32) (e0 : p0.toInt = (a : Int)) (e1 : p1.toInt = (b : Int)) :
    wp (f_X9_reckonAll o p0 p1) (fun y => IvX9 y ∧ Kp [1, 8, 11, 13, 14, 15, 16, 18, 19, 20, 21, 23, 26, 29, 34, 43, 56, 57, 58, 59, 62] [2, 3, 4, 5, 7, 10, 12, 22, 24, 25, 27, 28, 42, 48, 50, 51, 55, 61] [(0, 1), (1, 2), (29, 36), (36, 64), (64, 71)] o y) := by
  obtain ⟨h, h0, hcs⟩ := hc
  unfold f_X9_reckonAll
  refine wp_lt (fun o1 e1' => ?_)
  have hI1 : IvX9 o1 := by rw [e1']; exact ipX9_38 hI ⟨by decide, by decide⟩
  have hK1 : Kp [1, 8, 11, 13, 14, 15, 16, 18, 19, 20, 21, 23, 26, 29, 34, 43, 56, 57, 58, 59, 62] [2, 3, 4, 5, 7, 10, 12, 22, 24, 25, 27, 28, 42, 48, 50, 51, 55, 61] [(0, 1), (1, 2), (29, 36), (36, 64), (64, 71)] o o1 := by rw [e1']; exact Kp.sI (by decide)
  refine h_rloop op arg a b hb h hcs o hrd zfu p1 0 p0 o1 a hI1 hK1 e1 e0 (Nat.le_refl _) hab (by rw [h0]; decide) (by omega) ?_
  show b < 100000 + a
  omega
-- a clause of a law
theorem RD.kp {op arg : Nat → Int32} {o o' : Ob} (h : RD op arg o) (hK : Kp [1, 8, 11, 13, 14, 15, 16, 18, 19, 20, 21, 23, 26, 29, 34, 43, 56, 57, 58, 59, 62] [2, 3, 4, 5, 7, 10, 12, 22, 24, 25, 27, 28, 42, 48, 50, 51, 55, 61] [(0, 1), (1, 2), (29, 36), (36, 64), (64, 71)] o o') : RD op arg o' := by
  have k20 : gI o' 20 = gI o 20 := hK.1 20 (by decide)
  have k34 : gI o' 34 = gI o 34 := hK.1 34 (by decide)
  have k3 : gA o' 3 = gA o 3 := hK.2.1 3 (by decide)
  have k24 : gA o' 24 = gA o 24 := hK.2.1 24 (by decide)
  have k25 : gA o' 25 = gA o 25 := hK.2.1 25 (by decide)
  rcases h with ⟨r1, l, r2, r3, r4⟩ | ⟨r1, r4⟩
  · exact Or.inl ⟨k20.trans r1, l, r2, by rw [k34]; exact r3, fun k => by rw [k3]; exact r4 k⟩
  · exact Or.inr ⟨fun e => r1 (k20.symm.trans e), fun k => by rw [k24, k25]; exact r4 k⟩
theorem h_isSo (op arg : Nat → Int32) (o : Ob) (hI : IvX9 o) (hrd : RD op arg o) (p0 : Int32) (s : Nat) (e0 : p0.toInt = (s : Int)) (hs : s ≤ 5400) (hw : WC (fun i => gA o 3 (s + i)) op arg) :
    wp (f_X9_isSo o p0) (fun y => IvX9 y.2 ∧ Kp [1, 8, 11, 13, 14, 15, 16, 18, 19, 20, 21, 23, 26, 29, 34, 43, 56, 57, 58, 59, 62] [2, 3, 4, 5, 7, 10, 12, 22, 24, 25, 27, 28, 42, 48, 50, 51, 55, 61] [(0, 1), (1, 2), (29, 36), (36, 64), (64, 71)] o y.2) := by
  obtain ⟨a, b, d, hab, hbd, hd, q3, q4, q5, q6, w1, w2⟩ := hw
  have ad : ∀ n : Int32, ∀ i : Nat, n.toInt = (i : Int) → i ≤ 8 → (p0 + n).toInt = (s : Int) + i ∧ (p0 + n).toNatClampNeg = s + i := by
    intro n i en hi
    have t : (p0 + n).toInt = (s : Int) + i := i32_add e0 en (by omega) (by omega)
    exact ⟨t, tnc_eq (by omega)⟩
  have a3 := ad 3 3 (by decide) (by omega)
  have a4 := ad 4 4 (by decide) (by omega)
  have a5 := ad 5 5 (by decide) (by omega)
  have a6 := ad 6 6 (by decide) (by omega)
  have n0 : p0.toNatClampNeg = s := tnc_eq e0
  have h59 : ∀ o' : Ob, IvX9 o' → Kp [1, 8, 11, 13, 14, 15, 16, 18, 19, 20, 21, 23, 26, 29, 34, 43, 56, 57, 58, 59, 62] [2, 3, 4, 5, 7, 10, 12, 22, 24, 25, 27, 28, 42, 48, 50, 51, 55, 61] [(0, 1), (1, 2), (29, 36), (36, 64), (64, 71)] o o' → wp (bk_X9_isSo_59 p0 o') (fun y => IvX9 y.2 ∧ Kp [1, 8, 11, 13, 14, 15, 16, 18, 19, 20, 21, 23, 26, 29, 34, 43, 56, 57, 58, 59, 62] [2, 3, 4, 5, 7, 10, 12, 22, 24, 25, 27, 28, 42, 48, 50, 51, 55, 61] [(0, 1), (1, 2), (29, 36), (36, 64), (64, 71)] o y.2) := by
    intro o' hI' hK'
    have k3 : gA o' 3 = gA o 3 := hK'.2.1 3 (by decide)
    unfold bk_X9_isSo_59
    refine wp_gd (zin_of (m := 5484) rfl (by omega) (by omega)) ?_
    refine wp_if (fun c => wp_some ⟨hI', hK'⟩) (fun c => ?_)
    refine wp_gd (zin_of (m := 5484) rfl (by omega) (by omega)) ?_
    refine wp_gd (zin_of (m := 5484) rfl (by omega) (by omega)) ?_
    rw [a3.2, a4.2, k3]
    refine wp_bd (h_reckonAll op arg a b hab (by omega) w1 o' hI' (hrd.kp hK') _ _ q3 q4) (fun z hz => ?_)
    refine wp_lt (fun o7 e7 => ?_)
    have hI7 : IvX9 o7 := by rw [e7]; exact hz.1
    have hK7 : Kp [1, 8, 11, 13, 14, 15, 16, 18, 19, 20, 21, 23, 26, 29, 34, 43, 56, 57, 58, 59, 62] [2, 3, 4, 5, 7, 10, 12, 22, 24, 25, 27, 28, 42, 48, 50, 51, 55, 61] [(0, 1), (1, 2), (29, 36), (36, 64), (64, 71)] o o7 := (hK'.trans hz.2).trans (by rw [e7]; exact Kp.sL)
    exact wp_if (fun c => wp_some ⟨hI7, hK7⟩) (fun c => wp_some ⟨hI7, hK7⟩)
  unfold f_X9_isSo
  refine wp_gd (zin_of (m := 5484) rfl (by omega) (by omega)) ?_
  refine wp_gd (zin_of (m := 5484) rfl (by omega) (by omega)) ?_
  refine wp_if (fun c => h59 o hI Kp.rf) (fun c => ?_)
  refine wp_gd (zin_of (m := 5484) rfl (by omega) (by omega)) ?_
  refine wp_gd (zin_of (m := 5484) rfl (by omega) (by omega)) ?_
  rw [a5.2, a6.2]
  refine wp_bd (h_reckonAll op arg b d hbd hd w2 o hI hrd _ _ q5 q6) (fun z hz => ?_)
  refine wp_if (fun c => ?_) (fun c => wp_some hz)
  refine wp_if (fun c => wp_some hz) (fun c => h59 z hz.1 hz.2)
theorem h_tells (o0 : Ob) (l : Nat) (hl : l < 6) (ho : gI o0 20 = 0) (e34 : (gI o0 34).toInt = 84 + 900 * (l : Int)) :
    ∀ (N : Nat) (v1 : Int32) (v7 : Int64) (v9 : Int32) (o : Ob) (c : Nat), IvX9 o → Kp [1, 8, 11, 13, 14, 15, 16, 18, 19, 20, 21, 23, 26, 29, 34, 43, 56, 57, 58, 59, 62] [2, 3, 4, 5, 7, 10, 12, 22, 24, 25, 27, 28, 42, 48, 50, 51, 55, 61] [(0, 1), (1, 2), (29, 36), (36, 64), (64, 71)] o0 o → v9.toInt = (c : Int) → c ≤ 12 → 12 < N + c → wp (lp_X9_tells_159 N (v1, v7, v9, o)) (fun y => IvX9 y.2 ∧ Kp [1, 8, 11, 13, 14, 15, 16, 18, 19, 20, 21, 23, 26, 29, 34, 43, 56, 57, 58, 59, 62] [2, 3, 4, 5, 7, 10, 12, 22, 24, 25, 27, 28, 42, 48, 50, 51, 55, 61] [(0, 1), (1, 2), (29, 36), (36, 64), (64, 71)] o0 y.2) := by
  intro N
  induction N with
  | zero => intro v1 v7 v9 o c _ _ _ _ _; exfalso; omega
  | succ N ih =>
    intro v1 v7 v9 o c hI hK e9 hc hN
    show wp (lb_X9_tells_159 (lp_X9_tells_159 N) v1 v7 v9 o) _
    unfold lb_X9_tells_159
    have k20 : gI o 20 = gI o0 20 := hK.1 20 (by decide)
    have k34 : gI o 34 = gI o0 34 := hK.1 34 (by decide)
    have e34' : (gI o 34).toInt = 84 + 900 * (l : Int) := by rw [k34]; exact e34
    have a1 : ((gI o 34) + (1 : Int32)).toInt = 84 + 900 * (l : Int) + 1 := i32_add e34' (by decide) (by omega) (by omega)
    have n1 : ((gI o 34) + (1 : Int32)).toNatClampNeg = 84 + 900 * l + 1 := tnc_eq (by omega)
    have hx := h9last hI
    have hwl := hx.1.1 l hl
    refine wp_gd (zin_of (m := 5484) rfl (by omega) (by omega)) ?_
    rw [n1]
    refine wp_if (fun _ => wp_some ⟨hI, hK⟩) (fun c1 => ?_)
    have c1 := cv_nle (a := (gA o 3 (84 + 900 * l + 1)).toInt) (b := (c : Int)) rfl e9 c1
    have hr := hwl.1
    have hwc := hwl.2 c c1
    have h224 : ∀ (v7 : Int64) (o' : Ob), IvX9 o' → Kp [1, 8, 11, 13, 14, 15, 16, 18, 19, 20, 21, 23, 26, 29, 34, 43, 56, 57, 58, 59, 62] [2, 3, 4, 5, 7, 10, 12, 22, 24, 25, 27, 28, 42, 48, 50, 51, 55, 61] [(0, 1), (1, 2), (29, 36), (36, 64), (64, 71)] o0 o' → wp (bk_X9_tells_224 (lp_X9_tells_159 N) v1 v7 v9 o') (fun y => IvX9 y.2 ∧ Kp [1, 8, 11, 13, 14, 15, 16, 18, 19, 20, 21, 23, 26, 29, 34, 43, 56, 57, 58, 59, 62] [2, 3, 4, 5, 7, 10, 12, 22, 24, 25, 27, 28, 42, 48, 50, 51, 55, 61] [(0, 1), (1, 2), (29, 36), (36, 64), (64, 71)] o0 y.2) := by
      intro v7 o' hI' hK'
      unfold bk_X9_tells_224
      refine wp_lt (fun x17 e17 => ?_)
      have t17 : x17.toInt = (c : Int) + 1 := by rw [e17]; exact i32_add e9 (by decide) (by omega) (by omega)
      exact ih v1 v7 x17 o' (c + 1) hI' hK' (by omega) (by omega) (by omega)
    refine wp_lt (fun x15 e15 => ?_)
    have a2 : ((gI o 34) + (2 : Int32)).toInt = 84 + 900 * (l : Int) + 2 := i32_add e34' (by decide) (by omega) (by omega)
    have a3 : ((8 : Int32) * v9).toInt = 8 * (c : Int) := i32_mul (by decide) e9 (by omega) (by omega)
    have a4 : x15.toInt = 84 + 900 * (l : Int) + 2 + 8 * (c : Int) := by rw [e15]; exact i32_add a2 a3 (by omega) (by omega)
    refine wp_gd (zin_of (m := 5484) rfl (by omega) (by omega)) ?_
    refine wp_if (fun _ => ?_) (fun _ => h224 v7 o hI hK)
    refine wp_bd (h_isSo (fun k => gA o 3 (84 + 900 * l + 98 + 2 * k)) (fun k => gA o 3 (84 + 900 * l + 98 + 2 * k + 1)) o hI (Or.inl ⟨k20.trans ho, l, hl, e34', fun k => ⟨rfl, rfl⟩⟩) x15 (84 + 900 * l + 2 + 8 * c) (by omega) (by omega) hwc) (fun z hz => ?_)
    have hI' := hz.1
    have hK' := hK.trans hz.2
    refine wp_if (fun _ => h224 v7 _ hI' hK') (fun _ => ?_)
    exact wp_if (fun _ => h224 _ _ hI' hK') (fun _ => h224 _ _ hI' hK')
set_option maxHeartbeats 4000000 in
set_option maxRecDepth 100000 in
theorem s_X9_tells (o_me : Ob) (p0 : Int32) (p1 : Int32) (p2 : Int32) (p3 : Int32) (p4 : Int64) (hI_me : IvX9 o_me) (q0 : 0 ≤ p1.toInt ∧ p1.toInt ≤ 6) (q1 : 0 ≤ p2.toInt ∧ p2.toInt ≤ 9) (q2 : 0 ≤ (gI o_me 20).toInt ∧ (gI o_me 20).toInt ≤ 0) : wp (f_X9_tells   o_me p0 p1 p2 p3 p4) (fun (y : Int64 × Ob) => IvX9 y.2 ∧ Kp [1, 8, 11, 13, 14, 15, 16, 18, 19, 20, 21, 23, 26, 29, 43, 56, 57, 58, 59, 62] [2, 3, 4, 5, 7, 10, 12, 22, 24, 25, 27, 28, 42, 48, 50, 51, 55, 61] [(0, 1), (1, 2), (29, 36), (36, 64), (64, 71)] o_me y.2) := by
  have ho : gI o_me 20 = 0 := Int32.toInt_inj.mp ((show (gI o_me 20).toInt = 0 by omega).trans (by decide))
  unfold f_X9_tells
  refine wp_if (fun _ => wp_some ⟨hI_me, Kp.rf⟩) (fun c => ?_)
  have c := cv_ne (a := (gA o_me 3 (3 : Int32).toNatClampNeg).toInt) (b := -1) rfl (by decide) c
  have r3 := iaX9_3_3 hI_me (j := 3) (by decide) (by decide)
  obtain ⟨l, el⟩ : ∃ l : Nat, (gA o_me 3 (3 : Int32).toNatClampNeg).toInt = (l : Int) := ⟨(gA o_me 3 (3 : Int32).toNatClampNeg).toInt.toNat, by omega⟩
  have m1 : ((900 : Int32) * (gA o_me 3 (3 : Int32).toNatClampNeg)).toInt = 900 * (l : Int) := i32_mul (by decide) el (by omega) (by omega)
  have m2 : ((84 : Int32) + ((900 : Int32) * (gA o_me 3 (3 : Int32).toNatClampNeg))).toInt = 84 + 900 * (l : Int) := i32_add (by decide) m1 (by omega) (by omega)
  have m3 : ((4 : Int32) * p1).toInt = 4 * p1.toInt := i32_mul (by decide) rfl (by omega) (by omega)
  have m4 : ((36 : Int32) + ((4 : Int32) * p1)).toInt = 36 + 4 * p1.toInt := i32_add (by decide) m3 (by omega) (by omega)
  have m5 : (((36 : Int32) + ((4 : Int32) * p1)) + p2).toInt = 36 + 4 * p1.toInt + p2.toInt := i32_add m4 rfl (by omega) (by omega)
  have m6 : ((8 : Int32) + p1).toInt = 8 + p1.toInt := i32_add (by decide) rfl (by omega) (by omega)
  have m7 : ((15 : Int32) + p1).toInt = 15 + p1.toInt := i32_add (by decide) rfl (by omega) (by omega)
  refine wp_lt (fun o1 e1 => ?_)
  have hI1 : IvX9 o1 := by rw [e1]; exact hI_me
  have hK1 : Kp [1, 8, 11, 13, 14, 15, 16, 18, 19, 20, 21, 23, 26, 29, 43, 56, 57, 58, 59, 62] [2, 3, 4, 5, 7, 10, 12, 22, 24, 25, 27, 28, 42, 48, 50, 51, 55, 61] [(0, 1), (1, 2), (29, 36), (36, 64), (64, 71)] o_me o1 := by rw [e1]; exact Kp.sI (by decide)
  have h20 : gI o1 20 = 0 := by rw [e1]; exact ho
  have h34 : (gI o1 34).toInt = 84 + 900 * (l : Int) := by rw [e1]; exact m2
  clear e1
  have step : ∀ (o : Ob) (j : Nat) (v : Int64), IvX9 o → Kp [1, 8, 11, 13, 14, 15, 16, 18, 19, 20, 21, 23, 26, 29, 43, 56, 57, 58, 59, 62] [2, 3, 4, 5, 7, 10, 12, 22, 24, 25, 27, 28, 42, 48, 50, 51, 55, 61] [(0, 1), (1, 2), (29, 36), (36, 64), (64, 71)] o_me o → gI o 20 = 0 → (gI o 34).toInt = 84 + 900 * (l : Int) → IvX9 (tM o 35 j v) ∧ Kp [1, 8, 11, 13, 14, 15, 16, 18, 19, 20, 21, 23, 26, 29, 43, 56, 57, 58, 59, 62] [2, 3, 4, 5, 7, 10, 12, 22, 24, 25, 27, 28, 42, 48, 50, 51, 55, 61] [(0, 1), (1, 2), (29, 36), (36, 64), (64, 71)] o_me (tM o 35 j v) ∧ gI (tM o 35 j v) 20 = 0 ∧ (gI (tM o 35 j v) 34).toInt = 84 + 900 * (l : Int) := fun o j v a b c d => ⟨a, b.trans Kp.tM, c, d⟩
  refine wp_lt (fun o2 e2 => ?_)
  obtain ⟨hI2, hK2, h20, h34⟩ := e2 ▸ step o1 _ _ hI1 hK1 h20 h34
  refine wp_lt (fun o3 e3 => ?_)
  obtain ⟨hI3, hK3, h20, h34⟩ := e3 ▸ step o2 _ _ hI2 hK2 h20 h34
  refine wp_gd (zin_of (m := 5484) rfl (by omega) (by omega)) ?_
  refine wp_lt (fun o5 e5 => ?_)
  obtain ⟨hI5, hK5, h20, h34⟩ := e5 ▸ step o3 _ _ hI3 hK3 h20 h34
  refine wp_gd (zin_of (m := 5484) rfl (by omega) (by omega)) ?_
  refine wp_lt (fun o7 e7 => ?_)
  obtain ⟨hI7, hK7, h20, h34⟩ := e7 ▸ step o5 _ _ hI5 hK5 h20 h34
  refine wp_gd (zin_of (m := 5484) rfl (by omega) (by omega)) ?_
  refine wp_lt (fun o9 e9 => ?_)
  obtain ⟨hI9, hK9, h20, h34⟩ := e9 ▸ step o7 _ _ hI7 hK7 h20 h34
  refine wp_lt (fun o10 e10 => ?_)
  obtain ⟨hI10, hK10, h20, h34⟩ := e10 ▸ step o9 _ _ hI9 hK9 h20 h34
  refine wp_lt (fun o11 e11 => ?_)
  obtain ⟨hI11, hK11, h20, h34⟩ := e11 ▸ step o10 _ _ hI10 hK10 h20 h34
  refine wp_lt (fun o12 e12 => ?_)
  obtain ⟨hI12, hK12, h20, h34⟩ := e12 ▸ step o11 _ _ hI11 hK11 h20 h34
  refine wp_lt (fun o13 e13 => ?_)
  obtain ⟨hI13, hK13, h20, h34⟩ := e13 ▸ step o12 _ _ hI12 hK12 h20 h34
  refine wp_mono (h_tells o13 l (by omega) h20 h34 zfu p0 p4 0 o13 0 hI13 Kp.rf (by decide) (by omega) (by show 12 < 100000 + 0; omega)) (fun y hy => ⟨hy.1, hK13.trans (hy.2.mono (by decide) (by decide) (by decide))⟩)

set_option maxHeartbeats 4000000 in
set_option maxRecDepth 100000 in
theorem s_X9_isBarred (o_me : Ob) (p0 : Int32) (p1 : Int32) (hI_me : IvX9 o_me) (q0 : 0 ≤ p0.toInt ∧ p0.toInt ≤ 6) (q1 : 0 ≤ p1.toInt ∧ p1.toInt ≤ 9) (q2 : 0 ≤ (gI o_me 20).toInt ∧ (gI o_me 20).toInt ≤ 0) : wp (f_X9_isBarred   o_me p0 p1) (fun (y : Int32 × Ob) => (0 ≤ y.1.toInt ∧ y.1.toInt ≤ 1) ∧ IvX9 y.2 ∧ Kp [1, 8, 11, 13, 14, 15, 16, 18, 19, 20, 21, 23, 26, 29, 43, 56, 57, 58, 59, 62] [2, 3, 4, 5, 7, 10, 12, 22, 24, 25, 27, 28, 42, 48, 50, 51, 55, 61] [(0, 1), (1, 2), (29, 36), (36, 64), (64, 71)] o_me y.2) := by
  have li0 : (-1 : Int32).toInt = (-1) := by decide
  have li1 : (0 : Int32).toInt = 0 := by decide
  have li2 : (0 : Int64).toInt = 0 := by decide
  have li3 : (1 : Int32).toInt = 1 := by decide
  have li4 : (1 : Int64).toInt = 1 := by decide
  have li5 : (3 : Int32).toInt = 3 := by decide
  unfold f_X9_isBarred
  refine wp_bd (s_X9_tells   o_me (3 : Int32) p0 p1 (-1 : Int32) (0 : Int64)  hI_me  ⟨by omega, by omega⟩ ⟨by omega, by omega⟩ ⟨by omega, by omega⟩) (fun z1 hz1 => ?_)
  obtain ⟨hz1_0, hz1_1⟩ := hz1
  have hkpz1_me : Kp [1, 8, 11, 13, 14, 15, 16, 18, 19, 20, 21, 23, 26, 29, 43, 56, 57, 58, 59, 62] [2, 3, 4, 5, 7, 10, 12, 22, 24, 25, 27, 28, 42, 48, 50, 51, 55, 61] [(0, 1), (1, 2), (29, 36), (36, 64), (64, 71)] o_me z1.2 := Kp.rf.trans (hz1_1.mono (by decide) (by decide) (by decide))
  have kz1_k2 : (gI z1.2 20).toInt = (gI o_me 20).toInt := congrArg Int32.toInt (hz1_1.1 20 (by decide))
  refine wp_if (fun c3 => ?_) (fun c3 => ?_)
  · have c3 := cvl_eq (a := z1.1.toInt) (b := 1) rfl (by decide) c3
    refine wp_some ?_
    exact (show (0 ≤ (1 : Int32).toInt ∧ (1 : Int32).toInt ≤ 1) ∧ IvX9 z1.2 ∧ Kp [1, 8, 11, 13, 14, 15, 16, 18, 19, 20, 21, 23, 26, 29, 43, 56, 57, 58, 59, 62] [2, 3, 4, 5, 7, 10, 12, 22, 24, 25, 27, 28, 42, 48, 50, 51, 55, 61] [(0, 1), (1, 2), (29, 36), (36, 64), (64, 71)] o_me z1.2 from ⟨⟨by decide, by decide⟩, hz1_0, hkpz1_me⟩)
  · have c3 := cvl_ne (a := z1.1.toInt) (b := 1) rfl (by decide) c3
    refine wp_some ?_
    exact (show (0 ≤ (0 : Int32).toInt ∧ (0 : Int32).toInt ≤ 1) ∧ IvX9 z1.2 ∧ Kp [1, 8, 11, 13, 14, 15, 16, 18, 19, 20, 21, 23, 26, 29, 43, 56, 57, 58, 59, 62] [2, 3, 4, 5, 7, 10, 12, 22, 24, 25, 27, 28, 42, 48, 50, 51, 55, 61] [(0, 1), (1, 2), (29, 36), (36, 64), (64, 71)] o_me z1.2 from ⟨⟨by decide, by decide⟩, hz1_0, hkpz1_me⟩)

set_option maxHeartbeats 4000000 in
set_option maxRecDepth 100000 in
theorem s_X9_within (p0 : Int64) (p1 : Int32) (p2 : Int32)  (r0 : p1.toInt ≤ p2.toInt + 0) : wp (f_X9_within   p0 p1 p2) (fun (y : Int32) => (y.toInt ≤ p2.toInt + 0) ∧ (p1.toInt ≤ y.toInt + 0)) := by
  unfold f_X9_within
  have e1 := Int32.toInt_toInt64 p1
  have e2 := Int32.toInt_toInt64 p2
  refine wp_if (fun c => ?_) (fun c => ?_)
  · have c := cvl_ge (a := p0.toInt) (b := p1.toInt64.toInt) rfl rfl c
    refine wp_if (fun d => ?_) (fun d => ?_)
    · have d := cvl_le (a := p0.toInt) (b := p2.toInt64.toInt) rfl rfl d
      have r1 := i32_rg p1
      have r2 := i32_rg p2
      have t := l2i_eq (x := p0) (by omega) (by omega)
      exact wp_some ⟨by omega, by omega⟩
    · exact wp_some ⟨by omega, by omega⟩
  · exact wp_some ⟨by omega, by omega⟩

set_option maxHeartbeats 4000000 in
set_option maxRecDepth 100000 in
theorem s_X9_runsOf (o_me : Ob) (p0 : Int32) (p1 : Int32) (hI_me : IvX9 o_me) (q0 : 0 ≤ p0.toInt ∧ p0.toInt ≤ 6) (q1 : 0 ≤ p1.toInt ∧ p1.toInt ≤ 9) (q2 : 0 ≤ (gI o_me 20).toInt ∧ (gI o_me 20).toInt ≤ 0) : wp (f_X9_runsOf   o_me p0 p1) (fun (y : Int32 × Ob) => (0 ≤ y.1.toInt ∧ y.1.toInt ≤ 99) ∧ IvX9 y.2 ∧ Kp [1, 8, 11, 13, 14, 15, 16, 18, 19, 20, 21, 23, 26, 29, 43, 56, 57, 58, 59, 62] [2, 3, 4, 5, 7, 10, 12, 22, 24, 25, 27, 28, 42, 48, 50, 51, 55, 61] [(0, 1), (1, 2), (29, 36), (36, 64), (64, 71)] o_me y.2) := by
  have li0 : (-1 : Int32).toInt = (-1) := by decide
  have li1 : (0 : Int32).toInt = 0 := by decide
  have li2 : (36 : Int32).toInt = 36 := by decide
  have li3 : (4 : Int32).toInt = 4 := by decide
  have li4 : (99 : Int32).toInt = 99 := by decide
  unfold f_X9_runsOf
  have t1 : ((4 : Int32) * p0).toInt = 4 * p0.toInt := i32_mul (by decide) rfl (by omega) (by omega)
  have t2 : ((36 : Int32) + ((4 : Int32) * p0)).toInt = 36 + ((4 : Int32) * p0).toInt := i32_add (by decide) rfl (by omega) (by omega)
  have t3 : (((36 : Int32) + ((4 : Int32) * p0)) + p1).toInt = ((36 : Int32) + ((4 : Int32) * p0)).toInt + p1.toInt := i32_add rfl rfl (by omega) (by omega)
  refine wp_gd (zin_of (m := 5484) rfl (by omega) (by omega)) ?_
  have rg4 := i32_rg (gA o_me 3 (((36 : Int32) + ((4 : Int32) * p0)) + p1).toNatClampNeg)
  have t5 : ((gA o_me 3 (((36 : Int32) + ((4 : Int32) * p0)) + p1).toNatClampNeg).toInt64).toInt = (gA o_me 3 (((36 : Int32) + ((4 : Int32) * p0)) + p1).toNatClampNeg).toInt := Int32.toInt_toInt64 _
  refine wp_bd (s_X9_tells   o_me (0 : Int32) p0 p1 (-1 : Int32) ((gA o_me 3 (((36 : Int32) + ((4 : Int32) * p0)) + p1).toNatClampNeg).toInt64)  hI_me  ⟨by omega, by omega⟩ ⟨by omega, by omega⟩ ⟨by omega, by omega⟩) (fun z6 hz6 => ?_)
  obtain ⟨hz6_0, hz6_1⟩ := hz6
  have hkpz6_me : Kp [1, 8, 11, 13, 14, 15, 16, 18, 19, 20, 21, 23, 26, 29, 43, 56, 57, 58, 59, 62] [2, 3, 4, 5, 7, 10, 12, 22, 24, 25, 27, 28, 42, 48, 50, 51, 55, 61] [(0, 1), (1, 2), (29, 36), (36, 64), (64, 71)] o_me z6.2 := Kp.rf.trans (hz6_1.mono (by decide) (by decide) (by decide))
  have kz6_k7 : (gA z6.2 3 (((36 : Int32) + ((4 : Int32) * p0)) + p1).toNatClampNeg).toInt = (gA o_me 3 (((36 : Int32) + ((4 : Int32) * p0)) + p1).toNatClampNeg).toInt := congrArg (fun g => (g (((36 : Int32) + ((4 : Int32) * p0)) + p1).toNatClampNeg).toInt) (hz6_1.2.1 3 (by decide))
  have kz6_k8 : (gI z6.2 20).toInt = (gI o_me 20).toInt := congrArg Int32.toInt (hz6_1.1 20 (by decide))
  refine wp_bd (s_X9_within   z6.1 (0 : Int32) (99 : Int32)    (by omega)) (fun z9 hz9 => ?_)
  obtain ⟨hz9_0, hz9_1⟩ := hz9
  refine wp_some ?_
  exact (show (0 ≤ z9.toInt ∧ z9.toInt ≤ 99) ∧ IvX9 z6.2 ∧ Kp [1, 8, 11, 13, 14, 15, 16, 18, 19, 20, 21, 23, 26, 29, 43, 56, 57, 58, 59, 62] [2, 3, 4, 5, 7, 10, 12, 22, 24, 25, 27, 28, 42, 48, 50, 51, 55, 61] [(0, 1), (1, 2), (29, 36), (36, 64), (64, 71)] o_me z6.2 from ⟨⟨by omega, by omega⟩, hz6_0, hkpz6_me⟩)

set_option maxHeartbeats 4000000 in
set_option maxRecDepth 100000 in
theorem s_X9_layPlaces (o_me : Ob) (p0 : Int32) (hI_me : IvX9 o_me) (q0 : 0 ≤ p0.toInt ∧ p0.toInt ≤ 3) (q1 : 0 ≤ (gI o_me 20).toInt ∧ (gI o_me 20).toInt ≤ 0) : wp (f_X9_layPlaces   o_me p0) (fun (y : Ob) => IvX9 y ∧ Kp [1, 8, 11, 13, 14, 15, 16, 18, 19, 20, 21, 23, 26, 29, 56, 57, 58, 59, 62] [2, 3, 4, 5, 7, 10, 12, 22, 24, 25, 27, 28, 48, 50, 51, 55, 61] [(0, 1), (1, 2), (29, 36), (36, 64), (64, 71)] o_me y) := by
  have li0 : (0 : Int32).toInt = 0 := by decide
  have li1 : (1 : Int32).toInt = 1 := by decide
  have li2 : (22 : Int32).toInt = 22 := by decide
  unfold f_X9_layPlaces
  refine wp_lt (fun o1 eo1 => ?_)
  have hIo1 : IvX9 o1 := by rw [eo1]; exact ipX9_43 hI_me ⟨by decide, by decide⟩
  have ko1_k2 : (gI o1 20).toInt = (gI o_me 20).toInt := by rw [eo1]; rfl
  have ko1_v : (gI o1 43).toInt = 0 := by rw [eo1]; exact (show ((0 : Int32)).toInt = _ from by decide)
  have hkpo1 : Kp [1, 8, 11, 13, 14, 15, 16, 18, 19, 20, 21, 23, 26, 29, 56, 57, 58, 59, 62] [2, 3, 4, 5, 7, 10, 12, 22, 24, 25, 27, 28, 48, 50, 51, 55, 61] [(0, 1), (1, 2), (29, 36), (36, 64), (64, 71)] o_me o1 := Kp.rf.trans (by rw [eo1]; exact Kp.sI (by decide))
  have lp1 : ∀ (N1 : Nat) (v1_1 : Int32) (v2_1 : Int32) (o_me_1 : Ob), IvX9 o_me_1 → Kp [1, 8, 11, 13, 14, 15, 16, 18, 19, 20, 21, 23, 26, 29, 56, 57, 58, 59, 62] [2, 3, 4, 5, 7, 10, 12, 22, 24, 25, 27, 28, 48, 50, 51, 55, 61] [(0, 1), (1, 2), (29, 36), (36, 64), (64, 71)] o_me o_me_1 → (0 ≤ v1_1.toInt ∧ v1_1.toInt ≤ 3) → (0 ≤ v2_1.toInt ∧ v2_1.toInt ≤ 7) → (0 ≤ (gI o_me_1 20).toInt ∧ (gI o_me_1 20).toInt ≤ 0) → (0 ≤ (gI o_me_1 43).toInt ∧ (gI o_me_1 43).toInt ≤ 7) → ((gI o_me_1 43).toInt ≤ v2_1.toInt + 0) → (v1_1.toInt ≤ p0.toInt + 0) → (p0.toInt ≤ v1_1.toInt + 0) → (7 - v2_1.toInt).toNat < N1 → wp (lp_X9_layPlaces_7   N1 (v1_1, v2_1, o_me_1)) (fun (y : Ob) => IvX9 y ∧ Kp [1, 8, 11, 13, 14, 15, 16, 18, 19, 20, 21, 23, 26, 29, 56, 57, 58, 59, 62] [2, 3, 4, 5, 7, 10, 12, 22, 24, 25, 27, 28, 48, 50, 51, 55, 61] [(0, 1), (1, 2), (29, 36), (36, 64), (64, 71)] o_me y) := by
    intro N1
    induction N1 with
    | zero =>
      intro v1_1 v2_1 o_me_1 hI_me_1 hkp_me_1 hh5 hh6 hh7 hh8 hh9 hh10 hh11 hN1
      exact absurd hN1 (Nat.not_lt_zero _)
    | succ N1 ihx =>
      have ih1 := ihx
      intro v1_1 v2_1 o_me_1 hI_me_1 hkp_me_1 hh5 hh6 hh7 hh8 hh9 hh10 hh11 hN1
      show wp (lb_X9_layPlaces_7   (lp_X9_layPlaces_7   N1) v1_1 v2_1 o_me_1) (fun (y : Ob) => IvX9 y ∧ Kp [1, 8, 11, 13, 14, 15, 16, 18, 19, 20, 21, 23, 26, 29, 56, 57, 58, 59, 62] [2, 3, 4, 5, 7, 10, 12, 22, 24, 25, 27, 28, 48, 50, 51, 55, 61] [(0, 1), (1, 2), (29, 36), (36, 64), (64, 71)] o_me y)
      unfold lb_X9_layPlaces_7
      have kc12 : (gA o_me_1 3 (0 : Int32).toNatClampNeg).toInt = (gA o_me 3 (0 : Int32).toNatClampNeg).toInt := congrArg Int32.toInt (hkp_me_1.2.2 (0, 1) (by decide) (0 : Int32).toNatClampNeg (by decide) (by decide))
      have t13 := iaX9_3_0 hI_me_1 (j := (0 : Int32)) (by decide) (by decide)
      refine wp_if (fun c14 => ?_) (fun c14 => ?_)
      · have c14 := cv_ge (a := v2_1.toInt) (b := (gA o_me_1 3 (0 : Int32).toNatClampNeg).toInt) rfl rfl c14
        refine wp_some ?_
        exact (show IvX9 o_me_1 ∧ Kp [1, 8, 11, 13, 14, 15, 16, 18, 19, 20, 21, 23, 26, 29, 56, 57, 58, 59, 62] [2, 3, 4, 5, 7, 10, 12, 22, 24, 25, 27, 28, 48, 50, 51, 55, 61] [(0, 1), (1, 2), (29, 36), (36, 64), (64, 71)] o_me o_me_1 from ⟨hI_me_1, hkp_me_1⟩)
      · have c14 := cv_nge (a := v2_1.toInt) (b := (gA o_me_1 3 (0 : Int32).toNatClampNeg).toInt) rfl rfl c14
        have t15 : ((22 : Int32) + v2_1).toInt = 22 + v2_1.toInt := i32_add (by decide) rfl (by omega) (by omega)
        refine wp_gd (zin_of (m := 5484) rfl (by omega) (by omega)) ?_
        have t16 := iaX9_3_6 hI_me_1 (j := (22 : Int32) + v2_1) (by omega) (by omega)
        refine wp_if (fun c17 => ?_) (fun c17 => ?_)
        · have c17 := cv_eq (a := (gA o_me_1 3 ((22 : Int32) + v2_1).toNatClampNeg).toInt) (b := 1) rfl (by decide) c17
          refine wp_bd (s_X9_isBarred   o_me_1 v2_1 v1_1  hI_me_1  ⟨by omega, by omega⟩ ⟨by omega, by omega⟩ ⟨by omega, by omega⟩) (fun z18 hz18 => ?_)
          obtain ⟨hz18_0, hz18_1, hz18_2⟩ := hz18
          have hkpz18_me : Kp [1, 8, 11, 13, 14, 15, 16, 18, 19, 20, 21, 23, 26, 29, 56, 57, 58, 59, 62] [2, 3, 4, 5, 7, 10, 12, 22, 24, 25, 27, 28, 48, 50, 51, 55, 61] [(0, 1), (1, 2), (29, 36), (36, 64), (64, 71)] o_me z18.2 := hkp_me_1.trans (hz18_2.mono (by decide) (by decide) (by decide))
          have kz18_k19 : (gA z18.2 3 ((22 : Int32) + v2_1).toNatClampNeg).toInt = (gA o_me_1 3 ((22 : Int32) + v2_1).toNatClampNeg).toInt := congrArg (fun g => (g ((22 : Int32) + v2_1).toNatClampNeg).toInt) (hz18_2.2.1 3 (by decide))
          have kz18_k20 : (gA z18.2 3 (0 : Int32).toNatClampNeg).toInt = (gA o_me_1 3 (0 : Int32).toNatClampNeg).toInt := congrArg (fun g => (g (0 : Int32).toNatClampNeg).toInt) (hz18_2.2.1 3 (by decide))
          have kz18_k21 : (gI z18.2 20).toInt = (gI o_me_1 20).toInt := congrArg Int32.toInt (hz18_2.1 20 (by decide))
          have kz18_k22 : (gI z18.2 43).toInt = (gI o_me_1 43).toInt := congrArg Int32.toInt (hz18_2.1 43 (by decide))
          refine wp_if (fun c23 => ?_) (fun c23 => ?_)
          · have c23 := cv_eq (a := z18.1.toInt) (b := 0) rfl (by decide) c23
            refine wp_bd (s_X9_runsOf   z18.2 v2_1 v1_1  hz18_1  ⟨by omega, by omega⟩ ⟨by omega, by omega⟩ ⟨by omega, by omega⟩) (fun z24 hz24 => ?_)
            obtain ⟨hz24_0, hz24_1, hz24_2⟩ := hz24
            have hkpz24_me : Kp [1, 8, 11, 13, 14, 15, 16, 18, 19, 20, 21, 23, 26, 29, 56, 57, 58, 59, 62] [2, 3, 4, 5, 7, 10, 12, 22, 24, 25, 27, 28, 48, 50, 51, 55, 61] [(0, 1), (1, 2), (29, 36), (36, 64), (64, 71)] o_me z24.2 := hkpz18_me.trans (hz24_2.mono (by decide) (by decide) (by decide))
            have kz24_k25 : (gA z24.2 3 ((22 : Int32) + v2_1).toNatClampNeg).toInt = (gA z18.2 3 ((22 : Int32) + v2_1).toNatClampNeg).toInt := congrArg (fun g => (g ((22 : Int32) + v2_1).toNatClampNeg).toInt) (hz24_2.2.1 3 (by decide))
            have kz24_k26 : (gA z24.2 3 (0 : Int32).toNatClampNeg).toInt = (gA z18.2 3 (0 : Int32).toNatClampNeg).toInt := congrArg (fun g => (g (0 : Int32).toNatClampNeg).toInt) (hz24_2.2.1 3 (by decide))
            have kz24_k27 : (gI z24.2 20).toInt = (gI z18.2 20).toInt := congrArg Int32.toInt (hz24_2.1 20 (by decide))
            have kz24_k28 : (gI z24.2 43).toInt = (gI z18.2 43).toInt := congrArg Int32.toInt (hz24_2.1 43 (by decide))
            refine wp_gd (zin_of (m := 7) rfl (by omega) (by omega)) ?_
            refine wp_lt (fun o29 eo29 => ?_)
            have hIo29 : IvX9 o29 := by rw [eo29]; exact hz24_1
            have ko29_k30 : (gA o29 3 ((22 : Int32) + v2_1).toNatClampNeg).toInt = (gA z24.2 3 ((22 : Int32) + v2_1).toNatClampNeg).toInt := by rw [eo29]; rfl
            have ko29_k31 : (gA o29 3 (0 : Int32).toNatClampNeg).toInt = (gA z24.2 3 (0 : Int32).toNatClampNeg).toInt := by rw [eo29]; rfl
            have ko29_k32 : (gI o29 20).toInt = (gI z24.2 20).toInt := by rw [eo29]; rfl
            have ko29_k33 : (gI o29 43).toInt = (gI z24.2 43).toInt := by rw [eo29]; rfl
            have ko29_v : (gA o29 41 v2_1.toNatClampNeg).toInt = z24.1.toInt := by rw [eo29]; exact congrArg Int32.toInt (upd_eq (g := gA z24.2 41) (i := v2_1) (v := z24.1))
            have hkpo29 : Kp [1, 8, 11, 13, 14, 15, 16, 18, 19, 20, 21, 23, 26, 29, 56, 57, 58, 59, 62] [2, 3, 4, 5, 7, 10, 12, 22, 24, 25, 27, 28, 48, 50, 51, 55, 61] [(0, 1), (1, 2), (29, 36), (36, 64), (64, 71)] o_me o29 := hkpz24_me.trans (by rw [eo29]; exact Kp.tA (by decide) (by decide))
            refine wp_lt (fun x34 ex34 => ?_)
            have tx34 : x34.toInt = (gI o29 43).toInt := by rw [ex34]
            have lp2 : ∀ (N2 : Nat) (v1_2 : Int32) (v2_2 : Int32) (v3_2 : Int32) (o_me_2 : Ob), IvX9 o_me_2 → Kp [1, 8, 11, 13, 14, 15, 16, 18, 19, 20, 21, 23, 26, 29, 56, 57, 58, 59, 62] [2, 3, 4, 5, 7, 10, 12, 22, 24, 25, 27, 28, 48, 50, 51, 55, 61] [(0, 1), (1, 2), (29, 36), (36, 64), (64, 71)] o_me o_me_2 → (0 ≤ v1_2.toInt ∧ v1_2.toInt ≤ 3) → (0 ≤ v2_2.toInt ∧ v2_2.toInt ≤ 6) → (0 ≤ v3_2.toInt ∧ v3_2.toInt ≤ 6) → (0 ≤ (gI o_me_2 20).toInt ∧ (gI o_me_2 20).toInt ≤ 0) → (0 ≤ (gI o_me_2 43).toInt ∧ (gI o_me_2 43).toInt ≤ 6) → (v3_2.toInt ≤ v2_2.toInt + 0) → (v3_2.toInt ≤ (gI o_me_2 43).toInt + 0) → ((gI o_me_2 43).toInt ≤ v2_2.toInt + 0) → (v1_2.toInt ≤ v1_1.toInt + 0) → (v1_1.toInt ≤ v1_2.toInt + 0) → (v1_2.toInt ≤ p0.toInt + 0) → (p0.toInt ≤ v1_2.toInt + 0) → (x34.toInt ≤ v2_2.toInt + 0) → (v2_2.toInt ≤ v2_1.toInt + 0) → (v2_1.toInt ≤ v2_2.toInt + 0) → (v3_2.toInt ≤ x34.toInt + 0) → (v3_2.toInt ≤ v2_1.toInt + 0) → ((gI o_me_2 43).toInt ≤ x34.toInt + 0) → (x34.toInt ≤ (gI o_me_2 43).toInt + 0) → ((gI o_me_2 43).toInt ≤ v2_1.toInt + 0) → (v3_2.toInt - 0).toNat < N2 → wp (lp_X9_layPlaces_56  (lp_X9_layPlaces_7   N1) N2 (v1_2, v2_2, v3_2, o_me_2)) (fun (y : Ob) => IvX9 y ∧ Kp [1, 8, 11, 13, 14, 15, 16, 18, 19, 20, 21, 23, 26, 29, 56, 57, 58, 59, 62] [2, 3, 4, 5, 7, 10, 12, 22, 24, 25, 27, 28, 48, 50, 51, 55, 61] [(0, 1), (1, 2), (29, 36), (36, 64), (64, 71)] o_me y) := by
              intro N2
              induction N2 with
              | zero =>
                intro v1_2 v2_2 v3_2 o_me_2 hI_me_2 hkp_me_2 hh37 hh38 hh39 hh40 hh41 hh42 hh43 hh44 hh45 hh46 hh47 hh48 hh49 hh50 hh51 hh52 hh53 hh54 hh55 hh56 hN2
                exact absurd hN2 (Nat.not_lt_zero _)
              | succ N2 ihx =>
                have ih2 := ihx
                intro v1_2 v2_2 v3_2 o_me_2 hI_me_2 hkp_me_2 hh37 hh38 hh39 hh40 hh41 hh42 hh43 hh44 hh45 hh46 hh47 hh48 hh49 hh50 hh51 hh52 hh53 hh54 hh55 hh56 hN2
                show wp (lb_X9_layPlaces_56  (lp_X9_layPlaces_7   N1) (lp_X9_layPlaces_56  (lp_X9_layPlaces_7   N1) N2) v1_2 v2_2 v3_2 o_me_2) (fun (y : Ob) => IvX9 y ∧ Kp [1, 8, 11, 13, 14, 15, 16, 18, 19, 20, 21, 23, 26, 29, 56, 57, 58, 59, 62] [2, 3, 4, 5, 7, 10, 12, 22, 24, 25, 27, 28, 48, 50, 51, 55, 61] [(0, 1), (1, 2), (29, 36), (36, 64), (64, 71)] o_me y)
                unfold lb_X9_layPlaces_56
                refine wp_if (fun c57 => ?_) (fun c57 => ?_)
                · have c57 := cv_le (a := v3_2.toInt) (b := 0) rfl (by decide) c57
                  unfold bk_X9_layPlaces_102
                  refine wp_gd (zin_of (m := 7) rfl (by omega) (by omega)) ?_
                  refine wp_lt (fun o58 eo58 => ?_)
                  have hIo58 : IvX9 o58 := by rw [eo58]; exact ibX9_42 hI_me_2 (by omega) (Or.inr (Or.inr ⟨by omega, by omega⟩))
                  have ko58_k59 : (gI o58 20).toInt = (gI o_me_2 20).toInt := by rw [eo58]; rfl
                  have ko58_k60 : (gI o58 43).toInt = (gI o_me_2 43).toInt := by rw [eo58]; rfl
                  have ko58_v : (gA o58 42 v3_2.toNatClampNeg).toInt = v2_2.toInt := by rw [eo58]; exact congrArg Int32.toInt (upd_eq (g := gA o_me_2 42) (i := v3_2) (v := v2_2))
                  have hkpo58 : Kp [1, 8, 11, 13, 14, 15, 16, 18, 19, 20, 21, 23, 26, 29, 56, 57, 58, 59, 62] [2, 3, 4, 5, 7, 10, 12, 22, 24, 25, 27, 28, 48, 50, 51, 55, 61] [(0, 1), (1, 2), (29, 36), (36, 64), (64, 71)] o_me o58 := hkp_me_2.trans (by rw [eo58]; exact Kp.tA (by decide) (by decide))
                  have t61 : ((gI o58 43) + (1 : Int32)).toInt = (gI o58 43).toInt + 1 := i32_add rfl (by decide) (by omega) (by omega)
                  refine wp_lt (fun o62 eo62 => ?_)
                  have hIo62 : IvX9 o62 := by rw [eo62]; exact ipX9_43 hIo58 ⟨by omega, by omega⟩
                  have ko62_k63 : (gA o62 42 v3_2.toNatClampNeg).toInt = (gA o58 42 v3_2.toNatClampNeg).toInt := by rw [eo62]; rfl
                  have ko62_k64 : (gI o62 20).toInt = (gI o58 20).toInt := by rw [eo62]; rfl
                  have ko62_v : (gI o62 43).toInt = ((gI o58 43) + (1 : Int32)).toInt := by rw [eo62]; rfl
                  have hkpo62 : Kp [1, 8, 11, 13, 14, 15, 16, 18, 19, 20, 21, 23, 26, 29, 56, 57, 58, 59, 62] [2, 3, 4, 5, 7, 10, 12, 22, 24, 25, 27, 28, 48, 50, 51, 55, 61] [(0, 1), (1, 2), (29, 36), (36, 64), (64, 71)] o_me o62 := hkpo58.trans (by rw [eo62]; exact Kp.sI (by decide))
                  unfold bk_X9_layPlaces_119
                  refine wp_lt (fun x65 ex65 => ?_)
                  have tx65 : x65.toInt = v2_2.toInt + 1 := by rw [ex65]; exact i32_add rfl (by decide) (by omega) (by omega)
                  exact ih1 v1_2 x65 o62 hIo62 hkpo62 ⟨by omega, by omega⟩ ⟨by omega, by omega⟩ ⟨by omega, by omega⟩ ⟨by omega, by omega⟩ (by omega) (by omega) (by omega) (by omega)
                · have c57 := cv_nle (a := v3_2.toInt) (b := 0) rfl (by decide) c57
                  have t66 : (v3_2 - (1 : Int32)).toInt = v3_2.toInt - 1 := i32_sub rfl (by decide) (by omega) (by omega)
                  refine wp_gd (zin_of (m := 7) rfl (by omega) (by omega)) ?_
                  have t67 := iaX9_42_0 hI_me_2 (j := v3_2 - (1 : Int32)) (by omega) (by omega)
                  refine wp_gd (zin_of (m := 7) rfl (by omega) (by omega)) ?_
                  refine wp_gd (zin_of (m := 7) rfl (by omega) (by omega)) ?_
                  have rg69 := i32_rg (gA o_me_2 41 (gA o_me_2 42 (v3_2 - (1 : Int32)).toNatClampNeg).toNatClampNeg)
                  have rg70 := i32_rg (gA o_me_2 41 v2_2.toNatClampNeg)
                  refine wp_if (fun c68 => ?_) (fun c68 => ?_)
                  · have c68 := cv_ge (a := (gA o_me_2 41 (gA o_me_2 42 (v3_2 - (1 : Int32)).toNatClampNeg).toNatClampNeg).toInt) (b := (gA o_me_2 41 v2_2.toNatClampNeg).toInt) rfl rfl c68
                    unfold bk_X9_layPlaces_102
                    refine wp_gd (zin_of (m := 7) rfl (by omega) (by omega)) ?_
                    refine wp_lt (fun o71 eo71 => ?_)
                    have hIo71 : IvX9 o71 := by rw [eo71]; exact ibX9_42 hI_me_2 (by omega) (Or.inr (Or.inr ⟨by omega, by omega⟩))
                    have ko71_k72 : (gA o71 41 (gA o_me_2 42 (v3_2 - (1 : Int32)).toNatClampNeg).toNatClampNeg).toInt = (gA o_me_2 41 (gA o_me_2 42 (v3_2 - (1 : Int32)).toNatClampNeg).toNatClampNeg).toInt := by rw [eo71]; rfl
                    have ko71_k73 : (gA o71 41 v2_2.toNatClampNeg).toInt = (gA o_me_2 41 v2_2.toNatClampNeg).toInt := by rw [eo71]; rfl
                    have ko71_k74 : (gI o71 20).toInt = (gI o_me_2 20).toInt := by rw [eo71]; rfl
                    have ko71_k75 : (gI o71 43).toInt = (gI o_me_2 43).toInt := by rw [eo71]; rfl
                    have ko71_v : (gA o71 42 v3_2.toNatClampNeg).toInt = v2_2.toInt := by rw [eo71]; exact congrArg Int32.toInt (upd_eq (g := gA o_me_2 42) (i := v3_2) (v := v2_2))
                    have hkpo71 : Kp [1, 8, 11, 13, 14, 15, 16, 18, 19, 20, 21, 23, 26, 29, 56, 57, 58, 59, 62] [2, 3, 4, 5, 7, 10, 12, 22, 24, 25, 27, 28, 48, 50, 51, 55, 61] [(0, 1), (1, 2), (29, 36), (36, 64), (64, 71)] o_me o71 := hkp_me_2.trans (by rw [eo71]; exact Kp.tA (by decide) (by decide))
                    have t76 : ((gI o71 43) + (1 : Int32)).toInt = (gI o71 43).toInt + 1 := i32_add rfl (by decide) (by omega) (by omega)
                    refine wp_lt (fun o77 eo77 => ?_)
                    have hIo77 : IvX9 o77 := by rw [eo77]; exact ipX9_43 hIo71 ⟨by omega, by omega⟩
                    have ko77_k78 : (gA o77 41 (gA o_me_2 42 (v3_2 - (1 : Int32)).toNatClampNeg).toNatClampNeg).toInt = (gA o71 41 (gA o_me_2 42 (v3_2 - (1 : Int32)).toNatClampNeg).toNatClampNeg).toInt := by rw [eo77]; rfl
                    have ko77_k79 : (gA o77 41 v2_2.toNatClampNeg).toInt = (gA o71 41 v2_2.toNatClampNeg).toInt := by rw [eo77]; rfl
                    have ko77_k80 : (gA o77 42 v3_2.toNatClampNeg).toInt = (gA o71 42 v3_2.toNatClampNeg).toInt := by rw [eo77]; rfl
                    have ko77_k81 : (gI o77 20).toInt = (gI o71 20).toInt := by rw [eo77]; rfl
                    have ko77_v : (gI o77 43).toInt = ((gI o71 43) + (1 : Int32)).toInt := by rw [eo77]; rfl
                    have hkpo77 : Kp [1, 8, 11, 13, 14, 15, 16, 18, 19, 20, 21, 23, 26, 29, 56, 57, 58, 59, 62] [2, 3, 4, 5, 7, 10, 12, 22, 24, 25, 27, 28, 48, 50, 51, 55, 61] [(0, 1), (1, 2), (29, 36), (36, 64), (64, 71)] o_me o77 := hkpo71.trans (by rw [eo77]; exact Kp.sI (by decide))
                    unfold bk_X9_layPlaces_119
                    refine wp_lt (fun x82 ex82 => ?_)
                    have tx82 : x82.toInt = v2_2.toInt + 1 := by rw [ex82]; exact i32_add rfl (by decide) (by omega) (by omega)
                    exact ih1 v1_2 x82 o77 hIo77 hkpo77 ⟨by omega, by omega⟩ ⟨by omega, by omega⟩ ⟨by omega, by omega⟩ ⟨by omega, by omega⟩ (by omega) (by omega) (by omega) (by omega)
                  · have c68 := cv_nge (a := (gA o_me_2 41 (gA o_me_2 42 (v3_2 - (1 : Int32)).toNatClampNeg).toNatClampNeg).toInt) (b := (gA o_me_2 41 v2_2.toNatClampNeg).toInt) rfl rfl c68
                    refine wp_gd (zin_of (m := 7) rfl (by omega) (by omega)) ?_
                    refine wp_gd (zin_of (m := 7) rfl (by omega) (by omega)) ?_
                    refine wp_lt (fun o83 eo83 => ?_)
                    have hIo83 : IvX9 o83 := by rw [eo83]; exact ibX9_42 hI_me_2 (by omega) (Or.inr (Or.inr ⟨by omega, by omega⟩))
                    have ko83_k84 : (gA o83 41 (gA o_me_2 42 (v3_2 - (1 : Int32)).toNatClampNeg).toNatClampNeg).toInt = (gA o_me_2 41 (gA o_me_2 42 (v3_2 - (1 : Int32)).toNatClampNeg).toNatClampNeg).toInt := by rw [eo83]; rfl
                    have ko83_k85 : (gA o83 41 v2_2.toNatClampNeg).toInt = (gA o_me_2 41 v2_2.toNatClampNeg).toInt := by rw [eo83]; rfl
                    have ko83_k86 : (gI o83 20).toInt = (gI o_me_2 20).toInt := by rw [eo83]; rfl
                    have ko83_k87 : (gI o83 43).toInt = (gI o_me_2 43).toInt := by rw [eo83]; rfl
                    have ko83_v : (gA o83 42 v3_2.toNatClampNeg).toInt = (gA o_me_2 42 (v3_2 - (1 : Int32)).toNatClampNeg).toInt := by rw [eo83]; exact congrArg Int32.toInt (upd_eq (g := gA o_me_2 42) (i := v3_2) (v := (gA o_me_2 42 (v3_2 - (1 : Int32)).toNatClampNeg)))
                    have hkpo83 : Kp [1, 8, 11, 13, 14, 15, 16, 18, 19, 20, 21, 23, 26, 29, 56, 57, 58, 59, 62] [2, 3, 4, 5, 7, 10, 12, 22, 24, 25, 27, 28, 48, 50, 51, 55, 61] [(0, 1), (1, 2), (29, 36), (36, 64), (64, 71)] o_me o83 := hkp_me_2.trans (by rw [eo83]; exact Kp.tA (by decide) (by decide))
                    refine wp_lt (fun x88 ex88 => ?_)
                    have tx88 : x88.toInt = v3_2.toInt + (-1) := by rw [ex88]; exact i32_add rfl (by decide) (by omega) (by omega)
                    exact ih2 v1_2 v2_2 x88 o83 hIo83 hkpo83 ⟨by omega, by omega⟩ ⟨by omega, by omega⟩ ⟨by omega, by omega⟩ ⟨by omega, by omega⟩ ⟨by omega, by omega⟩ (by omega) (by omega) (by omega) (by omega) (by omega) (by omega) (by omega) (by omega) (by omega) (by omega) (by omega) (by omega) (by omega) (by omega) (by omega) (by omega)
            exact lp2 zfu v1_1 v2_1 x34 o29 hIo29 hkpo29 ⟨by omega, by omega⟩ ⟨by omega, by omega⟩ ⟨by omega, by omega⟩ ⟨by omega, by omega⟩ ⟨by omega, by omega⟩ (by omega) (by omega) (by omega) (by omega) (by omega) (by omega) (by omega) (by omega) (by omega) (by omega) (by omega) (by omega) (by omega) (by omega) (by omega) (by show _ < 100000; omega)
          · have c23z := c23
            have c23 := cv_ne (a := z18.1.toInt) (b := 0) rfl (by decide) c23
            unfold bk_X9_layPlaces_119
            refine wp_lt (fun x89 ex89 => ?_)
            have tx89 : x89.toInt = v2_1.toInt + 1 := by rw [ex89]; exact i32_add rfl (by decide) (by omega) (by omega)
            exact ih1 v1_1 x89 z18.2 hz18_1 hkpz18_me ⟨by omega, by omega⟩ ⟨by omega, by omega⟩ ⟨by omega, by omega⟩ ⟨by omega, by omega⟩ (by omega) (by omega) (by omega) (by omega)
        · have c17 := cv_ne (a := (gA o_me_1 3 ((22 : Int32) + v2_1).toNatClampNeg).toInt) (b := 1) rfl (by decide) c17
          unfold bk_X9_layPlaces_119
          refine wp_lt (fun x90 ex90 => ?_)
          have tx90 : x90.toInt = v2_1.toInt + 1 := by rw [ex90]; exact i32_add rfl (by decide) (by omega) (by omega)
          exact ih1 v1_1 x90 o_me_1 hI_me_1 hkp_me_1 ⟨by omega, by omega⟩ ⟨by omega, by omega⟩ ⟨by omega, by omega⟩ ⟨by omega, by omega⟩ (by omega) (by omega) (by omega) (by omega)
  exact lp1 zfu p0 (0 : Int32) o1 hIo1 hkpo1 ⟨by omega, by omega⟩ ⟨by decide, by decide⟩ ⟨by omega, by omega⟩ ⟨by omega, by omega⟩ (by omega) (by omega) (by omega) (by show _ < 100000; omega)

set_option maxHeartbeats 4000000 in
set_option maxRecDepth 100000 in
theorem s_X9_keepAll (o_me : Ob) (p0 : Int32) (hI_me : IvX9 o_me) (q0 : 0 ≤ p0.toInt ∧ p0.toInt ≤ 17) : wp (f_X9_keepAll   o_me p0) (fun (y : Ob) => IvX9 y ∧ Kp [1, 8, 11, 13, 14, 15, 16, 18, 19, 20, 21, 23, 26, 29, 34, 38, 43, 56, 57, 58, 59, 62] [2, 3, 4, 5, 7, 10, 12, 22, 24, 25, 27, 28, 42, 48, 50, 51, 55, 61] [(0, 1), (1, 2), (29, 36), (36, 64), (64, 71)] o_me y) := by
  have li0 : (0 : Int32).toInt = 0 := by decide
  have li1 : (25 : Int32).toInt = 25 := by decide
  have li2 : (4 : Int32).toInt = 4 := by decide
  unfold f_X9_keepAll
  have lp1 : ∀ (N1 : Nat) (v1_1 : Int32) (v2_1 : Int32) (o_me_1 : Ob), IvX9 o_me_1 → Kp [1, 8, 11, 13, 14, 15, 16, 18, 19, 20, 21, 23, 26, 29, 34, 38, 43, 56, 57, 58, 59, 62] [2, 3, 4, 5, 7, 10, 12, 22, 24, 25, 27, 28, 42, 48, 50, 51, 55, 61] [(0, 1), (1, 2), (29, 36), (36, 64), (64, 71)] o_me o_me_1 → (0 ≤ v1_1.toInt ∧ v1_1.toInt ≤ 17) → (0 ≤ v2_1.toInt ∧ v2_1.toInt ≤ 25) → (v1_1.toInt ≤ p0.toInt + 0) → (p0.toInt ≤ v1_1.toInt + 0) → (25 - v2_1.toInt).toNat < N1 → wp (lp_X9_keepAll_2   N1 (v1_1, v2_1, o_me_1)) (fun (y : Ob) => IvX9 y ∧ Kp [1, 8, 11, 13, 14, 15, 16, 18, 19, 20, 21, 23, 26, 29, 34, 38, 43, 56, 57, 58, 59, 62] [2, 3, 4, 5, 7, 10, 12, 22, 24, 25, 27, 28, 42, 48, 50, 51, 55, 61] [(0, 1), (1, 2), (29, 36), (36, 64), (64, 71)] o_me y) := by
    intro N1
    induction N1 with
    | zero =>
      intro v1_1 v2_1 o_me_1 hI_me_1 hkp_me_1 hh1 hh2 hh3 hh4 hN1
      exact absurd hN1 (Nat.not_lt_zero _)
    | succ N1 ihx =>
      have ih1 := ihx
      intro v1_1 v2_1 o_me_1 hI_me_1 hkp_me_1 hh1 hh2 hh3 hh4 hN1
      show wp (lb_X9_keepAll_2   (lp_X9_keepAll_2   N1) v1_1 v2_1 o_me_1) (fun (y : Ob) => IvX9 y ∧ Kp [1, 8, 11, 13, 14, 15, 16, 18, 19, 20, 21, 23, 26, 29, 34, 38, 43, 56, 57, 58, 59, 62] [2, 3, 4, 5, 7, 10, 12, 22, 24, 25, 27, 28, 42, 48, 50, 51, 55, 61] [(0, 1), (1, 2), (29, 36), (36, 64), (64, 71)] o_me y)
      unfold lb_X9_keepAll_2
      refine wp_if (fun c5 => ?_) (fun c5 => ?_)
      · have c5 := cv_ge (a := v2_1.toInt) (b := 25) rfl (by decide) c5
        refine wp_some ?_
        exact (show IvX9 o_me_1 ∧ Kp [1, 8, 11, 13, 14, 15, 16, 18, 19, 20, 21, 23, 26, 29, 34, 38, 43, 56, 57, 58, 59, 62] [2, 3, 4, 5, 7, 10, 12, 22, 24, 25, 27, 28, 42, 48, 50, 51, 55, 61] [(0, 1), (1, 2), (29, 36), (36, 64), (64, 71)] o_me o_me_1 from ⟨hI_me_1, hkp_me_1⟩)
      · have c5 := cv_nge (a := v2_1.toInt) (b := 25) rfl (by decide) c5
        have t6 : ((25 : Int32) * v1_1).toInt = 25 * v1_1.toInt := i32_mul (by decide) rfl (by omega) (by omega)
        have t7 : (((25 : Int32) * v1_1) + v2_1).toInt = ((25 : Int32) * v1_1).toInt + v2_1.toInt := i32_add rfl rfl (by omega) (by omega)
        have t8 : ((4 : Int32) + v2_1).toInt = 4 + v2_1.toInt := i32_add (by decide) rfl (by omega) (by omega)
        refine wp_gd (zin_of (m := 5484) rfl (by omega) (by omega)) ?_
        refine wp_gd (zin_of (m := 450) rfl (by omega) (by omega)) ?_
        refine wp_lt (fun o9 eo9 => ?_)
        have hIo9 : IvX9 o9 := by rw [eo9]; exact spX9_keep hI_me_1 ⟨by omega, by omega⟩ ⟨by omega, by omega⟩
        have ko9_v : (gA o9 6 (((25 : Int32) * v1_1) + v2_1).toNatClampNeg).toInt = (gA o_me_1 3 ((4 : Int32) + v2_1).toNatClampNeg).toInt := by rw [eo9]; exact congrArg Int32.toInt (upd_eq (g := gA o_me_1 6) (i := (((25 : Int32) * v1_1) + v2_1)) (v := (gA o_me_1 3 ((4 : Int32) + v2_1).toNatClampNeg)))
        have hkpo9 : Kp [1, 8, 11, 13, 14, 15, 16, 18, 19, 20, 21, 23, 26, 29, 34, 38, 43, 56, 57, 58, 59, 62] [2, 3, 4, 5, 7, 10, 12, 22, 24, 25, 27, 28, 42, 48, 50, 51, 55, 61] [(0, 1), (1, 2), (29, 36), (36, 64), (64, 71)] o_me o9 := hkp_me_1.trans (by rw [eo9]; exact Kp.tA (by decide) (by decide))
        refine wp_lt (fun x10 ex10 => ?_)
        have tx10 : x10.toInt = v2_1.toInt + 1 := by rw [ex10]; exact i32_add rfl (by decide) (by omega) (by omega)
        exact ih1 v1_1 x10 o9 hIo9 hkpo9 ⟨by omega, by omega⟩ ⟨by omega, by omega⟩ (by omega) (by omega) (by omega)
  exact lp1 zfu p0 (0 : Int32) o_me hI_me Kp.rf ⟨by omega, by omega⟩ ⟨by decide, by decide⟩ (by omega) (by omega) (by show _ < 100000; omega)

set_option maxHeartbeats 4000000 in
set_option maxRecDepth 100000 in
theorem s_X9_remember (o_me : Ob) (p0 : Int32) (hI_me : IvX9 o_me) (q0 : 0 ≤ p0.toInt ∧ p0.toInt ≤ 3) : wp (f_X9_remember   o_me p0) (fun (y : Ob) => IvX9 y ∧ Kp [1, 11, 13, 14, 15, 16, 18, 19, 20, 21, 23, 26, 29, 34, 38, 43, 56, 57, 58, 59, 62] [2, 3, 4, 5, 10, 12, 22, 24, 25, 27, 28, 42, 48, 50, 51, 55, 61] [(0, 1), (1, 2), (29, 36), (36, 64), (64, 71)] o_me y) := by
  have li0 : (0 : Int32).toInt = 0 := by decide
  have li1 : (1 : Int32).toInt = 1 := by decide
  have li2 : (15 : Int32).toInt = 15 := by decide
  have li3 : (16 : Int32).toInt = 16 := by decide
  have li4 : (25 : Int32).toInt = 25 := by decide
  have li5 : (375 : Int32).toInt = 375 := by decide
  unfold f_X9_remember
  have t1 := igX9_8 hI_me
  refine wp_if (fun c2 => ?_) (fun c2 => ?_)
  · have c2 := cv_eq (a := (gI o_me 8).toInt) (b := 16) rfl (by decide) c2
    have lp1 : ∀ (N1 : Nat) (v1_1 : Int32) (v2_1 : Int32) (o_me_1 : Ob), IvX9 o_me_1 → Kp [1, 11, 13, 14, 15, 16, 18, 19, 20, 21, 23, 26, 29, 34, 38, 43, 56, 57, 58, 59, 62] [2, 3, 4, 5, 10, 12, 22, 24, 25, 27, 28, 42, 48, 50, 51, 55, 61] [(0, 1), (1, 2), (29, 36), (36, 64), (64, 71)] o_me o_me_1 → (0 ≤ v1_1.toInt ∧ v1_1.toInt ≤ 3) → (0 ≤ v2_1.toInt ∧ v2_1.toInt ≤ 375) → (16 ≤ (gI o_me_1 8).toInt ∧ (gI o_me_1 8).toInt ≤ 16) → (v1_1.toInt ≤ p0.toInt + 0) → (p0.toInt ≤ v1_1.toInt + 0) → (375 - v2_1.toInt).toNat < N1 → wp (lp_X9_remember_11   N1 (v1_1, v2_1, o_me_1)) (fun (y : Ob) => IvX9 y ∧ Kp [1, 11, 13, 14, 15, 16, 18, 19, 20, 21, 23, 26, 29, 34, 38, 43, 56, 57, 58, 59, 62] [2, 3, 4, 5, 10, 12, 22, 24, 25, 27, 28, 42, 48, 50, 51, 55, 61] [(0, 1), (1, 2), (29, 36), (36, 64), (64, 71)] o_me y) := by
      intro N1
      induction N1 with
      | zero =>
        intro v1_1 v2_1 o_me_1 hI_me_1 hkp_me_1 hh4 hh5 hh6 hh7 hh8 hN1
        exact absurd hN1 (Nat.not_lt_zero _)
      | succ N1 ihx =>
        have ih1 := ihx
        intro v1_1 v2_1 o_me_1 hI_me_1 hkp_me_1 hh4 hh5 hh6 hh7 hh8 hN1
        show wp (lb_X9_remember_11   (lp_X9_remember_11   N1) v1_1 v2_1 o_me_1) (fun (y : Ob) => IvX9 y ∧ Kp [1, 11, 13, 14, 15, 16, 18, 19, 20, 21, 23, 26, 29, 34, 38, 43, 56, 57, 58, 59, 62] [2, 3, 4, 5, 10, 12, 22, 24, 25, 27, 28, 42, 48, 50, 51, 55, 61] [(0, 1), (1, 2), (29, 36), (36, 64), (64, 71)] o_me y)
        unfold lb_X9_remember_11
        refine wp_if (fun c9 => ?_) (fun c9 => ?_)
        · have c9 := cv_ge (a := v2_1.toInt) (b := 375) rfl (by decide) c9
          have lp2 : ∀ (N2 : Nat) (v1_2 : Int32) (v2_2 : Int32) (o_me_2 : Ob), IvX9 o_me_2 → Kp [1, 11, 13, 14, 15, 16, 18, 19, 20, 21, 23, 26, 29, 34, 38, 43, 56, 57, 58, 59, 62] [2, 3, 4, 5, 10, 12, 22, 24, 25, 27, 28, 42, 48, 50, 51, 55, 61] [(0, 1), (1, 2), (29, 36), (36, 64), (64, 71)] o_me o_me_2 → (0 ≤ v1_2.toInt ∧ v1_2.toInt ≤ 3) → (0 ≤ v2_2.toInt ∧ v2_2.toInt ≤ 15) → (16 ≤ (gI o_me_2 8).toInt ∧ (gI o_me_2 8).toInt ≤ 16) → (v1_2.toInt ≤ v1_1.toInt + 0) → (v1_1.toInt ≤ v1_2.toInt + 0) → (v1_2.toInt ≤ p0.toInt + 0) → (p0.toInt ≤ v1_2.toInt + 0) → (15 - v2_2.toInt).toNat < N2 → wp (lp_X9_remember_41   N2 (v1_2, v2_2, o_me_2)) (fun (y : Ob) => IvX9 y ∧ Kp [1, 11, 13, 14, 15, 16, 18, 19, 20, 21, 23, 26, 29, 34, 38, 43, 56, 57, 58, 59, 62] [2, 3, 4, 5, 10, 12, 22, 24, 25, 27, 28, 42, 48, 50, 51, 55, 61] [(0, 1), (1, 2), (29, 36), (36, 64), (64, 71)] o_me y) := by
            intro N2
            induction N2 with
            | zero =>
              intro v1_2 v2_2 o_me_2 hI_me_2 hkp_me_2 hh11 hh12 hh13 hh14 hh15 hh16 hh17 hN2
              exact absurd hN2 (Nat.not_lt_zero _)
            | succ N2 ihx =>
              have ih2 := ihx
              intro v1_2 v2_2 o_me_2 hI_me_2 hkp_me_2 hh11 hh12 hh13 hh14 hh15 hh16 hh17 hN2
              show wp (lb_X9_remember_41   (lp_X9_remember_41   N2) v1_2 v2_2 o_me_2) (fun (y : Ob) => IvX9 y ∧ Kp [1, 11, 13, 14, 15, 16, 18, 19, 20, 21, 23, 26, 29, 34, 38, 43, 56, 57, 58, 59, 62] [2, 3, 4, 5, 10, 12, 22, 24, 25, 27, 28, 42, 48, 50, 51, 55, 61] [(0, 1), (1, 2), (29, 36), (36, 64), (64, 71)] o_me y)
              unfold lb_X9_remember_41
              refine wp_if (fun c18 => ?_) (fun c18 => ?_)
              · have c18 := cv_ge (a := v2_2.toInt) (b := 15) rfl (by decide) c18
                have t19 : ((gI o_me_2 8) - (1 : Int32)).toInt = (gI o_me_2 8).toInt - 1 := i32_sub rfl (by decide) (by omega) (by omega)
                refine wp_lt (fun o20 eo20 => ?_)
                have hIo20 : IvX9 o20 := by rw [eo20]; exact ipX9_8 hI_me_2 ⟨by omega, by omega⟩
                have ko20_v : (gI o20 8).toInt = ((gI o_me_2 8) - (1 : Int32)).toInt := by rw [eo20]; rfl
                have hkpo20 : Kp [1, 11, 13, 14, 15, 16, 18, 19, 20, 21, 23, 26, 29, 34, 38, 43, 56, 57, 58, 59, 62] [2, 3, 4, 5, 10, 12, 22, 24, 25, 27, 28, 42, 48, 50, 51, 55, 61] [(0, 1), (1, 2), (29, 36), (36, 64), (64, 71)] o_me o20 := hkp_me_2.trans (by rw [eo20]; exact Kp.sI (by decide))
                unfold bk_X9_remember_77
                refine wp_bd (s_X9_keepAll   o20 (gI o20 8)  hIo20  ⟨by omega, by omega⟩) (fun z21 hz21 => ?_)
                obtain ⟨hz21_0, hz21_1⟩ := hz21
                have hkpz21_me : Kp [1, 11, 13, 14, 15, 16, 18, 19, 20, 21, 23, 26, 29, 34, 38, 43, 56, 57, 58, 59, 62] [2, 3, 4, 5, 10, 12, 22, 24, 25, 27, 28, 42, 48, 50, 51, 55, 61] [(0, 1), (1, 2), (29, 36), (36, 64), (64, 71)] o_me z21 := hkpo20.trans (hz21_1.mono (by decide) (by decide) (by decide))
                have kz21_k22 : (gI z21 8).toInt = (gI o20 8).toInt := congrArg Int32.toInt (hz21_1.1 8 (by decide))
                refine wp_gd (zin_of (m := 16) rfl (by omega) (by omega)) ?_
                refine wp_lt (fun o23 eo23 => ?_)
                have hIo23 : IvX9 o23 := by rw [eo23]; exact ibX9_7 hz21_0 (by omega) (Or.inr (Or.inr ⟨by omega, by omega⟩))
                have ko23_k24 : (gI o23 8).toInt = (gI z21 8).toInt := by rw [eo23]; rfl
                have ko23_v : (gA o23 7 (gI z21 8).toNatClampNeg).toInt = v1_2.toInt := by rw [eo23]; exact congrArg Int32.toInt (upd_eq (g := gA z21 7) (i := (gI z21 8)) (v := v1_2))
                have hkpo23 : Kp [1, 11, 13, 14, 15, 16, 18, 19, 20, 21, 23, 26, 29, 34, 38, 43, 56, 57, 58, 59, 62] [2, 3, 4, 5, 10, 12, 22, 24, 25, 27, 28, 42, 48, 50, 51, 55, 61] [(0, 1), (1, 2), (29, 36), (36, 64), (64, 71)] o_me o23 := hkpz21_me.trans (by rw [eo23]; exact Kp.tA (by decide) (by decide))
                have t25 : ((gI o23 8) + (1 : Int32)).toInt = (gI o23 8).toInt + 1 := i32_add rfl (by decide) (by omega) (by omega)
                refine wp_lt (fun o26 eo26 => ?_)
                have hIo26 : IvX9 o26 := by rw [eo26]; exact ipX9_8 hIo23 ⟨by omega, by omega⟩
                have ko26_k27 : (gA o26 7 (gI z21 8).toNatClampNeg).toInt = (gA o23 7 (gI z21 8).toNatClampNeg).toInt := by rw [eo26]; rfl
                have ko26_v : (gI o26 8).toInt = ((gI o23 8) + (1 : Int32)).toInt := by rw [eo26]; rfl
                have hkpo26 : Kp [1, 11, 13, 14, 15, 16, 18, 19, 20, 21, 23, 26, 29, 34, 38, 43, 56, 57, 58, 59, 62] [2, 3, 4, 5, 10, 12, 22, 24, 25, 27, 28, 42, 48, 50, 51, 55, 61] [(0, 1), (1, 2), (29, 36), (36, 64), (64, 71)] o_me o26 := hkpo23.trans (by rw [eo26]; exact Kp.sI (by decide))
                refine wp_some ?_
                exact (show IvX9 o26 ∧ Kp [1, 11, 13, 14, 15, 16, 18, 19, 20, 21, 23, 26, 29, 34, 38, 43, 56, 57, 58, 59, 62] [2, 3, 4, 5, 10, 12, 22, 24, 25, 27, 28, 42, 48, 50, 51, 55, 61] [(0, 1), (1, 2), (29, 36), (36, 64), (64, 71)] o_me o26 from ⟨hIo26, hkpo26⟩)
              · have c18 := cv_nge (a := v2_2.toInt) (b := 15) rfl (by decide) c18
                have t28 : (v2_2 + (1 : Int32)).toInt = v2_2.toInt + 1 := i32_add rfl (by decide) (by omega) (by omega)
                refine wp_gd (zin_of (m := 16) rfl (by omega) (by omega)) ?_
                have t29 := iaX9_7_0 hI_me_2 (j := v2_2 + (1 : Int32)) (by omega) (by omega)
                refine wp_gd (zin_of (m := 16) rfl (by omega) (by omega)) ?_
                refine wp_lt (fun o30 eo30 => ?_)
                have hIo30 : IvX9 o30 := by rw [eo30]; exact ibX9_7 hI_me_2 (by omega) (Or.inr (Or.inr ⟨by omega, by omega⟩))
                have ko30_k31 : (gI o30 8).toInt = (gI o_me_2 8).toInt := by rw [eo30]; rfl
                have ko30_v : (gA o30 7 v2_2.toNatClampNeg).toInt = (gA o_me_2 7 (v2_2 + (1 : Int32)).toNatClampNeg).toInt := by rw [eo30]; exact congrArg Int32.toInt (upd_eq (g := gA o_me_2 7) (i := v2_2) (v := (gA o_me_2 7 (v2_2 + (1 : Int32)).toNatClampNeg)))
                have hkpo30 : Kp [1, 11, 13, 14, 15, 16, 18, 19, 20, 21, 23, 26, 29, 34, 38, 43, 56, 57, 58, 59, 62] [2, 3, 4, 5, 10, 12, 22, 24, 25, 27, 28, 42, 48, 50, 51, 55, 61] [(0, 1), (1, 2), (29, 36), (36, 64), (64, 71)] o_me o30 := hkp_me_2.trans (by rw [eo30]; exact Kp.tA (by decide) (by decide))
                refine wp_lt (fun x32 ex32 => ?_)
                have tx32 : x32.toInt = v2_2.toInt + 1 := by rw [ex32]; exact i32_add rfl (by decide) (by omega) (by omega)
                exact ih2 v1_2 x32 o30 hIo30 hkpo30 ⟨by omega, by omega⟩ ⟨by omega, by omega⟩ ⟨by omega, by omega⟩ (by omega) (by omega) (by omega) (by omega) (by omega)
          exact lp2 zfu v1_1 (0 : Int32) o_me_1 hI_me_1 hkp_me_1 ⟨by omega, by omega⟩ ⟨by decide, by decide⟩ ⟨by omega, by omega⟩ (by omega) (by omega) (by omega) (by omega) (by show _ < 100000; omega)
        · have c9 := cv_nge (a := v2_1.toInt) (b := 375) rfl (by decide) c9
          have t33 : (v2_1 + (25 : Int32)).toInt = v2_1.toInt + 25 := i32_add rfl (by decide) (by omega) (by omega)
          refine wp_gd (zin_of (m := 450) rfl (by omega) (by omega)) ?_
          refine wp_gd (zin_of (m := 450) rfl (by omega) (by omega)) ?_
          refine wp_lt (fun o34 eo34 => ?_)
          have hIo34 : IvX9 o34 := by rw [eo34]; exact spX9_shift hI_me_1 ⟨by omega, by omega⟩
          have ko34_k35 : (gI o34 8).toInt = (gI o_me_1 8).toInt := by rw [eo34]; rfl
          have ko34_v : (gA o34 6 v2_1.toNatClampNeg).toInt = (gA o_me_1 6 (v2_1 + (25 : Int32)).toNatClampNeg).toInt := by rw [eo34]; exact congrArg Int32.toInt (upd_eq (g := gA o_me_1 6) (i := v2_1) (v := (gA o_me_1 6 (v2_1 + (25 : Int32)).toNatClampNeg)))
          have hkpo34 : Kp [1, 11, 13, 14, 15, 16, 18, 19, 20, 21, 23, 26, 29, 34, 38, 43, 56, 57, 58, 59, 62] [2, 3, 4, 5, 10, 12, 22, 24, 25, 27, 28, 42, 48, 50, 51, 55, 61] [(0, 1), (1, 2), (29, 36), (36, 64), (64, 71)] o_me o34 := hkp_me_1.trans (by rw [eo34]; exact Kp.tA (by decide) (by decide))
          refine wp_lt (fun x36 ex36 => ?_)
          have tx36 : x36.toInt = v2_1.toInt + 1 := by rw [ex36]; exact i32_add rfl (by decide) (by omega) (by omega)
          exact ih1 v1_1 x36 o34 hIo34 hkpo34 ⟨by omega, by omega⟩ ⟨by omega, by omega⟩ ⟨by omega, by omega⟩ (by omega) (by omega) (by omega)
    exact lp1 zfu p0 (0 : Int32) o_me hI_me Kp.rf ⟨by omega, by omega⟩ ⟨by decide, by decide⟩ ⟨by omega, by omega⟩ (by omega) (by omega) (by show _ < 100000; omega)
  · have c2 := cv_ne (a := (gI o_me 8).toInt) (b := 16) rfl (by decide) c2
    unfold bk_X9_remember_77
    refine wp_bd (s_X9_keepAll   o_me (gI o_me 8)  hI_me  ⟨by omega, by omega⟩) (fun z37 hz37 => ?_)
    obtain ⟨hz37_0, hz37_1⟩ := hz37
    have hkpz37_me : Kp [1, 11, 13, 14, 15, 16, 18, 19, 20, 21, 23, 26, 29, 34, 38, 43, 56, 57, 58, 59, 62] [2, 3, 4, 5, 10, 12, 22, 24, 25, 27, 28, 42, 48, 50, 51, 55, 61] [(0, 1), (1, 2), (29, 36), (36, 64), (64, 71)] o_me z37 := Kp.rf.trans (hz37_1.mono (by decide) (by decide) (by decide))
    have kz37_k38 : (gI z37 8).toInt = (gI o_me 8).toInt := congrArg Int32.toInt (hz37_1.1 8 (by decide))
    refine wp_gd (zin_of (m := 16) rfl (by omega) (by omega)) ?_
    refine wp_lt (fun o39 eo39 => ?_)
    have hIo39 : IvX9 o39 := by rw [eo39]; exact ibX9_7 hz37_0 (by omega) (Or.inr (Or.inr ⟨by omega, by omega⟩))
    have ko39_k40 : (gI o39 8).toInt = (gI z37 8).toInt := by rw [eo39]; rfl
    have ko39_v : (gA o39 7 (gI z37 8).toNatClampNeg).toInt = p0.toInt := by rw [eo39]; exact congrArg Int32.toInt (upd_eq (g := gA z37 7) (i := (gI z37 8)) (v := p0))
    have hkpo39 : Kp [1, 11, 13, 14, 15, 16, 18, 19, 20, 21, 23, 26, 29, 34, 38, 43, 56, 57, 58, 59, 62] [2, 3, 4, 5, 10, 12, 22, 24, 25, 27, 28, 42, 48, 50, 51, 55, 61] [(0, 1), (1, 2), (29, 36), (36, 64), (64, 71)] o_me o39 := hkpz37_me.trans (by rw [eo39]; exact Kp.tA (by decide) (by decide))
    have t41 : ((gI o39 8) + (1 : Int32)).toInt = (gI o39 8).toInt + 1 := i32_add rfl (by decide) (by omega) (by omega)
    refine wp_lt (fun o42 eo42 => ?_)
    have hIo42 : IvX9 o42 := by rw [eo42]; exact ipX9_8 hIo39 ⟨by omega, by omega⟩
    have ko42_k43 : (gA o42 7 (gI z37 8).toNatClampNeg).toInt = (gA o39 7 (gI z37 8).toNatClampNeg).toInt := by rw [eo42]; rfl
    have ko42_v : (gI o42 8).toInt = ((gI o39 8) + (1 : Int32)).toInt := by rw [eo42]; rfl
    have hkpo42 : Kp [1, 11, 13, 14, 15, 16, 18, 19, 20, 21, 23, 26, 29, 34, 38, 43, 56, 57, 58, 59, 62] [2, 3, 4, 5, 10, 12, 22, 24, 25, 27, 28, 42, 48, 50, 51, 55, 61] [(0, 1), (1, 2), (29, 36), (36, 64), (64, 71)] o_me o42 := hkpo39.trans (by rw [eo42]; exact Kp.sI (by decide))
    refine wp_some ?_
    exact (show IvX9 o42 ∧ Kp [1, 11, 13, 14, 15, 16, 18, 19, 20, 21, 23, 26, 29, 34, 38, 43, 56, 57, 58, 59, 62] [2, 3, 4, 5, 10, 12, 22, 24, 25, 27, 28, 42, 48, 50, 51, 55, 61] [(0, 1), (1, 2), (29, 36), (36, 64), (64, 71)] o_me o42 from ⟨hIo42, hkpo42⟩)

set_option maxHeartbeats 4000000 in
set_option maxRecDepth 100000 in
theorem s_X9_winsOf (o_me : Ob) (p0 : Int32) (p1 : Int32) (p2 : Int32) (hI_me : IvX9 o_me) (q0 : 0 ≤ p0.toInt ∧ p0.toInt ≤ 6) (q1 : 0 ≤ p1.toInt ∧ p1.toInt ≤ 9) (q2 : 0 ≤ (gI o_me 20).toInt ∧ (gI o_me 20).toInt ≤ 0) : wp (f_X9_winsOf   o_me p0 p1 p2) (fun (y : Int32 × Ob) => (0 ≤ y.1.toInt ∧ y.1.toInt ≤ 9) ∧ IvX9 y.2 ∧ Kp [1, 8, 11, 13, 14, 15, 16, 18, 19, 20, 21, 23, 26, 29, 43, 56, 57, 58, 59, 62] [2, 3, 4, 5, 7, 10, 12, 22, 24, 25, 27, 28, 42, 48, 50, 51, 55, 61] [(0, 1), (1, 2), (29, 36), (36, 64), (64, 71)] o_me y.2) := by
  have li0 : (0 : Int32).toInt = 0 := by decide
  have li1 : (2 : Int32).toInt = 2 := by decide
  have li2 : (4 : Int64).toInt = 4 := by decide
  have li3 : (9 : Int32).toInt = 9 := by decide
  unfold f_X9_winsOf
  have rg1 := i32_rg p2
  have t2 : p2.toInt64.toInt = p2.toInt := Int32.toInt_toInt64 _
  have t3 : ((4 : Int64) - p2.toInt64).toInt = 4 - p2.toInt64.toInt := i64_sub (by decide) rfl (by omega) (by omega)
  refine wp_bd (s_X9_tells   o_me (2 : Int32) p0 p1 p2 ((4 : Int64) - p2.toInt64)  hI_me  ⟨by omega, by omega⟩ ⟨by omega, by omega⟩ ⟨by omega, by omega⟩) (fun z4 hz4 => ?_)
  obtain ⟨hz4_0, hz4_1⟩ := hz4
  have hkpz4_me : Kp [1, 8, 11, 13, 14, 15, 16, 18, 19, 20, 21, 23, 26, 29, 43, 56, 57, 58, 59, 62] [2, 3, 4, 5, 7, 10, 12, 22, 24, 25, 27, 28, 42, 48, 50, 51, 55, 61] [(0, 1), (1, 2), (29, 36), (36, 64), (64, 71)] o_me z4.2 := Kp.rf.trans (hz4_1.mono (by decide) (by decide) (by decide))
  have kz4_k5 : (gI z4.2 20).toInt = (gI o_me 20).toInt := congrArg Int32.toInt (hz4_1.1 20 (by decide))
  refine wp_bd (s_X9_within   z4.1 (0 : Int32) (9 : Int32)    (by omega)) (fun z6 hz6 => ?_)
  obtain ⟨hz6_0, hz6_1⟩ := hz6
  refine wp_some ?_
  exact (show (0 ≤ z6.toInt ∧ z6.toInt ≤ 9) ∧ IvX9 z4.2 ∧ Kp [1, 8, 11, 13, 14, 15, 16, 18, 19, 20, 21, 23, 26, 29, 43, 56, 57, 58, 59, 62] [2, 3, 4, 5, 7, 10, 12, 22, 24, 25, 27, 28, 42, 48, 50, 51, 55, 61] [(0, 1), (1, 2), (29, 36), (36, 64), (64, 71)] o_me z4.2 from ⟨⟨by omega, by omega⟩, hz4_0, hkpz4_me⟩)

set_option maxHeartbeats 4000000 in
set_option maxRecDepth 100000 in
theorem s_X9_turnsOf (o_me : Ob) (p0 : Int32) (p1 : Int32) (hI_me : IvX9 o_me) (q0 : 0 ≤ p0.toInt ∧ p0.toInt ≤ 6) (q1 : 0 ≤ p1.toInt ∧ p1.toInt ≤ 9) (q2 : 0 ≤ (gI o_me 20).toInt ∧ (gI o_me 20).toInt ≤ 0) : wp (f_X9_turnsOf   o_me p0 p1) (fun (y : Int32 × Ob) => (0 ≤ y.1.toInt ∧ y.1.toInt ≤ 9) ∧ IvX9 y.2 ∧ Kp [1, 8, 11, 13, 14, 15, 16, 18, 19, 20, 21, 23, 26, 29, 43, 56, 57, 58, 59, 62] [2, 3, 4, 5, 7, 10, 12, 22, 24, 25, 27, 28, 42, 48, 50, 51, 55, 61] [(0, 1), (1, 2), (29, 36), (36, 64), (64, 71)] o_me y.2) := by
  have li0 : (0 : Int32).toInt = 0 := by decide
  have li1 : (1 : Int32).toInt = 1 := by decide
  have li2 : (10 : Int32).toInt = 10 := by decide
  have li3 : (2 : Int32).toInt = 2 := by decide
  have li4 : (8 : Int32).toInt = 8 := by decide
  have li5 : (9 : Int32).toInt = 9 := by decide
  unfold f_X9_turnsOf
  have t1 : ((8 : Int32) + p0).toInt = 8 + p0.toInt := i32_add (by decide) rfl (by omega) (by omega)
  refine wp_gd (zin_of (m := 5484) rfl (by omega) (by omega)) ?_
  have t2 := iaX9_3_5 hI_me (j := (8 : Int32) + p0) (by omega) (by omega)
  have t3 : ((gA o_me 3 ((8 : Int32) + p0).toNatClampNeg) + (1 : Int32)).toInt = (gA o_me 3 ((8 : Int32) + p0).toNatClampNeg).toInt + 1 := i32_add rfl (by decide) (by omega) (by omega)
  have t4 : 0 ≤ (((gA o_me 3 ((8 : Int32) + p0).toNatClampNeg) + (1 : Int32)) - ((gA o_me 3 ((8 : Int32) + p0).toNatClampNeg) + (1 : Int32)) / (10 : Int32) * (10 : Int32)).toInt ∧ (((gA o_me 3 ((8 : Int32) + p0).toNatClampNeg) + (1 : Int32)) - ((gA o_me 3 ((8 : Int32) + p0).toNatClampNeg) + (1 : Int32)) / (10 : Int32) * (10 : Int32)).toInt ≤ 9 := i32_rem (y := (10 : Int32)) (m := 10) (by decide) (by decide) (by omega)
  have t5 : ((((gA o_me 3 ((8 : Int32) + p0).toNatClampNeg) + (1 : Int32)) - ((gA o_me 3 ((8 : Int32) + p0).toNatClampNeg) + (1 : Int32)) / (10 : Int32) * (10 : Int32)).toInt64).toInt = (((gA o_me 3 ((8 : Int32) + p0).toNatClampNeg) + (1 : Int32)) - ((gA o_me 3 ((8 : Int32) + p0).toNatClampNeg) + (1 : Int32)) / (10 : Int32) * (10 : Int32)).toInt := Int32.toInt_toInt64 _
  refine wp_bd (s_X9_tells   o_me (1 : Int32) p0 p1 (2 : Int32) ((((gA o_me 3 ((8 : Int32) + p0).toNatClampNeg) + (1 : Int32)) - ((gA o_me 3 ((8 : Int32) + p0).toNatClampNeg) + (1 : Int32)) / (10 : Int32) * (10 : Int32)).toInt64)  hI_me  ⟨by omega, by omega⟩ ⟨by omega, by omega⟩ ⟨by omega, by omega⟩) (fun z6 hz6 => ?_)
  obtain ⟨hz6_0, hz6_1⟩ := hz6
  have hkpz6_me : Kp [1, 8, 11, 13, 14, 15, 16, 18, 19, 20, 21, 23, 26, 29, 43, 56, 57, 58, 59, 62] [2, 3, 4, 5, 7, 10, 12, 22, 24, 25, 27, 28, 42, 48, 50, 51, 55, 61] [(0, 1), (1, 2), (29, 36), (36, 64), (64, 71)] o_me z6.2 := Kp.rf.trans (hz6_1.mono (by decide) (by decide) (by decide))
  have kz6_k7 : (gA z6.2 3 ((8 : Int32) + p0).toNatClampNeg).toInt = (gA o_me 3 ((8 : Int32) + p0).toNatClampNeg).toInt := congrArg (fun g => (g ((8 : Int32) + p0).toNatClampNeg).toInt) (hz6_1.2.1 3 (by decide))
  have kz6_k8 : (gI z6.2 20).toInt = (gI o_me 20).toInt := congrArg Int32.toInt (hz6_1.1 20 (by decide))
  refine wp_bd (s_X9_within   z6.1 (0 : Int32) (9 : Int32)    (by omega)) (fun z9 hz9 => ?_)
  obtain ⟨hz9_0, hz9_1⟩ := hz9
  refine wp_some ?_
  exact (show (0 ≤ z9.toInt ∧ z9.toInt ≤ 9) ∧ IvX9 z6.2 ∧ Kp [1, 8, 11, 13, 14, 15, 16, 18, 19, 20, 21, 23, 26, 29, 43, 56, 57, 58, 59, 62] [2, 3, 4, 5, 7, 10, 12, 22, 24, 25, 27, 28, 42, 48, 50, 51, 55, 61] [(0, 1), (1, 2), (29, 36), (36, 64), (64, 71)] o_me z6.2 from ⟨⟨by omega, by omega⟩, hz6_0, hkpz6_me⟩)

set_option maxHeartbeats 4000000 in
set_option maxRecDepth 100000 in
theorem s_X9_raceIt (o_me : Ob) (p0 : Int32) (hI_me : IvX9 o_me) (q0 : 0 ≤ p0.toInt ∧ p0.toInt ≤ 3) (q1 : 0 ≤ (gI o_me 20).toInt ∧ (gI o_me 20).toInt ≤ 0) : wp (f_X9_raceIt   o_me p0) (fun (y : Int32 × Ob) => (0 ≤ y.1.toInt ∧ y.1.toInt ≤ 6) ∧ IvX9 y.2 ∧ Kp [1, 8, 11, 13, 14, 15, 16, 18, 19, 20, 21, 23, 26, 29, 43, 56, 57, 58, 59, 62] [2, 4, 5, 7, 10, 12, 22, 24, 25, 27, 28, 42, 48, 50, 51, 55, 61] [(0, 1), (1, 2), (29, 36), (36, 64), (64, 71)] o_me y.2) := by
  have li0 : (0 : Int32).toInt = 0 := by decide
  have li1 : (1 : Int32).toInt = 1 := by decide
  have li2 : (15 : Int32).toInt = 15 := by decide
  have li3 : (2 : Int32).toInt = 2 := by decide
  have li4 : (22 : Int32).toInt = 22 := by decide
  have li5 : (3 : Int32).toInt = 3 := by decide
  have li6 : (7 : Int32).toInt = 7 := by decide
  have li7 : (8 : Int32).toInt = 8 := by decide
  have li8 : (999 : Int32).toInt = 999 := by decide
  unfold f_X9_raceIt
  have t1 := iaX9_42_0 hI_me (j := (0 : Int32)) (by decide) (by decide)
  refine wp_lt (fun x2 ex2 => ?_)
  have tx2 : x2.toInt = (gA o_me 42 (0 : Int32).toNatClampNeg).toInt := by rw [ex2]
  refine wp_bd (s_X9_winsOf   o_me x2 p0 (1 : Int32)  hI_me  ⟨by omega, by omega⟩ ⟨by omega, by omega⟩ ⟨by omega, by omega⟩) (fun z3 hz3 => ?_)
  obtain ⟨hz3_0, hz3_1, hz3_2⟩ := hz3
  have hkpz3_me : Kp [1, 8, 11, 13, 14, 15, 16, 18, 19, 20, 21, 23, 26, 29, 43, 56, 57, 58, 59, 62] [2, 4, 5, 7, 10, 12, 22, 24, 25, 27, 28, 42, 48, 50, 51, 55, 61] [(0, 1), (1, 2), (29, 36), (36, 64), (64, 71)] o_me z3.2 := Kp.rf.trans (hz3_2.mono (by decide) (by decide) (by decide))
  have kz3_k4 : (gA z3.2 42 (0 : Int32).toNatClampNeg).toInt = (gA o_me 42 (0 : Int32).toNatClampNeg).toInt := congrArg (fun g => (g (0 : Int32).toNatClampNeg).toInt) (hz3_2.2.1 42 (by decide))
  have kz3_k5 : (gI z3.2 20).toInt = (gI o_me 20).toInt := congrArg Int32.toInt (hz3_2.1 20 (by decide))
  have t6 := igX9_43 hz3_1
  refine wp_if (fun c7 => ?_) (fun c7 => ?_)
  · have c7 := cv_le (a := (gI z3.2 43).toInt) (b := 1) rfl (by decide) c7
    obtain ⟨w8, ew8⟩ : ∃ z : Int32, z = (0 : Int32) := ⟨_, rfl⟩
    have tw8 : w8.toInt = 0 := by rw [ew8]; decide
    rw [show bk_X9_raceIt_39   p0 x2 z3.1 (0 : Int32) z3.2 = bk_X9_raceIt_39   p0 x2 z3.1 w8 z3.2 from by rw [ew8]]
    unfold bk_X9_raceIt_39
    refine wp_if (fun c9 => ?_) (fun c9 => ?_)
    · have c9 := cv_le (a := (gI z3.2 43).toInt) (b := 1) rfl (by decide) c9
      obtain ⟨w10, ew10⟩ : ∃ z : Int32, z = (0 : Int32) := ⟨_, rfl⟩
      have tw10 : w10.toInt = 0 := by rw [ew10]; decide
      rw [show bk_X9_raceIt_64   p0 x2 z3.1 w8 (0 : Int32) z3.2 = bk_X9_raceIt_64   p0 x2 z3.1 w8 w10 z3.2 from by rw [ew10]]
      unfold bk_X9_raceIt_64
      refine wp_if (fun c11 => ?_) (fun c11 => ?_)
      · have c11 := cv_le (a := (gI z3.2 43).toInt) (b := 2) rfl (by decide) c11
        obtain ⟨w12, ew12⟩ : ∃ z : Int32, z = (0 : Int32) := ⟨_, rfl⟩
        have tw12 : w12.toInt = 0 := by rw [ew12]; decide
        rw [show bk_X9_raceIt_90   x2 z3.1 w8 w10 (0 : Int32) z3.2 = bk_X9_raceIt_90   x2 z3.1 w8 w10 w12 z3.2 from by rw [ew12]]
        unfold bk_X9_raceIt_90
        have t13 : ((15 : Int32) + x2).toInt = 15 + x2.toInt := i32_add (by decide) rfl (by omega) (by omega)
        refine wp_gd (zin_of (m := 5484) rfl (by omega) (by omega)) ?_
        have rg14 := i32_rg ((gA z3.2 3 ((15 : Int32) + x2).toNatClampNeg) + z3.1)
        have t15 : (((gA z3.2 3 ((15 : Int32) + x2).toNatClampNeg) + z3.1).toInt64).toInt = ((gA z3.2 3 ((15 : Int32) + x2).toNatClampNeg) + z3.1).toInt := Int32.toInt_toInt64 _
        refine wp_bd (s_X9_within   (((gA z3.2 3 ((15 : Int32) + x2).toNatClampNeg) + z3.1).toInt64) (0 : Int32) (999 : Int32)    (by omega)) (fun z16 hz16 => ?_)
        obtain ⟨hz16_0, hz16_1⟩ := hz16
        refine wp_gd (zin_of (m := 5484) rfl (by omega) (by omega)) ?_
        refine wp_lt (fun o17 eo17 => ?_)
        have hIo17 : IvX9 o17 := by rw [eo17]; exact ibX9_3 hz3_1 (by omega) (by omega) (Or.inr (Or.inl (by first | omega | decide))) (Or.inr (Or.inl (by first | omega | decide))) (Or.inr (Or.inl (by first | omega | decide))) (Or.inr (Or.inl (by first | omega | decide))) (Or.inr (Or.inl (by first | omega | decide))) (Or.inr (Or.inl (by first | omega | decide))) (Or.inl (by first | omega | decide)) (Or.inl (by first | omega | decide)) (Or.inl (by first | omega | decide))
        have ko17_k18 : (gA o17 42 (0 : Int32).toNatClampNeg).toInt = (gA z3.2 42 (0 : Int32).toNatClampNeg).toInt := by rw [eo17]; rfl
        have ko17_k19 : (gI o17 20).toInt = (gI z3.2 20).toInt := by rw [eo17]; rfl
        have ko17_k20 : (gI o17 43).toInt = (gI z3.2 43).toInt := by rw [eo17]; rfl
        have ko17_v : (gA o17 3 ((15 : Int32) + x2).toNatClampNeg).toInt = z16.toInt := by rw [eo17]; exact congrArg Int32.toInt (upd_eq (g := gA z3.2 3) (i := ((15 : Int32) + x2)) (v := z16))
        have hkpo17 : Kp [1, 8, 11, 13, 14, 15, 16, 18, 19, 20, 21, 23, 26, 29, 43, 56, 57, 58, 59, 62] [2, 4, 5, 7, 10, 12, 22, 24, 25, 27, 28, 42, 48, 50, 51, 55, 61] [(0, 1), (1, 2), (29, 36), (36, 64), (64, 71)] o_me o17 := hkpz3_me.trans (by rw [eo17]; exact kp_bw (a := 2) (b := 29) (by decide) (by decide) (by omega) (by omega))
        have t21 := iaX9_3_4 hIo17 (j := (7 : Int32)) (by decide) (by decide)
        have t22 : ((gA o17 3 (7 : Int32).toNatClampNeg) + w8).toInt = (gA o17 3 (7 : Int32).toNatClampNeg).toInt + w8.toInt := i32_add rfl rfl (by omega) (by omega)
        have t23 : (((gA o17 3 (7 : Int32).toNatClampNeg) + w8).toInt64).toInt = ((gA o17 3 (7 : Int32).toNatClampNeg) + w8).toInt := Int32.toInt_toInt64 _
        refine wp_bd (s_X9_within   (((gA o17 3 (7 : Int32).toNatClampNeg) + w8).toInt64) (0 : Int32) (999 : Int32)    (by omega)) (fun z24 hz24 => ?_)
        obtain ⟨hz24_0, hz24_1⟩ := hz24
        refine wp_lt (fun o25 eo25 => ?_)
        have hIo25 : IvX9 o25 := by rw [eo25]; exact ibX9_3 hIo17 (by decide) (by decide) (Or.inr (Or.inl (by first | omega | decide))) (Or.inr (Or.inl (by first | omega | decide))) (Or.inr (Or.inl (by first | omega | decide))) (Or.inr (Or.inl (by first | omega | decide))) (Or.inr (Or.inr ⟨by omega, by omega⟩)) (Or.inl (by first | omega | decide)) (Or.inl (by first | omega | decide)) (Or.inl (by first | omega | decide)) (Or.inl (by first | omega | decide))
        have ko25_k26 : (gA o25 3 ((15 : Int32) + x2).toNatClampNeg).toInt = (gA o17 3 ((15 : Int32) + x2).toNatClampNeg).toInt := by rw [eo25]; exact congrArg Int32.toInt (upd_ne (g := gA o17 3) (i := (7 : Int32)) (j := ((15 : Int32) + x2)) (v := z24) (by decide) (by omega) (by omega))
        have ko25_k27 : (gA o25 42 (0 : Int32).toNatClampNeg).toInt = (gA o17 42 (0 : Int32).toNatClampNeg).toInt := by rw [eo25]; rfl
        have ko25_k28 : (gI o25 20).toInt = (gI o17 20).toInt := by rw [eo25]; rfl
        have ko25_k29 : (gI o25 43).toInt = (gI o17 43).toInt := by rw [eo25]; rfl
        have ko25_v : (gA o25 3 (7 : Int32).toNatClampNeg).toInt = z24.toInt := by rw [eo25]; exact congrArg Int32.toInt (upd_eq (g := gA o17 3) (i := (7 : Int32)) (v := z24))
        have hkpo25 : Kp [1, 8, 11, 13, 14, 15, 16, 18, 19, 20, 21, 23, 26, 29, 43, 56, 57, 58, 59, 62] [2, 4, 5, 7, 10, 12, 22, 24, 25, 27, 28, 42, 48, 50, 51, 55, 61] [(0, 1), (1, 2), (29, 36), (36, 64), (64, 71)] o_me o25 := hkpo17.trans (by rw [eo25]; exact kp_bw (a := 7) (b := 8) (by decide) (by decide) (by decide) (by decide))
        refine wp_if (fun c30 => ?_) (fun c30 => ?_)
        · have c30 := cv_le (a := (gI o25 43).toInt) (b := 1) rfl (by decide) c30
          unfold bk_X9_raceIt_169
          refine wp_if (fun c31 => ?_) (fun c31 => ?_)
          · have c31 := cv_le (a := (gI o25 43).toInt) (b := 2) rfl (by decide) c31
            unfold bk_X9_raceIt_216
            have lp1 : ∀ (N1 : Nat) (v2_1 : Int32) (v7_1 : Int32) (o_me_1 : Ob), IvX9 o_me_1 → Kp [1, 8, 11, 13, 14, 15, 16, 18, 19, 20, 21, 23, 26, 29, 43, 56, 57, 58, 59, 62] [2, 4, 5, 7, 10, 12, 22, 24, 25, 27, 28, 42, 48, 50, 51, 55, 61] [(0, 1), (1, 2), (29, 36), (36, 64), (64, 71)] o_me o_me_1 → (0 ≤ v2_1.toInt ∧ v2_1.toInt ≤ 6) → (0 ≤ v7_1.toInt ∧ v7_1.toInt ≤ 1) → (0 ≤ (gI o_me_1 20).toInt ∧ (gI o_me_1 20).toInt ≤ 0) → (0 ≤ (gI o_me_1 43).toInt ∧ (gI o_me_1 43).toInt ≤ 1) → (v7_1.toInt ≤ (gI o_me_1 43).toInt + 0) → (v2_1.toInt ≤ x2.toInt + 0) → (x2.toInt ≤ v2_1.toInt + 0) → (1 - v7_1.toInt).toNat < N1 → wp (lp_X9_raceIt_219   N1 (v2_1, v7_1, o_me_1)) (fun (y : Int32 × Ob) => (0 ≤ y.1.toInt ∧ y.1.toInt ≤ 6) ∧ IvX9 y.2 ∧ Kp [1, 8, 11, 13, 14, 15, 16, 18, 19, 20, 21, 23, 26, 29, 43, 56, 57, 58, 59, 62] [2, 4, 5, 7, 10, 12, 22, 24, 25, 27, 28, 42, 48, 50, 51, 55, 61] [(0, 1), (1, 2), (29, 36), (36, 64), (64, 71)] o_me y.2) := by
              intro N1
              induction N1 with
              | zero =>
                intro v2_1 v7_1 o_me_1 hI_me_1 hkp_me_1 hh34 hh35 hh36 hh37 hh38 hh39 hh40 hN1
                exact absurd hN1 (Nat.not_lt_zero _)
              | succ N1 ihx =>
                have ih1 := ihx
                intro v2_1 v7_1 o_me_1 hI_me_1 hkp_me_1 hh34 hh35 hh36 hh37 hh38 hh39 hh40 hN1
                show wp (lb_X9_raceIt_219   (lp_X9_raceIt_219   N1) v2_1 v7_1 o_me_1) (fun (y : Int32 × Ob) => (0 ≤ y.1.toInt ∧ y.1.toInt ≤ 6) ∧ IvX9 y.2 ∧ Kp [1, 8, 11, 13, 14, 15, 16, 18, 19, 20, 21, 23, 26, 29, 43, 56, 57, 58, 59, 62] [2, 4, 5, 7, 10, 12, 22, 24, 25, 27, 28, 42, 48, 50, 51, 55, 61] [(0, 1), (1, 2), (29, 36), (36, 64), (64, 71)] o_me y.2)
                unfold lb_X9_raceIt_219
                refine wp_if (fun c41 => ?_) (fun c41 => ?_)
                · have c41 := cv_ge (a := v7_1.toInt) (b := (gI o_me_1 43).toInt) rfl rfl c41
                  refine wp_some ?_
                  exact (show (0 ≤ v2_1.toInt ∧ v2_1.toInt ≤ 6) ∧ IvX9 o_me_1 ∧ Kp [1, 8, 11, 13, 14, 15, 16, 18, 19, 20, 21, 23, 26, 29, 43, 56, 57, 58, 59, 62] [2, 4, 5, 7, 10, 12, 22, 24, 25, 27, 28, 42, 48, 50, 51, 55, 61] [(0, 1), (1, 2), (29, 36), (36, 64), (64, 71)] o_me o_me_1 from ⟨⟨by omega, by omega⟩, hI_me_1, hkp_me_1⟩)
                · have c41 := cv_nge (a := v7_1.toInt) (b := (gI o_me_1 43).toInt) rfl rfl c41
                  refine wp_gd (zin_of (m := 7) rfl (by omega) (by omega)) ?_
                  have t42 := iaX9_42_0 hI_me_1 (j := v7_1) (by omega) (by omega)
                  have t43 : ((22 : Int32) + (gA o_me_1 42 v7_1.toNatClampNeg)).toInt = 22 + (gA o_me_1 42 v7_1.toNatClampNeg).toInt := i32_add (by decide) rfl (by omega) (by omega)
                  refine wp_gd (zin_of (m := 5484) rfl (by omega) (by omega)) ?_
                  refine wp_lt (fun o44 eo44 => ?_)
                  have hIo44 : IvX9 o44 := by rw [eo44]; exact ibX9_3 hI_me_1 (by omega) (by omega) (Or.inr (Or.inl (by first | omega | decide))) (Or.inr (Or.inl (by first | omega | decide))) (Or.inr (Or.inl (by first | omega | decide))) (Or.inr (Or.inl (by first | omega | decide))) (Or.inr (Or.inl (by first | omega | decide))) (Or.inr (Or.inl (by first | omega | decide))) (Or.inr (Or.inr ⟨by decide, by decide⟩)) (Or.inl (by first | omega | decide)) (Or.inl (by first | omega | decide))
                  have ko44_k45 : (gA o44 42 v7_1.toNatClampNeg).toInt = (gA o_me_1 42 v7_1.toNatClampNeg).toInt := by rw [eo44]; rfl
                  have ko44_k46 : (gI o44 20).toInt = (gI o_me_1 20).toInt := by rw [eo44]; rfl
                  have ko44_k47 : (gI o44 43).toInt = (gI o_me_1 43).toInt := by rw [eo44]; rfl
                  have ko44_v : (gA o44 3 ((22 : Int32) + (gA o_me_1 42 v7_1.toNatClampNeg)).toNatClampNeg).toInt = 0 := by rw [eo44]; exact (congrArg Int32.toInt (upd_eq (g := gA o_me_1 3) (i := ((22 : Int32) + (gA o_me_1 42 v7_1.toNatClampNeg))) (v := (0 : Int32)))).trans (show ((0 : Int32)).toInt = 0 by decide)
                  have hkpo44 : Kp [1, 8, 11, 13, 14, 15, 16, 18, 19, 20, 21, 23, 26, 29, 43, 56, 57, 58, 59, 62] [2, 4, 5, 7, 10, 12, 22, 24, 25, 27, 28, 42, 48, 50, 51, 55, 61] [(0, 1), (1, 2), (29, 36), (36, 64), (64, 71)] o_me o44 := hkp_me_1.trans (by rw [eo44]; exact kp_bw (a := 2) (b := 29) (by decide) (by decide) (by omega) (by omega))
                  refine wp_lt (fun x48 ex48 => ?_)
                  have tx48 : x48.toInt = v7_1.toInt + 1 := by rw [ex48]; exact i32_add rfl (by decide) (by omega) (by omega)
                  exact ih1 v2_1 x48 o44 hIo44 hkpo44 ⟨by omega, by omega⟩ ⟨by omega, by omega⟩ ⟨by omega, by omega⟩ ⟨by omega, by omega⟩ (by omega) (by omega) (by omega) (by omega)
            exact lp1 zfu x2 (0 : Int32) o25 hIo25 hkpo25 ⟨by omega, by omega⟩ ⟨by decide, by decide⟩ ⟨by omega, by omega⟩ ⟨by omega, by omega⟩ (by omega) (by omega) (by omega) (by show _ < 100000; omega)
          · have c31 := cv_nle (a := (gI o25 43).toInt) (b := 2) rfl (by decide) c31
            exfalso; omega
        · have c30 := cv_nle (a := (gI o25 43).toInt) (b := 1) rfl (by decide) c30
          exfalso; omega
      · have c11 := cv_nle (a := (gI z3.2 43).toInt) (b := 2) rfl (by decide) c11
        exfalso; omega
    · have c9 := cv_nle (a := (gI z3.2 43).toInt) (b := 1) rfl (by decide) c9
      exfalso; omega
  · have c7 := cv_nle (a := (gI z3.2 43).toInt) (b := 1) rfl (by decide) c7
    have t49 := iaX9_42_0 hz3_1 (j := (1 : Int32)) (by decide) (by decide)
    refine wp_bd (s_X9_winsOf   z3.2 (gA z3.2 42 (1 : Int32).toNatClampNeg) p0 (2 : Int32)  hz3_1  ⟨by omega, by omega⟩ ⟨by omega, by omega⟩ ⟨by omega, by omega⟩) (fun z50 hz50 => ?_)
    obtain ⟨hz50_0, hz50_1, hz50_2⟩ := hz50
    have hkpz50_me : Kp [1, 8, 11, 13, 14, 15, 16, 18, 19, 20, 21, 23, 26, 29, 43, 56, 57, 58, 59, 62] [2, 4, 5, 7, 10, 12, 22, 24, 25, 27, 28, 42, 48, 50, 51, 55, 61] [(0, 1), (1, 2), (29, 36), (36, 64), (64, 71)] o_me z50.2 := hkpz3_me.trans (hz50_2.mono (by decide) (by decide) (by decide))
    have kz50_k51 : (gA z50.2 42 (0 : Int32).toNatClampNeg).toInt = (gA z3.2 42 (0 : Int32).toNatClampNeg).toInt := congrArg (fun g => (g (0 : Int32).toNatClampNeg).toInt) (hz50_2.2.1 42 (by decide))
    have kz50_k52 : (gA z50.2 42 (1 : Int32).toNatClampNeg).toInt = (gA z3.2 42 (1 : Int32).toNatClampNeg).toInt := congrArg (fun g => (g (1 : Int32).toNatClampNeg).toInt) (hz50_2.2.1 42 (by decide))
    have kz50_k53 : (gI z50.2 20).toInt = (gI z3.2 20).toInt := congrArg Int32.toInt (hz50_2.1 20 (by decide))
    have kz50_k54 : (gI z50.2 43).toInt = (gI z3.2 43).toInt := congrArg Int32.toInt (hz50_2.1 43 (by decide))
    unfold bk_X9_raceIt_39
    refine wp_if (fun c55 => ?_) (fun c55 => ?_)
    · have c55 := cv_le (a := (gI z50.2 43).toInt) (b := 1) rfl (by decide) c55
      exfalso; omega
    · have c55 := cv_nle (a := (gI z50.2 43).toInt) (b := 1) rfl (by decide) c55
      refine wp_bd (s_X9_turnsOf   z50.2 (gA z50.2 42 (1 : Int32).toNatClampNeg) p0  hz50_1  ⟨by omega, by omega⟩ ⟨by omega, by omega⟩ ⟨by omega, by omega⟩) (fun z56 hz56 => ?_)
      obtain ⟨hz56_0, hz56_1, hz56_2⟩ := hz56
      have hkpz56_me : Kp [1, 8, 11, 13, 14, 15, 16, 18, 19, 20, 21, 23, 26, 29, 43, 56, 57, 58, 59, 62] [2, 4, 5, 7, 10, 12, 22, 24, 25, 27, 28, 42, 48, 50, 51, 55, 61] [(0, 1), (1, 2), (29, 36), (36, 64), (64, 71)] o_me z56.2 := hkpz50_me.trans (hz56_2.mono (by decide) (by decide) (by decide))
      have kz56_k57 : (gA z56.2 42 (0 : Int32).toNatClampNeg).toInt = (gA z50.2 42 (0 : Int32).toNatClampNeg).toInt := congrArg (fun g => (g (0 : Int32).toNatClampNeg).toInt) (hz56_2.2.1 42 (by decide))
      have kz56_k58 : (gA z56.2 42 (1 : Int32).toNatClampNeg).toInt = (gA z50.2 42 (1 : Int32).toNatClampNeg).toInt := congrArg (fun g => (g (1 : Int32).toNatClampNeg).toInt) (hz56_2.2.1 42 (by decide))
      have kz56_k59 : (gI z56.2 20).toInt = (gI z50.2 20).toInt := congrArg Int32.toInt (hz56_2.1 20 (by decide))
      have kz56_k60 : (gI z56.2 43).toInt = (gI z50.2 43).toInt := congrArg Int32.toInt (hz56_2.1 43 (by decide))
      unfold bk_X9_raceIt_64
      refine wp_if (fun c61 => ?_) (fun c61 => ?_)
      · have c61 := cv_le (a := (gI z56.2 43).toInt) (b := 2) rfl (by decide) c61
        obtain ⟨w62, ew62⟩ : ∃ z : Int32, z = (0 : Int32) := ⟨_, rfl⟩
        have tw62 : w62.toInt = 0 := by rw [ew62]; decide
        rw [show bk_X9_raceIt_90   x2 z3.1 z50.1 z56.1 (0 : Int32) z56.2 = bk_X9_raceIt_90   x2 z3.1 z50.1 z56.1 w62 z56.2 from by rw [ew62]]
        unfold bk_X9_raceIt_90
        have t63 : ((15 : Int32) + x2).toInt = 15 + x2.toInt := i32_add (by decide) rfl (by omega) (by omega)
        refine wp_gd (zin_of (m := 5484) rfl (by omega) (by omega)) ?_
        have rg64 := i32_rg ((gA z56.2 3 ((15 : Int32) + x2).toNatClampNeg) + z3.1)
        have t65 : (((gA z56.2 3 ((15 : Int32) + x2).toNatClampNeg) + z3.1).toInt64).toInt = ((gA z56.2 3 ((15 : Int32) + x2).toNatClampNeg) + z3.1).toInt := Int32.toInt_toInt64 _
        refine wp_bd (s_X9_within   (((gA z56.2 3 ((15 : Int32) + x2).toNatClampNeg) + z3.1).toInt64) (0 : Int32) (999 : Int32)    (by omega)) (fun z66 hz66 => ?_)
        obtain ⟨hz66_0, hz66_1⟩ := hz66
        refine wp_gd (zin_of (m := 5484) rfl (by omega) (by omega)) ?_
        refine wp_lt (fun o67 eo67 => ?_)
        have hIo67 : IvX9 o67 := by rw [eo67]; exact ibX9_3 hz56_1 (by omega) (by omega) (Or.inr (Or.inl (by first | omega | decide))) (Or.inr (Or.inl (by first | omega | decide))) (Or.inr (Or.inl (by first | omega | decide))) (Or.inr (Or.inl (by first | omega | decide))) (Or.inr (Or.inl (by first | omega | decide))) (Or.inr (Or.inl (by first | omega | decide))) (Or.inl (by first | omega | decide)) (Or.inl (by first | omega | decide)) (Or.inl (by first | omega | decide))
        have ko67_k68 : (gA o67 42 (0 : Int32).toNatClampNeg).toInt = (gA z56.2 42 (0 : Int32).toNatClampNeg).toInt := by rw [eo67]; rfl
        have ko67_k69 : (gA o67 42 (1 : Int32).toNatClampNeg).toInt = (gA z56.2 42 (1 : Int32).toNatClampNeg).toInt := by rw [eo67]; rfl
        have ko67_k70 : (gI o67 20).toInt = (gI z56.2 20).toInt := by rw [eo67]; rfl
        have ko67_k71 : (gI o67 43).toInt = (gI z56.2 43).toInt := by rw [eo67]; rfl
        have ko67_v : (gA o67 3 ((15 : Int32) + x2).toNatClampNeg).toInt = z66.toInt := by rw [eo67]; exact congrArg Int32.toInt (upd_eq (g := gA z56.2 3) (i := ((15 : Int32) + x2)) (v := z66))
        have hkpo67 : Kp [1, 8, 11, 13, 14, 15, 16, 18, 19, 20, 21, 23, 26, 29, 43, 56, 57, 58, 59, 62] [2, 4, 5, 7, 10, 12, 22, 24, 25, 27, 28, 42, 48, 50, 51, 55, 61] [(0, 1), (1, 2), (29, 36), (36, 64), (64, 71)] o_me o67 := hkpz56_me.trans (by rw [eo67]; exact kp_bw (a := 2) (b := 29) (by decide) (by decide) (by omega) (by omega))
        have t72 := iaX9_3_4 hIo67 (j := (7 : Int32)) (by decide) (by decide)
        have t73 : ((gA o67 3 (7 : Int32).toNatClampNeg) + z50.1).toInt = (gA o67 3 (7 : Int32).toNatClampNeg).toInt + z50.1.toInt := i32_add rfl rfl (by omega) (by omega)
        have t74 : (((gA o67 3 (7 : Int32).toNatClampNeg) + z50.1).toInt64).toInt = ((gA o67 3 (7 : Int32).toNatClampNeg) + z50.1).toInt := Int32.toInt_toInt64 _
        refine wp_bd (s_X9_within   (((gA o67 3 (7 : Int32).toNatClampNeg) + z50.1).toInt64) (0 : Int32) (999 : Int32)    (by omega)) (fun z75 hz75 => ?_)
        obtain ⟨hz75_0, hz75_1⟩ := hz75
        refine wp_lt (fun o76 eo76 => ?_)
        have hIo76 : IvX9 o76 := by rw [eo76]; exact ibX9_3 hIo67 (by decide) (by decide) (Or.inr (Or.inl (by first | omega | decide))) (Or.inr (Or.inl (by first | omega | decide))) (Or.inr (Or.inl (by first | omega | decide))) (Or.inr (Or.inl (by first | omega | decide))) (Or.inr (Or.inr ⟨by omega, by omega⟩)) (Or.inl (by first | omega | decide)) (Or.inl (by first | omega | decide)) (Or.inl (by first | omega | decide)) (Or.inl (by first | omega | decide))
        have ko76_k77 : (gA o76 3 ((15 : Int32) + x2).toNatClampNeg).toInt = (gA o67 3 ((15 : Int32) + x2).toNatClampNeg).toInt := by rw [eo76]; exact congrArg Int32.toInt (upd_ne (g := gA o67 3) (i := (7 : Int32)) (j := ((15 : Int32) + x2)) (v := z75) (by decide) (by omega) (by omega))
        have ko76_k78 : (gA o76 42 (0 : Int32).toNatClampNeg).toInt = (gA o67 42 (0 : Int32).toNatClampNeg).toInt := by rw [eo76]; rfl
        have ko76_k79 : (gA o76 42 (1 : Int32).toNatClampNeg).toInt = (gA o67 42 (1 : Int32).toNatClampNeg).toInt := by rw [eo76]; rfl
        have ko76_k80 : (gI o76 20).toInt = (gI o67 20).toInt := by rw [eo76]; rfl
        have ko76_k81 : (gI o76 43).toInt = (gI o67 43).toInt := by rw [eo76]; rfl
        have ko76_v : (gA o76 3 (7 : Int32).toNatClampNeg).toInt = z75.toInt := by rw [eo76]; exact congrArg Int32.toInt (upd_eq (g := gA o67 3) (i := (7 : Int32)) (v := z75))
        have hkpo76 : Kp [1, 8, 11, 13, 14, 15, 16, 18, 19, 20, 21, 23, 26, 29, 43, 56, 57, 58, 59, 62] [2, 4, 5, 7, 10, 12, 22, 24, 25, 27, 28, 42, 48, 50, 51, 55, 61] [(0, 1), (1, 2), (29, 36), (36, 64), (64, 71)] o_me o76 := hkpo67.trans (by rw [eo76]; exact kp_bw (a := 7) (b := 8) (by decide) (by decide) (by decide) (by decide))
        refine wp_if (fun c82 => ?_) (fun c82 => ?_)
        · have c82 := cv_le (a := (gI o76 43).toInt) (b := 1) rfl (by decide) c82
          exfalso; omega
        · have c82 := cv_nle (a := (gI o76 43).toInt) (b := 1) rfl (by decide) c82
          have t83 : ((8 : Int32) + (gA o76 42 (1 : Int32).toNatClampNeg)).toInt = 8 + (gA o76 42 (1 : Int32).toNatClampNeg).toInt := i32_add (by decide) rfl (by omega) (by omega)
          refine wp_gd (zin_of (m := 5484) rfl (by omega) (by omega)) ?_
          refine wp_lt (fun o84 eo84 => ?_)
          have hIo84 : IvX9 o84 := by rw [eo84]; exact ibX9_3 hIo76 (by omega) (by omega) (Or.inr (Or.inl (by first | omega | decide))) (Or.inr (Or.inl (by first | omega | decide))) (Or.inr (Or.inl (by first | omega | decide))) (Or.inr (Or.inl (by first | omega | decide))) (Or.inr (Or.inl (by first | omega | decide))) (Or.inr (Or.inr ⟨by omega, by omega⟩)) (Or.inl (by first | omega | decide)) (Or.inl (by first | omega | decide)) (Or.inl (by first | omega | decide))
          have ko84_k85 : (gA o84 3 ((15 : Int32) + x2).toNatClampNeg).toInt = (gA o76 3 ((15 : Int32) + x2).toNatClampNeg).toInt := by rw [eo84]; exact congrArg Int32.toInt (upd_ne (g := gA o76 3) (i := ((8 : Int32) + (gA o76 42 (1 : Int32).toNatClampNeg))) (j := ((15 : Int32) + x2)) (v := z56.1) (by omega) (by omega) (by omega))
          have ko84_k86 : (gA o84 3 (7 : Int32).toNatClampNeg).toInt = (gA o76 3 (7 : Int32).toNatClampNeg).toInt := by rw [eo84]; exact congrArg Int32.toInt (upd_ne (g := gA o76 3) (i := ((8 : Int32) + (gA o76 42 (1 : Int32).toNatClampNeg))) (j := (7 : Int32)) (v := z56.1) (by omega) (by decide) (by omega))
          have ko84_k87 : (gA o84 42 (0 : Int32).toNatClampNeg).toInt = (gA o76 42 (0 : Int32).toNatClampNeg).toInt := by rw [eo84]; rfl
          have ko84_k88 : (gA o84 42 (1 : Int32).toNatClampNeg).toInt = (gA o76 42 (1 : Int32).toNatClampNeg).toInt := by rw [eo84]; rfl
          have ko84_k89 : (gI o84 20).toInt = (gI o76 20).toInt := by rw [eo84]; rfl
          have ko84_k90 : (gI o84 43).toInt = (gI o76 43).toInt := by rw [eo84]; rfl
          have ko84_v : (gA o84 3 ((8 : Int32) + (gA o76 42 (1 : Int32).toNatClampNeg)).toNatClampNeg).toInt = z56.1.toInt := by rw [eo84]; exact congrArg Int32.toInt (upd_eq (g := gA o76 3) (i := ((8 : Int32) + (gA o76 42 (1 : Int32).toNatClampNeg))) (v := z56.1))
          have hkpo84 : Kp [1, 8, 11, 13, 14, 15, 16, 18, 19, 20, 21, 23, 26, 29, 43, 56, 57, 58, 59, 62] [2, 4, 5, 7, 10, 12, 22, 24, 25, 27, 28, 42, 48, 50, 51, 55, 61] [(0, 1), (1, 2), (29, 36), (36, 64), (64, 71)] o_me o84 := hkpo76.trans (by rw [eo84]; exact kp_bw (a := 2) (b := 29) (by decide) (by decide) (by omega) (by omega))
          unfold bk_X9_raceIt_169
          refine wp_if (fun c91 => ?_) (fun c91 => ?_)
          · have c91 := cv_le (a := (gI o84 43).toInt) (b := 2) rfl (by decide) c91
            unfold bk_X9_raceIt_216
            have lp2 : ∀ (N2 : Nat) (v2_2 : Int32) (v7_2 : Int32) (o_me_2 : Ob), IvX9 o_me_2 → Kp [1, 8, 11, 13, 14, 15, 16, 18, 19, 20, 21, 23, 26, 29, 43, 56, 57, 58, 59, 62] [2, 4, 5, 7, 10, 12, 22, 24, 25, 27, 28, 42, 48, 50, 51, 55, 61] [(0, 1), (1, 2), (29, 36), (36, 64), (64, 71)] o_me o_me_2 → (0 ≤ v2_2.toInt ∧ v2_2.toInt ≤ 6) → (0 ≤ v7_2.toInt ∧ v7_2.toInt ≤ 2) → (0 ≤ (gI o_me_2 20).toInt ∧ (gI o_me_2 20).toInt ≤ 0) → (2 ≤ (gI o_me_2 43).toInt ∧ (gI o_me_2 43).toInt ≤ 2) → (v2_2.toInt ≤ x2.toInt + 0) → (x2.toInt ≤ v2_2.toInt + 0) → (2 - v7_2.toInt).toNat < N2 → wp (lp_X9_raceIt_219   N2 (v2_2, v7_2, o_me_2)) (fun (y : Int32 × Ob) => (0 ≤ y.1.toInt ∧ y.1.toInt ≤ 6) ∧ IvX9 y.2 ∧ Kp [1, 8, 11, 13, 14, 15, 16, 18, 19, 20, 21, 23, 26, 29, 43, 56, 57, 58, 59, 62] [2, 4, 5, 7, 10, 12, 22, 24, 25, 27, 28, 42, 48, 50, 51, 55, 61] [(0, 1), (1, 2), (29, 36), (36, 64), (64, 71)] o_me y.2) := by
              intro N2
              induction N2 with
              | zero =>
                intro v2_2 v7_2 o_me_2 hI_me_2 hkp_me_2 hh94 hh95 hh96 hh97 hh98 hh99 hN2
                exact absurd hN2 (Nat.not_lt_zero _)
              | succ N2 ihx =>
                have ih2 := ihx
                intro v2_2 v7_2 o_me_2 hI_me_2 hkp_me_2 hh94 hh95 hh96 hh97 hh98 hh99 hN2
                show wp (lb_X9_raceIt_219   (lp_X9_raceIt_219   N2) v2_2 v7_2 o_me_2) (fun (y : Int32 × Ob) => (0 ≤ y.1.toInt ∧ y.1.toInt ≤ 6) ∧ IvX9 y.2 ∧ Kp [1, 8, 11, 13, 14, 15, 16, 18, 19, 20, 21, 23, 26, 29, 43, 56, 57, 58, 59, 62] [2, 4, 5, 7, 10, 12, 22, 24, 25, 27, 28, 42, 48, 50, 51, 55, 61] [(0, 1), (1, 2), (29, 36), (36, 64), (64, 71)] o_me y.2)
                unfold lb_X9_raceIt_219
                refine wp_if (fun c100 => ?_) (fun c100 => ?_)
                · have c100 := cv_ge (a := v7_2.toInt) (b := (gI o_me_2 43).toInt) rfl rfl c100
                  refine wp_some ?_
                  exact (show (0 ≤ v2_2.toInt ∧ v2_2.toInt ≤ 6) ∧ IvX9 o_me_2 ∧ Kp [1, 8, 11, 13, 14, 15, 16, 18, 19, 20, 21, 23, 26, 29, 43, 56, 57, 58, 59, 62] [2, 4, 5, 7, 10, 12, 22, 24, 25, 27, 28, 42, 48, 50, 51, 55, 61] [(0, 1), (1, 2), (29, 36), (36, 64), (64, 71)] o_me o_me_2 from ⟨⟨by omega, by omega⟩, hI_me_2, hkp_me_2⟩)
                · have c100 := cv_nge (a := v7_2.toInt) (b := (gI o_me_2 43).toInt) rfl rfl c100
                  refine wp_gd (zin_of (m := 7) rfl (by omega) (by omega)) ?_
                  have t101 := iaX9_42_0 hI_me_2 (j := v7_2) (by omega) (by omega)
                  have t102 : ((22 : Int32) + (gA o_me_2 42 v7_2.toNatClampNeg)).toInt = 22 + (gA o_me_2 42 v7_2.toNatClampNeg).toInt := i32_add (by decide) rfl (by omega) (by omega)
                  refine wp_gd (zin_of (m := 5484) rfl (by omega) (by omega)) ?_
                  refine wp_lt (fun o103 eo103 => ?_)
                  have hIo103 : IvX9 o103 := by rw [eo103]; exact ibX9_3 hI_me_2 (by omega) (by omega) (Or.inr (Or.inl (by first | omega | decide))) (Or.inr (Or.inl (by first | omega | decide))) (Or.inr (Or.inl (by first | omega | decide))) (Or.inr (Or.inl (by first | omega | decide))) (Or.inr (Or.inl (by first | omega | decide))) (Or.inr (Or.inl (by first | omega | decide))) (Or.inr (Or.inr ⟨by decide, by decide⟩)) (Or.inl (by first | omega | decide)) (Or.inl (by first | omega | decide))
                  have ko103_k104 : (gA o103 42 v7_2.toNatClampNeg).toInt = (gA o_me_2 42 v7_2.toNatClampNeg).toInt := by rw [eo103]; rfl
                  have ko103_k105 : (gI o103 20).toInt = (gI o_me_2 20).toInt := by rw [eo103]; rfl
                  have ko103_k106 : (gI o103 43).toInt = (gI o_me_2 43).toInt := by rw [eo103]; rfl
                  have ko103_v : (gA o103 3 ((22 : Int32) + (gA o_me_2 42 v7_2.toNatClampNeg)).toNatClampNeg).toInt = 0 := by rw [eo103]; exact (congrArg Int32.toInt (upd_eq (g := gA o_me_2 3) (i := ((22 : Int32) + (gA o_me_2 42 v7_2.toNatClampNeg))) (v := (0 : Int32)))).trans (show ((0 : Int32)).toInt = 0 by decide)
                  have hkpo103 : Kp [1, 8, 11, 13, 14, 15, 16, 18, 19, 20, 21, 23, 26, 29, 43, 56, 57, 58, 59, 62] [2, 4, 5, 7, 10, 12, 22, 24, 25, 27, 28, 42, 48, 50, 51, 55, 61] [(0, 1), (1, 2), (29, 36), (36, 64), (64, 71)] o_me o103 := hkp_me_2.trans (by rw [eo103]; exact kp_bw (a := 2) (b := 29) (by decide) (by decide) (by omega) (by omega))
                  refine wp_lt (fun x107 ex107 => ?_)
                  have tx107 : x107.toInt = v7_2.toInt + 1 := by rw [ex107]; exact i32_add rfl (by decide) (by omega) (by omega)
                  exact ih2 v2_2 x107 o103 hIo103 hkpo103 ⟨by omega, by omega⟩ ⟨by omega, by omega⟩ ⟨by omega, by omega⟩ ⟨by omega, by omega⟩ (by omega) (by omega) (by omega)
            exact lp2 zfu x2 (0 : Int32) o84 hIo84 hkpo84 ⟨by omega, by omega⟩ ⟨by decide, by decide⟩ ⟨by omega, by omega⟩ ⟨by omega, by omega⟩ (by omega) (by omega) (by show _ < 100000; omega)
          · have c91 := cv_nle (a := (gI o84 43).toInt) (b := 2) rfl (by decide) c91
            exfalso; omega
      · have c61 := cv_nle (a := (gI z56.2 43).toInt) (b := 2) rfl (by decide) c61
        have t108 := iaX9_42_0 hz56_1 (j := (2 : Int32)) (by decide) (by decide)
        refine wp_bd (s_X9_winsOf   z56.2 (gA z56.2 42 (2 : Int32).toNatClampNeg) p0 (3 : Int32)  hz56_1  ⟨by omega, by omega⟩ ⟨by omega, by omega⟩ ⟨by omega, by omega⟩) (fun z109 hz109 => ?_)
        obtain ⟨hz109_0, hz109_1, hz109_2⟩ := hz109
        have hkpz109_me : Kp [1, 8, 11, 13, 14, 15, 16, 18, 19, 20, 21, 23, 26, 29, 43, 56, 57, 58, 59, 62] [2, 4, 5, 7, 10, 12, 22, 24, 25, 27, 28, 42, 48, 50, 51, 55, 61] [(0, 1), (1, 2), (29, 36), (36, 64), (64, 71)] o_me z109.2 := hkpz56_me.trans (hz109_2.mono (by decide) (by decide) (by decide))
        have kz109_k110 : (gA z109.2 42 (0 : Int32).toNatClampNeg).toInt = (gA z56.2 42 (0 : Int32).toNatClampNeg).toInt := congrArg (fun g => (g (0 : Int32).toNatClampNeg).toInt) (hz109_2.2.1 42 (by decide))
        have kz109_k111 : (gA z109.2 42 (1 : Int32).toNatClampNeg).toInt = (gA z56.2 42 (1 : Int32).toNatClampNeg).toInt := congrArg (fun g => (g (1 : Int32).toNatClampNeg).toInt) (hz109_2.2.1 42 (by decide))
        have kz109_k112 : (gA z109.2 42 (2 : Int32).toNatClampNeg).toInt = (gA z56.2 42 (2 : Int32).toNatClampNeg).toInt := congrArg (fun g => (g (2 : Int32).toNatClampNeg).toInt) (hz109_2.2.1 42 (by decide))
        have kz109_k113 : (gI z109.2 20).toInt = (gI z56.2 20).toInt := congrArg Int32.toInt (hz109_2.1 20 (by decide))
        have kz109_k114 : (gI z109.2 43).toInt = (gI z56.2 43).toInt := congrArg Int32.toInt (hz109_2.1 43 (by decide))
        unfold bk_X9_raceIt_90
        have t115 : ((15 : Int32) + x2).toInt = 15 + x2.toInt := i32_add (by decide) rfl (by omega) (by omega)
        refine wp_gd (zin_of (m := 5484) rfl (by omega) (by omega)) ?_
        have rg116 := i32_rg ((gA z109.2 3 ((15 : Int32) + x2).toNatClampNeg) + z3.1)
        have t117 : (((gA z109.2 3 ((15 : Int32) + x2).toNatClampNeg) + z3.1).toInt64).toInt = ((gA z109.2 3 ((15 : Int32) + x2).toNatClampNeg) + z3.1).toInt := Int32.toInt_toInt64 _
        refine wp_bd (s_X9_within   (((gA z109.2 3 ((15 : Int32) + x2).toNatClampNeg) + z3.1).toInt64) (0 : Int32) (999 : Int32)    (by omega)) (fun z118 hz118 => ?_)
        obtain ⟨hz118_0, hz118_1⟩ := hz118
        refine wp_gd (zin_of (m := 5484) rfl (by omega) (by omega)) ?_
        refine wp_lt (fun o119 eo119 => ?_)
        have hIo119 : IvX9 o119 := by rw [eo119]; exact ibX9_3 hz109_1 (by omega) (by omega) (Or.inr (Or.inl (by first | omega | decide))) (Or.inr (Or.inl (by first | omega | decide))) (Or.inr (Or.inl (by first | omega | decide))) (Or.inr (Or.inl (by first | omega | decide))) (Or.inr (Or.inl (by first | omega | decide))) (Or.inr (Or.inl (by first | omega | decide))) (Or.inl (by first | omega | decide)) (Or.inl (by first | omega | decide)) (Or.inl (by first | omega | decide))
        have ko119_k120 : (gA o119 42 (0 : Int32).toNatClampNeg).toInt = (gA z109.2 42 (0 : Int32).toNatClampNeg).toInt := by rw [eo119]; rfl
        have ko119_k121 : (gA o119 42 (1 : Int32).toNatClampNeg).toInt = (gA z109.2 42 (1 : Int32).toNatClampNeg).toInt := by rw [eo119]; rfl
        have ko119_k122 : (gA o119 42 (2 : Int32).toNatClampNeg).toInt = (gA z109.2 42 (2 : Int32).toNatClampNeg).toInt := by rw [eo119]; rfl
        have ko119_k123 : (gI o119 20).toInt = (gI z109.2 20).toInt := by rw [eo119]; rfl
        have ko119_k124 : (gI o119 43).toInt = (gI z109.2 43).toInt := by rw [eo119]; rfl
        have ko119_v : (gA o119 3 ((15 : Int32) + x2).toNatClampNeg).toInt = z118.toInt := by rw [eo119]; exact congrArg Int32.toInt (upd_eq (g := gA z109.2 3) (i := ((15 : Int32) + x2)) (v := z118))
        have hkpo119 : Kp [1, 8, 11, 13, 14, 15, 16, 18, 19, 20, 21, 23, 26, 29, 43, 56, 57, 58, 59, 62] [2, 4, 5, 7, 10, 12, 22, 24, 25, 27, 28, 42, 48, 50, 51, 55, 61] [(0, 1), (1, 2), (29, 36), (36, 64), (64, 71)] o_me o119 := hkpz109_me.trans (by rw [eo119]; exact kp_bw (a := 2) (b := 29) (by decide) (by decide) (by omega) (by omega))
        have t125 := iaX9_3_4 hIo119 (j := (7 : Int32)) (by decide) (by decide)
        have t126 : ((gA o119 3 (7 : Int32).toNatClampNeg) + z50.1).toInt = (gA o119 3 (7 : Int32).toNatClampNeg).toInt + z50.1.toInt := i32_add rfl rfl (by omega) (by omega)
        have t127 : (((gA o119 3 (7 : Int32).toNatClampNeg) + z50.1).toInt64).toInt = ((gA o119 3 (7 : Int32).toNatClampNeg) + z50.1).toInt := Int32.toInt_toInt64 _
        refine wp_bd (s_X9_within   (((gA o119 3 (7 : Int32).toNatClampNeg) + z50.1).toInt64) (0 : Int32) (999 : Int32)    (by omega)) (fun z128 hz128 => ?_)
        obtain ⟨hz128_0, hz128_1⟩ := hz128
        refine wp_lt (fun o129 eo129 => ?_)
        have hIo129 : IvX9 o129 := by rw [eo129]; exact ibX9_3 hIo119 (by decide) (by decide) (Or.inr (Or.inl (by first | omega | decide))) (Or.inr (Or.inl (by first | omega | decide))) (Or.inr (Or.inl (by first | omega | decide))) (Or.inr (Or.inl (by first | omega | decide))) (Or.inr (Or.inr ⟨by omega, by omega⟩)) (Or.inl (by first | omega | decide)) (Or.inl (by first | omega | decide)) (Or.inl (by first | omega | decide)) (Or.inl (by first | omega | decide))
        have ko129_k130 : (gA o129 3 ((15 : Int32) + x2).toNatClampNeg).toInt = (gA o119 3 ((15 : Int32) + x2).toNatClampNeg).toInt := by rw [eo129]; exact congrArg Int32.toInt (upd_ne (g := gA o119 3) (i := (7 : Int32)) (j := ((15 : Int32) + x2)) (v := z128) (by decide) (by omega) (by omega))
        have ko129_k131 : (gA o129 42 (0 : Int32).toNatClampNeg).toInt = (gA o119 42 (0 : Int32).toNatClampNeg).toInt := by rw [eo129]; rfl
        have ko129_k132 : (gA o129 42 (1 : Int32).toNatClampNeg).toInt = (gA o119 42 (1 : Int32).toNatClampNeg).toInt := by rw [eo129]; rfl
        have ko129_k133 : (gA o129 42 (2 : Int32).toNatClampNeg).toInt = (gA o119 42 (2 : Int32).toNatClampNeg).toInt := by rw [eo129]; rfl
        have ko129_k134 : (gI o129 20).toInt = (gI o119 20).toInt := by rw [eo129]; rfl
        have ko129_k135 : (gI o129 43).toInt = (gI o119 43).toInt := by rw [eo129]; rfl
        have ko129_v : (gA o129 3 (7 : Int32).toNatClampNeg).toInt = z128.toInt := by rw [eo129]; exact congrArg Int32.toInt (upd_eq (g := gA o119 3) (i := (7 : Int32)) (v := z128))
        have hkpo129 : Kp [1, 8, 11, 13, 14, 15, 16, 18, 19, 20, 21, 23, 26, 29, 43, 56, 57, 58, 59, 62] [2, 4, 5, 7, 10, 12, 22, 24, 25, 27, 28, 42, 48, 50, 51, 55, 61] [(0, 1), (1, 2), (29, 36), (36, 64), (64, 71)] o_me o129 := hkpo119.trans (by rw [eo129]; exact kp_bw (a := 7) (b := 8) (by decide) (by decide) (by decide) (by decide))
        refine wp_if (fun c136 => ?_) (fun c136 => ?_)
        · have c136 := cv_le (a := (gI o129 43).toInt) (b := 1) rfl (by decide) c136
          exfalso; omega
        · have c136 := cv_nle (a := (gI o129 43).toInt) (b := 1) rfl (by decide) c136
          have t137 : ((8 : Int32) + (gA o129 42 (1 : Int32).toNatClampNeg)).toInt = 8 + (gA o129 42 (1 : Int32).toNatClampNeg).toInt := i32_add (by decide) rfl (by omega) (by omega)
          refine wp_gd (zin_of (m := 5484) rfl (by omega) (by omega)) ?_
          refine wp_lt (fun o138 eo138 => ?_)
          have hIo138 : IvX9 o138 := by rw [eo138]; exact ibX9_3 hIo129 (by omega) (by omega) (Or.inr (Or.inl (by first | omega | decide))) (Or.inr (Or.inl (by first | omega | decide))) (Or.inr (Or.inl (by first | omega | decide))) (Or.inr (Or.inl (by first | omega | decide))) (Or.inr (Or.inl (by first | omega | decide))) (Or.inr (Or.inr ⟨by omega, by omega⟩)) (Or.inl (by first | omega | decide)) (Or.inl (by first | omega | decide)) (Or.inl (by first | omega | decide))
          have ko138_k139 : (gA o138 3 ((15 : Int32) + x2).toNatClampNeg).toInt = (gA o129 3 ((15 : Int32) + x2).toNatClampNeg).toInt := by rw [eo138]; exact congrArg Int32.toInt (upd_ne (g := gA o129 3) (i := ((8 : Int32) + (gA o129 42 (1 : Int32).toNatClampNeg))) (j := ((15 : Int32) + x2)) (v := z56.1) (by omega) (by omega) (by omega))
          have ko138_k140 : (gA o138 3 (7 : Int32).toNatClampNeg).toInt = (gA o129 3 (7 : Int32).toNatClampNeg).toInt := by rw [eo138]; exact congrArg Int32.toInt (upd_ne (g := gA o129 3) (i := ((8 : Int32) + (gA o129 42 (1 : Int32).toNatClampNeg))) (j := (7 : Int32)) (v := z56.1) (by omega) (by decide) (by omega))
          have ko138_k141 : (gA o138 42 (0 : Int32).toNatClampNeg).toInt = (gA o129 42 (0 : Int32).toNatClampNeg).toInt := by rw [eo138]; rfl
          have ko138_k142 : (gA o138 42 (1 : Int32).toNatClampNeg).toInt = (gA o129 42 (1 : Int32).toNatClampNeg).toInt := by rw [eo138]; rfl
          have ko138_k143 : (gA o138 42 (2 : Int32).toNatClampNeg).toInt = (gA o129 42 (2 : Int32).toNatClampNeg).toInt := by rw [eo138]; rfl
          have ko138_k144 : (gI o138 20).toInt = (gI o129 20).toInt := by rw [eo138]; rfl
          have ko138_k145 : (gI o138 43).toInt = (gI o129 43).toInt := by rw [eo138]; rfl
          have ko138_v : (gA o138 3 ((8 : Int32) + (gA o129 42 (1 : Int32).toNatClampNeg)).toNatClampNeg).toInt = z56.1.toInt := by rw [eo138]; exact congrArg Int32.toInt (upd_eq (g := gA o129 3) (i := ((8 : Int32) + (gA o129 42 (1 : Int32).toNatClampNeg))) (v := z56.1))
          have hkpo138 : Kp [1, 8, 11, 13, 14, 15, 16, 18, 19, 20, 21, 23, 26, 29, 43, 56, 57, 58, 59, 62] [2, 4, 5, 7, 10, 12, 22, 24, 25, 27, 28, 42, 48, 50, 51, 55, 61] [(0, 1), (1, 2), (29, 36), (36, 64), (64, 71)] o_me o138 := hkpo129.trans (by rw [eo138]; exact kp_bw (a := 2) (b := 29) (by decide) (by decide) (by omega) (by omega))
          unfold bk_X9_raceIt_169
          refine wp_if (fun c146 => ?_) (fun c146 => ?_)
          · have c146 := cv_le (a := (gI o138 43).toInt) (b := 2) rfl (by decide) c146
            exfalso; omega
          · have c146 := cv_nle (a := (gI o138 43).toInt) (b := 2) rfl (by decide) c146
            have t147 : ((15 : Int32) + (gA o138 42 (2 : Int32).toNatClampNeg)).toInt = 15 + (gA o138 42 (2 : Int32).toNatClampNeg).toInt := i32_add (by decide) rfl (by omega) (by omega)
            refine wp_gd (zin_of (m := 5484) rfl (by omega) (by omega)) ?_
            have rg148 := i32_rg ((gA o138 3 ((15 : Int32) + (gA o138 42 (2 : Int32).toNatClampNeg)).toNatClampNeg) + z109.1)
            have t149 : (((gA o138 3 ((15 : Int32) + (gA o138 42 (2 : Int32).toNatClampNeg)).toNatClampNeg) + z109.1).toInt64).toInt = ((gA o138 3 ((15 : Int32) + (gA o138 42 (2 : Int32).toNatClampNeg)).toNatClampNeg) + z109.1).toInt := Int32.toInt_toInt64 _
            refine wp_bd (s_X9_within   (((gA o138 3 ((15 : Int32) + (gA o138 42 (2 : Int32).toNatClampNeg)).toNatClampNeg) + z109.1).toInt64) (0 : Int32) (999 : Int32)    (by omega)) (fun z150 hz150 => ?_)
            obtain ⟨hz150_0, hz150_1⟩ := hz150
            refine wp_gd (zin_of (m := 5484) rfl (by omega) (by omega)) ?_
            refine wp_lt (fun o151 eo151 => ?_)
            have hIo151 : IvX9 o151 := by rw [eo151]; exact ibX9_3 hIo138 (by omega) (by omega) (Or.inr (Or.inl (by first | omega | decide))) (Or.inr (Or.inl (by first | omega | decide))) (Or.inr (Or.inl (by first | omega | decide))) (Or.inr (Or.inl (by first | omega | decide))) (Or.inr (Or.inl (by first | omega | decide))) (Or.inr (Or.inl (by first | omega | decide))) (Or.inl (by first | omega | decide)) (Or.inl (by first | omega | decide)) (Or.inl (by first | omega | decide))
            have ko151_k152 : (gA o151 3 ((8 : Int32) + (gA o129 42 (1 : Int32).toNatClampNeg)).toNatClampNeg).toInt = (gA o138 3 ((8 : Int32) + (gA o129 42 (1 : Int32).toNatClampNeg)).toNatClampNeg).toInt := by rw [eo151]; exact congrArg Int32.toInt (upd_ne (g := gA o138 3) (i := ((15 : Int32) + (gA o138 42 (2 : Int32).toNatClampNeg))) (j := ((8 : Int32) + (gA o129 42 (1 : Int32).toNatClampNeg))) (v := z150) (by omega) (by omega) (by omega))
            have ko151_k153 : (gA o151 3 (7 : Int32).toNatClampNeg).toInt = (gA o138 3 (7 : Int32).toNatClampNeg).toInt := by rw [eo151]; exact congrArg Int32.toInt (upd_ne (g := gA o138 3) (i := ((15 : Int32) + (gA o138 42 (2 : Int32).toNatClampNeg))) (j := (7 : Int32)) (v := z150) (by omega) (by decide) (by omega))
            have ko151_k154 : (gA o151 42 (0 : Int32).toNatClampNeg).toInt = (gA o138 42 (0 : Int32).toNatClampNeg).toInt := by rw [eo151]; rfl
            have ko151_k155 : (gA o151 42 (1 : Int32).toNatClampNeg).toInt = (gA o138 42 (1 : Int32).toNatClampNeg).toInt := by rw [eo151]; rfl
            have ko151_k156 : (gA o151 42 (2 : Int32).toNatClampNeg).toInt = (gA o138 42 (2 : Int32).toNatClampNeg).toInt := by rw [eo151]; rfl
            have ko151_k157 : (gI o151 20).toInt = (gI o138 20).toInt := by rw [eo151]; rfl
            have ko151_k158 : (gI o151 43).toInt = (gI o138 43).toInt := by rw [eo151]; rfl
            have ko151_v : (gA o151 3 ((15 : Int32) + (gA o138 42 (2 : Int32).toNatClampNeg)).toNatClampNeg).toInt = z150.toInt := by rw [eo151]; exact congrArg Int32.toInt (upd_eq (g := gA o138 3) (i := ((15 : Int32) + (gA o138 42 (2 : Int32).toNatClampNeg))) (v := z150))
            have hkpo151 : Kp [1, 8, 11, 13, 14, 15, 16, 18, 19, 20, 21, 23, 26, 29, 43, 56, 57, 58, 59, 62] [2, 4, 5, 7, 10, 12, 22, 24, 25, 27, 28, 42, 48, 50, 51, 55, 61] [(0, 1), (1, 2), (29, 36), (36, 64), (64, 71)] o_me o151 := hkpo138.trans (by rw [eo151]; exact kp_bw (a := 2) (b := 29) (by decide) (by decide) (by omega) (by omega))
            unfold bk_X9_raceIt_216
            have lp3 : ∀ (N3 : Nat) (v2_3 : Int32) (v7_3 : Int32) (o_me_3 : Ob), IvX9 o_me_3 → Kp [1, 8, 11, 13, 14, 15, 16, 18, 19, 20, 21, 23, 26, 29, 43, 56, 57, 58, 59, 62] [2, 4, 5, 7, 10, 12, 22, 24, 25, 27, 28, 42, 48, 50, 51, 55, 61] [(0, 1), (1, 2), (29, 36), (36, 64), (64, 71)] o_me o_me_3 → (0 ≤ v2_3.toInt ∧ v2_3.toInt ≤ 6) → (0 ≤ v7_3.toInt ∧ v7_3.toInt ≤ 7) → (0 ≤ (gI o_me_3 20).toInt ∧ (gI o_me_3 20).toInt ≤ 0) → (3 ≤ (gI o_me_3 43).toInt ∧ (gI o_me_3 43).toInt ≤ 7) → (v7_3.toInt ≤ (gI o_me_3 43).toInt + 0) → (v2_3.toInt ≤ x2.toInt + 0) → (x2.toInt ≤ v2_3.toInt + 0) → (7 - v7_3.toInt).toNat < N3 → wp (lp_X9_raceIt_219   N3 (v2_3, v7_3, o_me_3)) (fun (y : Int32 × Ob) => (0 ≤ y.1.toInt ∧ y.1.toInt ≤ 6) ∧ IvX9 y.2 ∧ Kp [1, 8, 11, 13, 14, 15, 16, 18, 19, 20, 21, 23, 26, 29, 43, 56, 57, 58, 59, 62] [2, 4, 5, 7, 10, 12, 22, 24, 25, 27, 28, 42, 48, 50, 51, 55, 61] [(0, 1), (1, 2), (29, 36), (36, 64), (64, 71)] o_me y.2) := by
              intro N3
              induction N3 with
              | zero =>
                intro v2_3 v7_3 o_me_3 hI_me_3 hkp_me_3 hh161 hh162 hh163 hh164 hh165 hh166 hh167 hN3
                exact absurd hN3 (Nat.not_lt_zero _)
              | succ N3 ihx =>
                have ih3 := ihx
                intro v2_3 v7_3 o_me_3 hI_me_3 hkp_me_3 hh161 hh162 hh163 hh164 hh165 hh166 hh167 hN3
                show wp (lb_X9_raceIt_219   (lp_X9_raceIt_219   N3) v2_3 v7_3 o_me_3) (fun (y : Int32 × Ob) => (0 ≤ y.1.toInt ∧ y.1.toInt ≤ 6) ∧ IvX9 y.2 ∧ Kp [1, 8, 11, 13, 14, 15, 16, 18, 19, 20, 21, 23, 26, 29, 43, 56, 57, 58, 59, 62] [2, 4, 5, 7, 10, 12, 22, 24, 25, 27, 28, 42, 48, 50, 51, 55, 61] [(0, 1), (1, 2), (29, 36), (36, 64), (64, 71)] o_me y.2)
                unfold lb_X9_raceIt_219
                refine wp_if (fun c168 => ?_) (fun c168 => ?_)
                · have c168 := cv_ge (a := v7_3.toInt) (b := (gI o_me_3 43).toInt) rfl rfl c168
                  refine wp_some ?_
                  exact (show (0 ≤ v2_3.toInt ∧ v2_3.toInt ≤ 6) ∧ IvX9 o_me_3 ∧ Kp [1, 8, 11, 13, 14, 15, 16, 18, 19, 20, 21, 23, 26, 29, 43, 56, 57, 58, 59, 62] [2, 4, 5, 7, 10, 12, 22, 24, 25, 27, 28, 42, 48, 50, 51, 55, 61] [(0, 1), (1, 2), (29, 36), (36, 64), (64, 71)] o_me o_me_3 from ⟨⟨by omega, by omega⟩, hI_me_3, hkp_me_3⟩)
                · have c168 := cv_nge (a := v7_3.toInt) (b := (gI o_me_3 43).toInt) rfl rfl c168
                  refine wp_gd (zin_of (m := 7) rfl (by omega) (by omega)) ?_
                  have t169 := iaX9_42_0 hI_me_3 (j := v7_3) (by omega) (by omega)
                  have t170 : ((22 : Int32) + (gA o_me_3 42 v7_3.toNatClampNeg)).toInt = 22 + (gA o_me_3 42 v7_3.toNatClampNeg).toInt := i32_add (by decide) rfl (by omega) (by omega)
                  refine wp_gd (zin_of (m := 5484) rfl (by omega) (by omega)) ?_
                  refine wp_lt (fun o171 eo171 => ?_)
                  have hIo171 : IvX9 o171 := by rw [eo171]; exact ibX9_3 hI_me_3 (by omega) (by omega) (Or.inr (Or.inl (by first | omega | decide))) (Or.inr (Or.inl (by first | omega | decide))) (Or.inr (Or.inl (by first | omega | decide))) (Or.inr (Or.inl (by first | omega | decide))) (Or.inr (Or.inl (by first | omega | decide))) (Or.inr (Or.inl (by first | omega | decide))) (Or.inr (Or.inr ⟨by decide, by decide⟩)) (Or.inl (by first | omega | decide)) (Or.inl (by first | omega | decide))
                  have ko171_k172 : (gA o171 42 v7_3.toNatClampNeg).toInt = (gA o_me_3 42 v7_3.toNatClampNeg).toInt := by rw [eo171]; rfl
                  have ko171_k173 : (gI o171 20).toInt = (gI o_me_3 20).toInt := by rw [eo171]; rfl
                  have ko171_k174 : (gI o171 43).toInt = (gI o_me_3 43).toInt := by rw [eo171]; rfl
                  have ko171_v : (gA o171 3 ((22 : Int32) + (gA o_me_3 42 v7_3.toNatClampNeg)).toNatClampNeg).toInt = 0 := by rw [eo171]; exact (congrArg Int32.toInt (upd_eq (g := gA o_me_3 3) (i := ((22 : Int32) + (gA o_me_3 42 v7_3.toNatClampNeg))) (v := (0 : Int32)))).trans (show ((0 : Int32)).toInt = 0 by decide)
                  have hkpo171 : Kp [1, 8, 11, 13, 14, 15, 16, 18, 19, 20, 21, 23, 26, 29, 43, 56, 57, 58, 59, 62] [2, 4, 5, 7, 10, 12, 22, 24, 25, 27, 28, 42, 48, 50, 51, 55, 61] [(0, 1), (1, 2), (29, 36), (36, 64), (64, 71)] o_me o171 := hkp_me_3.trans (by rw [eo171]; exact kp_bw (a := 2) (b := 29) (by decide) (by decide) (by omega) (by omega))
                  refine wp_lt (fun x175 ex175 => ?_)
                  have tx175 : x175.toInt = v7_3.toInt + 1 := by rw [ex175]; exact i32_add rfl (by decide) (by omega) (by omega)
                  exact ih3 v2_3 x175 o171 hIo171 hkpo171 ⟨by omega, by omega⟩ ⟨by omega, by omega⟩ ⟨by omega, by omega⟩ ⟨by omega, by omega⟩ (by omega) (by omega) (by omega) (by omega)
            exact lp3 zfu x2 (0 : Int32) o151 hIo151 hkpo151 ⟨by omega, by omega⟩ ⟨by decide, by decide⟩ ⟨by omega, by omega⟩ ⟨by omega, by omega⟩ (by omega) (by omega) (by omega) (by show _ < 100000; omega)

set_option maxHeartbeats 4000000 in
set_option maxRecDepth 100000 in
theorem s_X9_raceNow (o_me : Ob) (p0 : Int32) (hI_me : IvX9 o_me) (q0 : 0 ≤ (gI o_me 20).toInt ∧ (gI o_me 20).toInt ≤ 0) : wp (f_X9_raceNow   o_me p0) (fun (y : Int32 × Ob) => ((-3) ≤ y.1.toInt ∧ y.1.toInt ≤ 6) ∧ IvX9 y.2 ∧ Kp [1, 11, 13, 14, 15, 16, 18, 19, 20, 21, 23, 26, 29, 56, 57, 58, 59, 62] [2, 4, 5, 10, 12, 22, 24, 25, 27, 28, 48, 50, 51, 55, 61] [(0, 1), (1, 2), (29, 36), (36, 64), (64, 71)] o_me y.2) := by
  have li0 : (-1 : Int32).toInt = (-1) := by decide
  have li1 : (-3 : Int32).toInt = (-3) := by decide
  have li2 : (0 : Int32).toInt = 0 := by decide
  unfold f_X9_raceNow
  refine wp_bd (s_X9_isRace   p0    ) (fun z1 hz1 => ?_)
  obtain ⟨hz1_0, hz1_1⟩ := hz1
  refine wp_if (fun c2 => ?_) (fun c2 => ?_)
  · have c2 := cv_eq (a := z1.toInt) (b := 0) rfl (by decide) c2
    refine wp_some ?_
    exact (show ((-3) ≤ (-1 : Int32).toInt ∧ (-1 : Int32).toInt ≤ 6) ∧ IvX9 o_me ∧ Kp [1, 11, 13, 14, 15, 16, 18, 19, 20, 21, 23, 26, 29, 56, 57, 58, 59, 62] [2, 4, 5, 10, 12, 22, 24, 25, 27, 28, 48, 50, 51, 55, 61] [(0, 1), (1, 2), (29, 36), (36, 64), (64, 71)] o_me o_me from ⟨⟨by decide, by decide⟩, hI_me, Kp.rf⟩)
  · have c2z := c2
    have c2i := hz1_1 c2
    have c2 := cv_ne (a := z1.toInt) (b := 0) rfl (by decide) c2
    refine wp_bd (s_X9_layPlaces   o_me p0  hI_me  ⟨by omega, by omega⟩ ⟨by omega, by omega⟩) (fun z3 hz3 => ?_)
    obtain ⟨hz3_0, hz3_1⟩ := hz3
    have hkpz3_me : Kp [1, 11, 13, 14, 15, 16, 18, 19, 20, 21, 23, 26, 29, 56, 57, 58, 59, 62] [2, 4, 5, 10, 12, 22, 24, 25, 27, 28, 48, 50, 51, 55, 61] [(0, 1), (1, 2), (29, 36), (36, 64), (64, 71)] o_me z3 := Kp.rf.trans (hz3_1.mono (by decide) (by decide) (by decide))
    have kz3_k4 : (gI z3 20).toInt = (gI o_me 20).toInt := congrArg Int32.toInt (hz3_1.1 20 (by decide))
    have t5 := igX9_43 hz3_0
    refine wp_if (fun c6 => ?_) (fun c6 => ?_)
    · have c6 := cv_eq (a := (gI z3 43).toInt) (b := 0) rfl (by decide) c6
      refine wp_some ?_
      exact (show ((-3) ≤ (-3 : Int32).toInt ∧ (-3 : Int32).toInt ≤ 6) ∧ IvX9 z3 ∧ Kp [1, 11, 13, 14, 15, 16, 18, 19, 20, 21, 23, 26, 29, 56, 57, 58, 59, 62] [2, 4, 5, 10, 12, 22, 24, 25, 27, 28, 48, 50, 51, 55, 61] [(0, 1), (1, 2), (29, 36), (36, 64), (64, 71)] o_me z3 from ⟨⟨by decide, by decide⟩, hz3_0, hkpz3_me⟩)
    · have c6z := c6
      have c6 := cv_ne (a := (gI z3 43).toInt) (b := 0) rfl (by decide) c6
      refine wp_bd (s_X9_remember   z3 (0 : Int32)  hz3_0  ⟨by decide, by decide⟩) (fun z7 hz7 => ?_)
      obtain ⟨hz7_0, hz7_1⟩ := hz7
      have hkpz7_me : Kp [1, 11, 13, 14, 15, 16, 18, 19, 20, 21, 23, 26, 29, 56, 57, 58, 59, 62] [2, 4, 5, 10, 12, 22, 24, 25, 27, 28, 48, 50, 51, 55, 61] [(0, 1), (1, 2), (29, 36), (36, 64), (64, 71)] o_me z7 := hkpz3_me.trans (hz7_1.mono (by decide) (by decide) (by decide))
      have kz7_k8 : (gI z7 20).toInt = (gI z3 20).toInt := congrArg Int32.toInt (hz7_1.1 20 (by decide))
      have kz7_k9 : (gI z7 43).toInt = (gI z3 43).toInt := congrArg Int32.toInt (hz7_1.1 43 (by decide))
      refine wp_bd (s_X9_raceIt   z7 p0  hz7_0  ⟨by omega, by omega⟩ ⟨by omega, by omega⟩) (fun z10 hz10 => ?_)
      obtain ⟨hz10_0, hz10_1, hz10_2⟩ := hz10
      have hkpz10_me : Kp [1, 11, 13, 14, 15, 16, 18, 19, 20, 21, 23, 26, 29, 56, 57, 58, 59, 62] [2, 4, 5, 10, 12, 22, 24, 25, 27, 28, 48, 50, 51, 55, 61] [(0, 1), (1, 2), (29, 36), (36, 64), (64, 71)] o_me z10.2 := hkpz7_me.trans (hz10_2.mono (by decide) (by decide) (by decide))
      have kz10_k11 : (gI z10.2 20).toInt = (gI z7 20).toInt := congrArg Int32.toInt (hz10_2.1 20 (by decide))
      have kz10_k12 : (gI z10.2 43).toInt = (gI z7 43).toInt := congrArg Int32.toInt (hz10_2.1 43 (by decide))
      refine wp_some ?_
      exact (show ((-3) ≤ z10.1.toInt ∧ z10.1.toInt ≤ 6) ∧ IvX9 z10.2 ∧ Kp [1, 11, 13, 14, 15, 16, 18, 19, 20, 21, 23, 26, 29, 56, 57, 58, 59, 62] [2, 4, 5, 10, 12, 22, 24, 25, 27, 28, 48, 50, 51, 55, 61] [(0, 1), (1, 2), (29, 36), (36, 64), (64, 71)] o_me z10.2 from ⟨⟨by omega, by omega⟩, hz10_1, hkpz10_me⟩)

set_option maxHeartbeats 4000000 in
set_option maxRecDepth 100000 in
theorem s_X9_enterNow (o_me : Ob) (p0 : Int32) (hI_me : IvX9 o_me) (q0 : 0 ≤ (gI o_me 20).toInt ∧ (gI o_me 20).toInt ≤ 0) : wp (f_X9_enterNow   o_me p0) (fun (y : Int32 × Ob) => ((-2) ≤ y.1.toInt ∧ y.1.toInt ≤ 1) ∧ IvX9 y.2 ∧ Kp [1, 11, 13, 14, 15, 16, 18, 19, 20, 21, 23, 26, 29, 34, 38, 43, 56, 57, 58, 59, 62] [2, 4, 5, 10, 12, 22, 24, 25, 27, 28, 42, 48, 50, 51, 55, 61] [(0, 1), (1, 2), (29, 36), (36, 64), (64, 71)] o_me y.2) := by
  have li0 : (-2 : Int32).toInt = (-2) := by decide
  have li1 : (1 : Int32).toInt = 1 := by decide
  have li2 : (22 : Int32).toInt = 22 := by decide
  unfold f_X9_enterNow
  refine wp_bd (s_X9_isPerson   o_me p0  hI_me  ) (fun z1 hz1 => ?_)
  obtain ⟨hz1_0, hz1_1⟩ := hz1
  refine wp_if (fun c2 => ?_) (fun c2 => ?_)
  · have c2 := cv_eq (a := z1.toInt) (b := 0) rfl (by decide) c2
    refine wp_some ?_
    exact (show ((-2) ≤ (-2 : Int32).toInt ∧ (-2 : Int32).toInt ≤ 1) ∧ IvX9 o_me ∧ Kp [1, 11, 13, 14, 15, 16, 18, 19, 20, 21, 23, 26, 29, 34, 38, 43, 56, 57, 58, 59, 62] [2, 4, 5, 10, 12, 22, 24, 25, 27, 28, 42, 48, 50, 51, 55, 61] [(0, 1), (1, 2), (29, 36), (36, 64), (64, 71)] o_me o_me from ⟨⟨by decide, by decide⟩, hI_me, Kp.rf⟩)
  · have c2z := c2
    have c2i := hz1_1 c2
    have c2 := cv_ne (a := z1.toInt) (b := 0) rfl (by decide) c2
    refine wp_bd (s_X9_remember   o_me (1 : Int32)  hI_me  ⟨by decide, by decide⟩) (fun z3 hz3 => ?_)
    obtain ⟨hz3_0, hz3_1⟩ := hz3
    have hkpz3_me : Kp [1, 11, 13, 14, 15, 16, 18, 19, 20, 21, 23, 26, 29, 34, 38, 43, 56, 57, 58, 59, 62] [2, 4, 5, 10, 12, 22, 24, 25, 27, 28, 42, 48, 50, 51, 55, 61] [(0, 1), (1, 2), (29, 36), (36, 64), (64, 71)] o_me z3 := Kp.rf.trans (hz3_1.mono (by decide) (by decide) (by decide))
    have kz3_k4 : (gI z3 20).toInt = (gI o_me 20).toInt := congrArg Int32.toInt (hz3_1.1 20 (by decide))
    have t5 : ((22 : Int32) + p0).toInt = 22 + p0.toInt := i32_add (by decide) rfl (by omega) (by omega)
    refine wp_gd (zin_of (m := 5484) rfl (by omega) (by omega)) ?_
    have t6 := iaX9_3_6 hz3_0 (j := (22 : Int32) + p0) (by omega) (by omega)
    have t7 : ((1 : Int32) - (gA z3 3 ((22 : Int32) + p0).toNatClampNeg)).toInt = 1 - (gA z3 3 ((22 : Int32) + p0).toNatClampNeg).toInt := i32_sub (by decide) rfl (by omega) (by omega)
    refine wp_gd (zin_of (m := 5484) rfl (by omega) (by omega)) ?_
    refine wp_lt (fun o8 eo8 => ?_)
    have hIo8 : IvX9 o8 := by rw [eo8]; exact ibX9_3 hz3_0 (by omega) (by omega) (Or.inr (Or.inl (by first | omega | decide))) (Or.inr (Or.inl (by first | omega | decide))) (Or.inr (Or.inl (by first | omega | decide))) (Or.inr (Or.inl (by first | omega | decide))) (Or.inr (Or.inl (by first | omega | decide))) (Or.inr (Or.inl (by first | omega | decide))) (Or.inr (Or.inr ⟨by omega, by omega⟩)) (Or.inl (by first | omega | decide)) (Or.inl (by first | omega | decide))
    have ko8_k9 : (gI o8 20).toInt = (gI z3 20).toInt := by rw [eo8]; rfl
    have ko8_v : (gA o8 3 ((22 : Int32) + p0).toNatClampNeg).toInt = ((1 : Int32) - (gA z3 3 ((22 : Int32) + p0).toNatClampNeg)).toInt := by rw [eo8]; exact congrArg Int32.toInt (upd_eq (g := gA z3 3) (i := ((22 : Int32) + p0)) (v := ((1 : Int32) - (gA z3 3 ((22 : Int32) + p0).toNatClampNeg))))
    have hkpo8 : Kp [1, 11, 13, 14, 15, 16, 18, 19, 20, 21, 23, 26, 29, 34, 38, 43, 56, 57, 58, 59, 62] [2, 4, 5, 10, 12, 22, 24, 25, 27, 28, 42, 48, 50, 51, 55, 61] [(0, 1), (1, 2), (29, 36), (36, 64), (64, 71)] o_me o8 := hkpz3_me.trans (by rw [eo8]; exact kp_bw (a := 2) (b := 29) (by decide) (by decide) (by omega) (by omega))
    refine wp_gd (zin_of (m := 5484) rfl (by omega) (by omega)) ?_
    refine wp_some ?_
    exact (show ((-2) ≤ (gA o8 3 ((22 : Int32) + p0).toNatClampNeg).toInt ∧ (gA o8 3 ((22 : Int32) + p0).toNatClampNeg).toInt ≤ 1) ∧ IvX9 o8 ∧ Kp [1, 11, 13, 14, 15, 16, 18, 19, 20, 21, 23, 26, 29, 34, 38, 43, 56, 57, 58, 59, 62] [2, 4, 5, 10, 12, 22, 24, 25, 27, 28, 42, 48, 50, 51, 55, 61] [(0, 1), (1, 2), (29, 36), (36, 64), (64, 71)] o_me o8 from ⟨⟨by omega, by omega⟩, hIo8, hkpo8⟩)

set_option maxHeartbeats 4000000 in
set_option maxRecDepth 100000 in
theorem s_X9_takeIt (o_me : Ob) (p0 : Int32) (hI_me : IvX9 o_me) (q0 : 0 ≤ p0.toInt ∧ p0.toInt ≤ 6) : wp (f_X9_takeIt   o_me p0) (fun (y : Ob) => IvX9 y ∧ Kp [1, 8, 11, 13, 14, 15, 16, 18, 19, 20, 21, 23, 26, 29, 34, 38, 43, 56, 57, 58, 59, 62] [2, 4, 5, 7, 10, 12, 22, 24, 25, 27, 28, 42, 48, 50, 51, 55, 61] [(0, 1), (1, 2), (29, 36), (36, 64), (64, 71)] o_me y) := by
  have li0 : (0 : Int32).toInt = 0 := by decide
  have li1 : (15 : Int32).toInt = 15 := by decide
  have li2 : (7 : Int32).toInt = 7 := by decide
  have li3 : (999 : Int32).toInt = 999 := by decide
  unfold f_X9_takeIt
  have t1 : ((15 : Int32) + p0).toInt = 15 + p0.toInt := i32_add (by decide) rfl (by omega) (by omega)
  refine wp_gd (zin_of (m := 5484) rfl (by omega) (by omega)) ?_
  have t2 := iaX9_3_4 hI_me (j := (7 : Int32)) (by decide) (by decide)
  have rg3 := i32_rg ((gA o_me 3 ((15 : Int32) + p0).toNatClampNeg) + (gA o_me 3 (7 : Int32).toNatClampNeg))
  have t4 : (((gA o_me 3 ((15 : Int32) + p0).toNatClampNeg) + (gA o_me 3 (7 : Int32).toNatClampNeg)).toInt64).toInt = ((gA o_me 3 ((15 : Int32) + p0).toNatClampNeg) + (gA o_me 3 (7 : Int32).toNatClampNeg)).toInt := Int32.toInt_toInt64 _
  refine wp_bd (s_X9_within   (((gA o_me 3 ((15 : Int32) + p0).toNatClampNeg) + (gA o_me 3 (7 : Int32).toNatClampNeg)).toInt64) (0 : Int32) (999 : Int32)    (by omega)) (fun z5 hz5 => ?_)
  obtain ⟨hz5_0, hz5_1⟩ := hz5
  refine wp_gd (zin_of (m := 5484) rfl (by omega) (by omega)) ?_
  refine wp_lt (fun o6 eo6 => ?_)
  have hIo6 : IvX9 o6 := by rw [eo6]; exact ibX9_3 hI_me (by omega) (by omega) (Or.inr (Or.inl (by first | omega | decide))) (Or.inr (Or.inl (by first | omega | decide))) (Or.inr (Or.inl (by first | omega | decide))) (Or.inr (Or.inl (by first | omega | decide))) (Or.inr (Or.inl (by first | omega | decide))) (Or.inr (Or.inl (by first | omega | decide))) (Or.inl (by first | omega | decide)) (Or.inl (by first | omega | decide)) (Or.inl (by first | omega | decide))
  have ko6_k7 : (gA o6 3 (7 : Int32).toNatClampNeg).toInt = (gA o_me 3 (7 : Int32).toNatClampNeg).toInt := by rw [eo6]; exact congrArg Int32.toInt (upd_ne (g := gA o_me 3) (i := ((15 : Int32) + p0)) (j := (7 : Int32)) (v := z5) (by omega) (by decide) (by omega))
  have ko6_v : (gA o6 3 ((15 : Int32) + p0).toNatClampNeg).toInt = z5.toInt := by rw [eo6]; exact congrArg Int32.toInt (upd_eq (g := gA o_me 3) (i := ((15 : Int32) + p0)) (v := z5))
  have hkpo6 : Kp [1, 8, 11, 13, 14, 15, 16, 18, 19, 20, 21, 23, 26, 29, 34, 38, 43, 56, 57, 58, 59, 62] [2, 4, 5, 7, 10, 12, 22, 24, 25, 27, 28, 42, 48, 50, 51, 55, 61] [(0, 1), (1, 2), (29, 36), (36, 64), (64, 71)] o_me o6 := Kp.rf.trans (by rw [eo6]; exact kp_bw (a := 2) (b := 29) (by decide) (by decide) (by omega) (by omega))
  refine wp_lt (fun o8 eo8 => ?_)
  have hIo8 : IvX9 o8 := by rw [eo8]; exact ibX9_3 hIo6 (by decide) (by decide) (Or.inr (Or.inl (by first | omega | decide))) (Or.inr (Or.inl (by first | omega | decide))) (Or.inr (Or.inl (by first | omega | decide))) (Or.inr (Or.inl (by first | omega | decide))) (Or.inr (Or.inr ⟨by decide, by decide⟩)) (Or.inl (by first | omega | decide)) (Or.inl (by first | omega | decide)) (Or.inl (by first | omega | decide)) (Or.inl (by first | omega | decide))
  have ko8_k9 : (gA o8 3 ((15 : Int32) + p0).toNatClampNeg).toInt = (gA o6 3 ((15 : Int32) + p0).toNatClampNeg).toInt := by rw [eo8]; exact congrArg Int32.toInt (upd_ne (g := gA o6 3) (i := (7 : Int32)) (j := ((15 : Int32) + p0)) (v := (0 : Int32)) (by decide) (by omega) (by omega))
  have ko8_v : (gA o8 3 (7 : Int32).toNatClampNeg).toInt = 0 := by rw [eo8]; exact (congrArg Int32.toInt (upd_eq (g := gA o6 3) (i := (7 : Int32)) (v := (0 : Int32)))).trans (show ((0 : Int32)).toInt = 0 by decide)
  have hkpo8 : Kp [1, 8, 11, 13, 14, 15, 16, 18, 19, 20, 21, 23, 26, 29, 34, 38, 43, 56, 57, 58, 59, 62] [2, 4, 5, 7, 10, 12, 22, 24, 25, 27, 28, 42, 48, 50, 51, 55, 61] [(0, 1), (1, 2), (29, 36), (36, 64), (64, 71)] o_me o8 := hkpo6.trans (by rw [eo8]; exact kp_bw (a := 7) (b := 8) (by decide) (by decide) (by decide) (by decide))
  refine wp_some ?_
  exact (show IvX9 o8 ∧ Kp [1, 8, 11, 13, 14, 15, 16, 18, 19, 20, 21, 23, 26, 29, 34, 38, 43, 56, 57, 58, 59, 62] [2, 4, 5, 7, 10, 12, 22, 24, 25, 27, 28, 42, 48, 50, 51, 55, 61] [(0, 1), (1, 2), (29, 36), (36, 64), (64, 71)] o_me o8 from ⟨hIo8, hkpo8⟩)

set_option maxHeartbeats 4000000 in
set_option maxRecDepth 100000 in
theorem s_X9_takeNow (o_me : Ob) (p0 : Int32) (hI_me : IvX9 o_me)  : wp (f_X9_takeNow   o_me p0) (fun (y : Int32 × Ob) => ((-3) ≤ y.1.toInt ∧ y.1.toInt ≤ 999) ∧ IvX9 y.2 ∧ Kp [1, 11, 13, 14, 15, 16, 18, 19, 20, 21, 23, 26, 29, 34, 38, 43, 56, 57, 58, 59, 62] [2, 4, 5, 10, 12, 22, 24, 25, 27, 28, 42, 48, 50, 51, 55, 61] [(0, 1), (1, 2), (29, 36), (36, 64), (64, 71)] o_me y.2) := by
  have li0 : (-2 : Int32).toInt = (-2) := by decide
  have li1 : (-3 : Int32).toInt = (-3) := by decide
  have li2 : (2 : Int32).toInt = 2 := by decide
  have li3 : (7 : Int32).toInt = 7 := by decide
  unfold f_X9_takeNow
  refine wp_bd (s_X9_isPerson   o_me p0  hI_me  ) (fun z1 hz1 => ?_)
  obtain ⟨hz1_0, hz1_1⟩ := hz1
  refine wp_if (fun c2 => ?_) (fun c2 => ?_)
  · have c2 := cv_eq (a := z1.toInt) (b := 0) rfl (by decide) c2
    refine wp_some ?_
    exact (show ((-3) ≤ (-2 : Int32).toInt ∧ (-2 : Int32).toInt ≤ 999) ∧ IvX9 o_me ∧ Kp [1, 11, 13, 14, 15, 16, 18, 19, 20, 21, 23, 26, 29, 34, 38, 43, 56, 57, 58, 59, 62] [2, 4, 5, 10, 12, 22, 24, 25, 27, 28, 42, 48, 50, 51, 55, 61] [(0, 1), (1, 2), (29, 36), (36, 64), (64, 71)] o_me o_me from ⟨⟨by decide, by decide⟩, hI_me, Kp.rf⟩)
  · have c2z := c2
    have c2i := hz1_1 c2
    have c2 := cv_ne (a := z1.toInt) (b := 0) rfl (by decide) c2
    have t3 := iaX9_3_4 hI_me (j := (7 : Int32)) (by decide) (by decide)
    refine wp_lt (fun x4 ex4 => ?_)
    have tx4 : x4.toInt = (gA o_me 3 (7 : Int32).toNatClampNeg).toInt := by rw [ex4]
    refine wp_if (fun c5 => ?_) (fun c5 => ?_)
    · have c5 := cv_eq (a := x4.toInt) (b := 0) rfl (by decide) c5
      refine wp_some ?_
      exact (show ((-3) ≤ (-3 : Int32).toInt ∧ (-3 : Int32).toInt ≤ 999) ∧ IvX9 o_me ∧ Kp [1, 11, 13, 14, 15, 16, 18, 19, 20, 21, 23, 26, 29, 34, 38, 43, 56, 57, 58, 59, 62] [2, 4, 5, 10, 12, 22, 24, 25, 27, 28, 42, 48, 50, 51, 55, 61] [(0, 1), (1, 2), (29, 36), (36, 64), (64, 71)] o_me o_me from ⟨⟨by decide, by decide⟩, hI_me, Kp.rf⟩)
    · have c5z := c5
      have c5 := cv_ne (a := x4.toInt) (b := 0) rfl (by decide) c5
      refine wp_bd (s_X9_remember   o_me (2 : Int32)  hI_me  ⟨by decide, by decide⟩) (fun z6 hz6 => ?_)
      obtain ⟨hz6_0, hz6_1⟩ := hz6
      have hkpz6_me : Kp [1, 11, 13, 14, 15, 16, 18, 19, 20, 21, 23, 26, 29, 34, 38, 43, 56, 57, 58, 59, 62] [2, 4, 5, 10, 12, 22, 24, 25, 27, 28, 42, 48, 50, 51, 55, 61] [(0, 1), (1, 2), (29, 36), (36, 64), (64, 71)] o_me z6 := Kp.rf.trans (hz6_1.mono (by decide) (by decide) (by decide))
      have kz6_k7 : (gA z6 3 (7 : Int32).toNatClampNeg).toInt = (gA o_me 3 (7 : Int32).toNatClampNeg).toInt := congrArg (fun g => (g (7 : Int32).toNatClampNeg).toInt) (hz6_1.2.1 3 (by decide))
      refine wp_bd (s_X9_takeIt   z6 p0  hz6_0  ⟨by omega, by omega⟩) (fun z8 hz8 => ?_)
      obtain ⟨hz8_0, hz8_1⟩ := hz8
      have hkpz8_me : Kp [1, 11, 13, 14, 15, 16, 18, 19, 20, 21, 23, 26, 29, 34, 38, 43, 56, 57, 58, 59, 62] [2, 4, 5, 10, 12, 22, 24, 25, 27, 28, 42, 48, 50, 51, 55, 61] [(0, 1), (1, 2), (29, 36), (36, 64), (64, 71)] o_me z8 := hkpz6_me.trans (hz8_1.mono (by decide) (by decide) (by decide))
      refine wp_some ?_
      exact (show ((-3) ≤ x4.toInt ∧ x4.toInt ≤ 999) ∧ IvX9 z8 ∧ Kp [1, 11, 13, 14, 15, 16, 18, 19, 20, 21, 23, 26, 29, 34, 38, 43, 56, 57, 58, 59, 62] [2, 4, 5, 10, 12, 22, 24, 25, 27, 28, 42, 48, 50, 51, 55, 61] [(0, 1), (1, 2), (29, 36), (36, 64), (64, 71)] o_me z8 from ⟨⟨by omega, by omega⟩, hz8_0, hkpz8_me⟩)

set_option maxHeartbeats 4000000 in
set_option maxRecDepth 100000 in
theorem s_X9_hasLike (o_me : Ob) (p0 : Int32) (hI_me : IvX9 o_me) (q0 : 0 ≤ p0.toInt ∧ p0.toInt ≤ 6) : wp (f_X9_hasLike   o_me p0) (fun (y : Int32) => (0 ≤ y.toInt ∧ y.toInt ≤ 1)) := by
  have li0 : (0 : Int32).toInt = 0 := by decide
  have li1 : (1 : Int32).toInt = 1 := by decide
  have li2 : (8 : Int32).toInt = 8 := by decide
  unfold f_X9_hasLike
  have lp1 : ∀ (N1 : Nat) (v1_1 : Int32) (v2_1 : Int32) (v3_1 : Int32), (0 ≤ v1_1.toInt ∧ v1_1.toInt ≤ 6) → (0 ≤ v2_1.toInt ∧ v2_1.toInt ≤ 1) → (0 ≤ v3_1.toInt ∧ v3_1.toInt ≤ 6) → (v2_1.toInt ≤ v1_1.toInt + 0) → (v2_1.toInt ≤ v3_1.toInt + 0) → (v3_1.toInt ≤ v1_1.toInt + 0) → (v1_1.toInt ≤ p0.toInt + 0) → (p0.toInt ≤ v1_1.toInt + 0) → (v2_1.toInt ≤ p0.toInt + 0) → (v3_1.toInt ≤ p0.toInt + 0) → (6 - v3_1.toInt).toNat < N1 → wp (lp_X9_hasLike_4 o_me  N1 (v1_1, v2_1, v3_1)) (fun (y : Int32) => (0 ≤ y.toInt ∧ y.toInt ≤ 1)) := by
    intro N1
    induction N1 with
    | zero =>
      intro v1_1 v2_1 v3_1 hh1 hh2 hh3 hh4 hh5 hh6 hh7 hh8 hh9 hh10 hN1
      exact absurd hN1 (Nat.not_lt_zero _)
    | succ N1 ihx =>
      have ih1 := ihx
      intro v1_1 v2_1 v3_1 hh1 hh2 hh3 hh4 hh5 hh6 hh7 hh8 hh9 hh10 hN1
      show wp (lb_X9_hasLike_4 o_me  (lp_X9_hasLike_4 o_me  N1) v1_1 v2_1 v3_1) (fun (y : Int32) => (0 ≤ y.toInt ∧ y.toInt ≤ 1))
      unfold lb_X9_hasLike_4
      refine wp_if (fun c11 => ?_) (fun c11 => ?_)
      · have c11 := cv_ge (a := v3_1.toInt) (b := v1_1.toInt) rfl rfl c11
        refine wp_gd (zbo_of (by omega) (by omega)) ?_
        refine wp_some ?_
        exact (show (0 ≤ v2_1.toInt ∧ v2_1.toInt ≤ 1) from ⟨by omega, by omega⟩)
      · have c11 := cv_nge (a := v3_1.toInt) (b := v1_1.toInt) rfl rfl c11
        refine wp_if (fun c12 => ?_) (fun c12 => ?_)
        · have c12 := cv_eq (a := v2_1.toInt) (b := 0) rfl (by decide) c12
          have t13 : ((8 : Int32) + v3_1).toInt = 8 + v3_1.toInt := i32_add (by decide) rfl (by omega) (by omega)
          refine wp_gd (zin_of (m := 5484) rfl (by omega) (by omega)) ?_
          have t14 := iaX9_3_5 hI_me (j := (8 : Int32) + v3_1) (by omega) (by omega)
          have t15 : ((8 : Int32) + v1_1).toInt = 8 + v1_1.toInt := i32_add (by decide) rfl (by omega) (by omega)
          refine wp_gd (zin_of (m := 5484) rfl (by omega) (by omega)) ?_
          have t16 := iaX9_3_5 hI_me (j := (8 : Int32) + v1_1) (by omega) (by omega)
          refine wp_if (fun c17 => ?_) (fun c17 => ?_)
          · have c17 := cv_eq (a := (gA o_me 3 ((8 : Int32) + v3_1).toNatClampNeg).toInt) (b := (gA o_me 3 ((8 : Int32) + v1_1).toNatClampNeg).toInt) rfl rfl c17
            unfold bk_X9_hasLike_34
            obtain ⟨w18, ew18⟩ : ∃ z : Int32, z = (1 : Int32) := ⟨_, rfl⟩
            have tw18 : w18.toInt = 1 := by rw [ew18]; decide
            rw [show bk_X9_hasLike_39 o_me (lp_X9_hasLike_4 o_me  N1) v1_1 v3_1 (1 : Int32) = bk_X9_hasLike_39 o_me (lp_X9_hasLike_4 o_me  N1) v1_1 v3_1 w18 from by rw [ew18]]
            unfold bk_X9_hasLike_39
            refine wp_lt (fun x19 ex19 => ?_)
            have tx19 : x19.toInt = v3_1.toInt + 1 := by rw [ex19]; exact i32_add rfl (by decide) (by omega) (by omega)
            exact ih1 v1_1 w18 x19  ⟨by omega, by omega⟩ ⟨by omega, by omega⟩ ⟨by omega, by omega⟩ (by omega) (by omega) (by omega) (by omega) (by omega) (by omega) (by omega) (by omega)
          · have c17 := cv_ne (a := (gA o_me 3 ((8 : Int32) + v3_1).toNatClampNeg).toInt) (b := (gA o_me 3 ((8 : Int32) + v1_1).toNatClampNeg).toInt) rfl rfl c17
            obtain ⟨w20, ew20⟩ : ∃ z : Int32, z = (0 : Int32) := ⟨_, rfl⟩
            have tw20 : w20.toInt = 0 := by rw [ew20]; decide
            rw [show bk_X9_hasLike_39 o_me (lp_X9_hasLike_4 o_me  N1) v1_1 v3_1 (0 : Int32) = bk_X9_hasLike_39 o_me (lp_X9_hasLike_4 o_me  N1) v1_1 v3_1 w20 from by rw [ew20]]
            unfold bk_X9_hasLike_39
            refine wp_lt (fun x21 ex21 => ?_)
            have tx21 : x21.toInt = v3_1.toInt + 1 := by rw [ex21]; exact i32_add rfl (by decide) (by omega) (by omega)
            exact ih1 v1_1 w20 x21  ⟨by omega, by omega⟩ ⟨by omega, by omega⟩ ⟨by omega, by omega⟩ (by omega) (by omega) (by omega) (by omega) (by omega) (by omega) (by omega) (by omega)
        · have c12z := c12
          have c12 := cv_ne (a := v2_1.toInt) (b := 0) rfl (by decide) c12
          unfold bk_X9_hasLike_34
          obtain ⟨w22, ew22⟩ : ∃ z : Int32, z = (1 : Int32) := ⟨_, rfl⟩
          have tw22 : w22.toInt = 1 := by rw [ew22]; decide
          rw [show bk_X9_hasLike_39 o_me (lp_X9_hasLike_4 o_me  N1) v1_1 v3_1 (1 : Int32) = bk_X9_hasLike_39 o_me (lp_X9_hasLike_4 o_me  N1) v1_1 v3_1 w22 from by rw [ew22]]
          unfold bk_X9_hasLike_39
          refine wp_lt (fun x23 ex23 => ?_)
          have tx23 : x23.toInt = v3_1.toInt + 1 := by rw [ex23]; exact i32_add rfl (by decide) (by omega) (by omega)
          exact ih1 v1_1 w22 x23  ⟨by omega, by omega⟩ ⟨by omega, by omega⟩ ⟨by omega, by omega⟩ (by omega) (by omega) (by omega) (by omega) (by omega) (by omega) (by omega) (by omega)
  exact lp1 zfu p0 (0 : Int32) (0 : Int32)  ⟨by omega, by omega⟩ ⟨by decide, by decide⟩ ⟨by decide, by decide⟩ (by omega) (by omega) (by omega) (by omega) (by omega) (by omega) (by omega) (by show _ < 100000; omega)

set_option maxHeartbeats 4000000 in
set_option maxRecDepth 100000 in
theorem s_X9_passIt (o_me : Ob) (hI_me : IvX9 o_me) (q0 : 0 ≤ (gI o_me 20).toInt ∧ (gI o_me 20).toInt ≤ 0) : wp (f_X9_passIt   o_me) (fun (y : Int32 × Ob) => (0 ≤ y.1.toInt ∧ y.1.toInt ≤ 7) ∧ IvX9 y.2 ∧ Kp [1, 8, 11, 13, 14, 15, 16, 18, 19, 20, 21, 23, 26, 29, 43, 56, 57, 58, 59, 62] [2, 4, 5, 7, 10, 12, 22, 24, 25, 27, 28, 42, 48, 50, 51, 55, 61] [(0, 1), (1, 2), (29, 36), (36, 64), (64, 71)] o_me y.2) := by
  have li0 : (0 : Int32).toInt = 0 := by decide
  have li1 : (1 : Int32).toInt = 1 := by decide
  have li2 : (4 : Int32).toInt = 4 := by decide
  have li3 : (8 : Int32).toInt = 8 := by decide
  unfold f_X9_passIt
  have lp1 : ∀ (N1 : Nat) (v1_1 : Int32) (v2_1 : Int32) (o_me_1 : Ob), IvX9 o_me_1 → Kp [1, 8, 11, 13, 14, 15, 16, 18, 19, 20, 21, 23, 26, 29, 43, 56, 57, 58, 59, 62] [2, 4, 5, 7, 10, 12, 22, 24, 25, 27, 28, 42, 48, 50, 51, 55, 61] [(0, 1), (1, 2), (29, 36), (36, 64), (64, 71)] o_me o_me_1 → (0 ≤ v1_1.toInt ∧ v1_1.toInt ≤ 7) → (0 ≤ v2_1.toInt ∧ v2_1.toInt ≤ 7) → (0 ≤ (gI o_me_1 20).toInt ∧ (gI o_me_1 20).toInt ≤ 0) → (v1_1.toInt ≤ v2_1.toInt + 0) → (7 - v2_1.toInt).toNat < N1 → wp (lp_X9_passIt_4   N1 (v1_1, v2_1, o_me_1)) (fun (y : Int32 × Ob) => (0 ≤ y.1.toInt ∧ y.1.toInt ≤ 7) ∧ IvX9 y.2 ∧ Kp [1, 8, 11, 13, 14, 15, 16, 18, 19, 20, 21, 23, 26, 29, 43, 56, 57, 58, 59, 62] [2, 4, 5, 7, 10, 12, 22, 24, 25, 27, 28, 42, 48, 50, 51, 55, 61] [(0, 1), (1, 2), (29, 36), (36, 64), (64, 71)] o_me y.2) := by
    intro N1
    induction N1 with
    | zero =>
      intro v1_1 v2_1 o_me_1 hI_me_1 hkp_me_1 hh2 hh3 hh4 hh5 hN1
      exact absurd hN1 (Nat.not_lt_zero _)
    | succ N1 ihx =>
      have ih1 := ihx
      intro v1_1 v2_1 o_me_1 hI_me_1 hkp_me_1 hh2 hh3 hh4 hh5 hN1
      show wp (lb_X9_passIt_4   (lp_X9_passIt_4   N1) v1_1 v2_1 o_me_1) (fun (y : Int32 × Ob) => (0 ≤ y.1.toInt ∧ y.1.toInt ≤ 7) ∧ IvX9 y.2 ∧ Kp [1, 8, 11, 13, 14, 15, 16, 18, 19, 20, 21, 23, 26, 29, 43, 56, 57, 58, 59, 62] [2, 4, 5, 7, 10, 12, 22, 24, 25, 27, 28, 42, 48, 50, 51, 55, 61] [(0, 1), (1, 2), (29, 36), (36, 64), (64, 71)] o_me y.2)
      unfold lb_X9_passIt_4
      have kc6 : (gA o_me_1 3 (0 : Int32).toNatClampNeg).toInt = (gA o_me 3 (0 : Int32).toNatClampNeg).toInt := congrArg Int32.toInt (hkp_me_1.2.2 (0, 1) (by decide) (0 : Int32).toNatClampNeg (by decide) (by decide))
      have t7 := iaX9_3_0 hI_me_1 (j := (0 : Int32)) (by decide) (by decide)
      refine wp_if (fun c8 => ?_) (fun c8 => ?_)
      · have c8 := cv_ge (a := v2_1.toInt) (b := (gA o_me_1 3 (0 : Int32).toNatClampNeg).toInt) rfl rfl c8
        refine wp_lt (fun o9 eo9 => ?_)
        have hIo9 : IvX9 o9 := by rw [eo9]; exact ibX9_3 hI_me_1 (by decide) (by decide) (Or.inr (Or.inl (by first | omega | decide))) (Or.inr (Or.inl (by first | omega | decide))) (Or.inr (Or.inl (by first | omega | decide))) (Or.inr (Or.inl (by first | omega | decide))) (Or.inl (by first | omega | decide)) (Or.inl (by first | omega | decide)) (Or.inl (by first | omega | decide)) (Or.inl (by first | omega | decide)) (Or.inl (by first | omega | decide))
        have ko9_k10 : (gA o9 3 (0 : Int32).toNatClampNeg).toInt = (gA o_me_1 3 (0 : Int32).toNatClampNeg).toInt := by rw [eo9]; exact congrArg Int32.toInt (upd_ne (g := gA o_me_1 3) (i := (4 : Int32)) (j := (0 : Int32)) (v := ((gA o_me_1 3 (4 : Int32).toNatClampNeg) + (1 : Int32))) (by decide) (by decide) (by decide))
        have ko9_k11 : (gI o9 20).toInt = (gI o_me_1 20).toInt := by rw [eo9]; rfl
        have ko9_v : (gA o9 3 (4 : Int32).toNatClampNeg).toInt = ((gA o_me_1 3 (4 : Int32).toNatClampNeg) + (1 : Int32)).toInt := by rw [eo9]; exact congrArg Int32.toInt (upd_eq (g := gA o_me_1 3) (i := (4 : Int32)) (v := ((gA o_me_1 3 (4 : Int32).toNatClampNeg) + (1 : Int32))))
        have hkpo9 : Kp [1, 8, 11, 13, 14, 15, 16, 18, 19, 20, 21, 23, 26, 29, 43, 56, 57, 58, 59, 62] [2, 4, 5, 7, 10, 12, 22, 24, 25, 27, 28, 42, 48, 50, 51, 55, 61] [(0, 1), (1, 2), (29, 36), (36, 64), (64, 71)] o_me o9 := hkp_me_1.trans (by rw [eo9]; exact kp_bw (a := 4) (b := 5) (by decide) (by decide) (by decide) (by decide))
        refine wp_some ?_
        exact (show (0 ≤ v1_1.toInt ∧ v1_1.toInt ≤ 7) ∧ IvX9 o9 ∧ Kp [1, 8, 11, 13, 14, 15, 16, 18, 19, 20, 21, 23, 26, 29, 43, 56, 57, 58, 59, 62] [2, 4, 5, 7, 10, 12, 22, 24, 25, 27, 28, 42, 48, 50, 51, 55, 61] [(0, 1), (1, 2), (29, 36), (36, 64), (64, 71)] o_me o9 from ⟨⟨by omega, by omega⟩, hIo9, hkpo9⟩)
      · have c8 := cv_nge (a := v2_1.toInt) (b := (gA o_me_1 3 (0 : Int32).toNatClampNeg).toInt) rfl rfl c8
        refine wp_bd (s_X9_hasLike   o_me_1 v2_1  hI_me_1  ⟨by omega, by omega⟩) (fun z12 hz12 => ?_)
        have hz12_0 := hz12
        refine wp_if (fun c13 => ?_) (fun c13 => ?_)
        · have c13 := cv_eq (a := z12.toInt) (b := 0) rfl (by decide) c13
          unfold bk_X9_passIt_40
          refine wp_lt (fun x14 ex14 => ?_)
          have tx14 : x14.toInt = v2_1.toInt + 1 := by rw [ex14]; exact i32_add rfl (by decide) (by omega) (by omega)
          exact ih1 v1_1 x14 o_me_1 hI_me_1 hkp_me_1 ⟨by omega, by omega⟩ ⟨by omega, by omega⟩ ⟨by omega, by omega⟩ (by omega) (by omega)
        · have c13z := c13
          have c13 := cv_ne (a := z12.toInt) (b := 0) rfl (by decide) c13
          have t15 : ((8 : Int32) + v2_1).toInt = 8 + v2_1.toInt := i32_add (by decide) rfl (by omega) (by omega)
          refine wp_bd (s_X9_turnsOf   o_me_1 v2_1 (0 : Int32)  hI_me_1  ⟨by omega, by omega⟩ ⟨by decide, by decide⟩ ⟨by omega, by omega⟩) (fun z16 hz16 => ?_)
          obtain ⟨hz16_0, hz16_1, hz16_2⟩ := hz16
          have hkpz16_me : Kp [1, 8, 11, 13, 14, 15, 16, 18, 19, 20, 21, 23, 26, 29, 43, 56, 57, 58, 59, 62] [2, 4, 5, 7, 10, 12, 22, 24, 25, 27, 28, 42, 48, 50, 51, 55, 61] [(0, 1), (1, 2), (29, 36), (36, 64), (64, 71)] o_me z16.2 := hkp_me_1.trans (hz16_2.mono (by decide) (by decide) (by decide))
          have kz16_k17 : (gA z16.2 3 (0 : Int32).toNatClampNeg).toInt = (gA o_me_1 3 (0 : Int32).toNatClampNeg).toInt := congrArg (fun g => (g (0 : Int32).toNatClampNeg).toInt) (hz16_2.2.1 3 (by decide))
          have kz16_k18 : (gI z16.2 20).toInt = (gI o_me_1 20).toInt := congrArg Int32.toInt (hz16_2.1 20 (by decide))
          refine wp_gd (zin_of (m := 5484) rfl (by omega) (by omega)) ?_
          refine wp_lt (fun o19 eo19 => ?_)
          have hIo19 : IvX9 o19 := by rw [eo19]; exact ibX9_3 hz16_1 (by omega) (by omega) (Or.inr (Or.inl (by first | omega | decide))) (Or.inr (Or.inl (by first | omega | decide))) (Or.inr (Or.inl (by first | omega | decide))) (Or.inr (Or.inl (by first | omega | decide))) (Or.inr (Or.inl (by first | omega | decide))) (Or.inr (Or.inr ⟨by omega, by omega⟩)) (Or.inl (by first | omega | decide)) (Or.inl (by first | omega | decide)) (Or.inl (by first | omega | decide))
          have ko19_k20 : (gA o19 3 (0 : Int32).toNatClampNeg).toInt = (gA z16.2 3 (0 : Int32).toNatClampNeg).toInt := by rw [eo19]; exact congrArg Int32.toInt (upd_ne (g := gA z16.2 3) (i := ((8 : Int32) + v2_1)) (j := (0 : Int32)) (v := z16.1) (by omega) (by decide) (by omega))
          have ko19_k21 : (gI o19 20).toInt = (gI z16.2 20).toInt := by rw [eo19]; rfl
          have ko19_v : (gA o19 3 ((8 : Int32) + v2_1).toNatClampNeg).toInt = z16.1.toInt := by rw [eo19]; exact congrArg Int32.toInt (upd_eq (g := gA z16.2 3) (i := ((8 : Int32) + v2_1)) (v := z16.1))
          have hkpo19 : Kp [1, 8, 11, 13, 14, 15, 16, 18, 19, 20, 21, 23, 26, 29, 43, 56, 57, 58, 59, 62] [2, 4, 5, 7, 10, 12, 22, 24, 25, 27, 28, 42, 48, 50, 51, 55, 61] [(0, 1), (1, 2), (29, 36), (36, 64), (64, 71)] o_me o19 := hkpz16_me.trans (by rw [eo19]; exact kp_bw (a := 2) (b := 29) (by decide) (by decide) (by omega) (by omega))
          refine wp_lt (fun x22 ex22 => ?_)
          have tx22 : x22.toInt = v1_1.toInt + 1 := by rw [ex22]; exact i32_add rfl (by decide) (by omega) (by omega)
          unfold bk_X9_passIt_40
          refine wp_lt (fun x23 ex23 => ?_)
          have tx23 : x23.toInt = v2_1.toInt + 1 := by rw [ex23]; exact i32_add rfl (by decide) (by omega) (by omega)
          exact ih1 x22 x23 o19 hIo19 hkpo19 ⟨by omega, by omega⟩ ⟨by omega, by omega⟩ ⟨by omega, by omega⟩ (by omega) (by omega)
  exact lp1 zfu (0 : Int32) (0 : Int32) o_me hI_me Kp.rf ⟨by decide, by decide⟩ ⟨by decide, by decide⟩ ⟨by omega, by omega⟩ (by omega) (by show _ < 100000; omega)

set_option maxHeartbeats 4000000 in
set_option maxRecDepth 100000 in
theorem s_X9_passNow (o_me : Ob) (hI_me : IvX9 o_me) (q0 : 0 ≤ (gI o_me 20).toInt ∧ (gI o_me 20).toInt ≤ 0) : wp (f_X9_passNow   o_me) (fun (y : Int32 × Ob) => ((-3) ≤ y.1.toInt ∧ y.1.toInt ≤ 7) ∧ IvX9 y.2 ∧ Kp [1, 11, 13, 14, 15, 16, 18, 19, 20, 21, 23, 26, 29, 43, 56, 57, 58, 59, 62] [2, 4, 5, 10, 12, 22, 24, 25, 27, 28, 42, 48, 50, 51, 55, 61] [(0, 1), (1, 2), (29, 36), (36, 64), (64, 71)] o_me y.2) := by
  have li0 : (-3 : Int32).toInt = (-3) := by decide
  have li1 : (3 : Int32).toInt = 3 := by decide
  have li2 : (4 : Int32).toInt = 4 := by decide
  have li3 : (999 : Int32).toInt = 999 := by decide
  unfold f_X9_passNow
  refine wp_if (fun c1 => ?_) (fun c1 => ?_)
  · have c1 := cv_eq (a := (gA o_me 3 (4 : Int32).toNatClampNeg).toInt) (b := 999) rfl (by decide) c1
    refine wp_some ?_
    exact (show ((-3) ≤ (-3 : Int32).toInt ∧ (-3 : Int32).toInt ≤ 7) ∧ IvX9 o_me ∧ Kp [1, 11, 13, 14, 15, 16, 18, 19, 20, 21, 23, 26, 29, 43, 56, 57, 58, 59, 62] [2, 4, 5, 10, 12, 22, 24, 25, 27, 28, 42, 48, 50, 51, 55, 61] [(0, 1), (1, 2), (29, 36), (36, 64), (64, 71)] o_me o_me from ⟨⟨by decide, by decide⟩, hI_me, Kp.rf⟩)
  · have c1 := cv_ne (a := (gA o_me 3 (4 : Int32).toNatClampNeg).toInt) (b := 999) rfl (by decide) c1
    refine wp_bd (s_X9_remember   o_me (3 : Int32)  hI_me  ⟨by decide, by decide⟩) (fun z2 hz2 => ?_)
    obtain ⟨hz2_0, hz2_1⟩ := hz2
    have hkpz2_me : Kp [1, 11, 13, 14, 15, 16, 18, 19, 20, 21, 23, 26, 29, 43, 56, 57, 58, 59, 62] [2, 4, 5, 10, 12, 22, 24, 25, 27, 28, 42, 48, 50, 51, 55, 61] [(0, 1), (1, 2), (29, 36), (36, 64), (64, 71)] o_me z2 := Kp.rf.trans (hz2_1.mono (by decide) (by decide) (by decide))
    have kz2_k3 : (gA z2 3 (4 : Int32).toNatClampNeg).toInt = (gA o_me 3 (4 : Int32).toNatClampNeg).toInt := congrArg (fun g => (g (4 : Int32).toNatClampNeg).toInt) (hz2_1.2.1 3 (by decide))
    have kz2_k4 : (gI z2 20).toInt = (gI o_me 20).toInt := congrArg Int32.toInt (hz2_1.1 20 (by decide))
    refine wp_bd (s_X9_passIt   z2  hz2_0  ⟨by omega, by omega⟩) (fun z5 hz5 => ?_)
    obtain ⟨hz5_0, hz5_1, hz5_2⟩ := hz5
    have hkpz5_me : Kp [1, 11, 13, 14, 15, 16, 18, 19, 20, 21, 23, 26, 29, 43, 56, 57, 58, 59, 62] [2, 4, 5, 10, 12, 22, 24, 25, 27, 28, 42, 48, 50, 51, 55, 61] [(0, 1), (1, 2), (29, 36), (36, 64), (64, 71)] o_me z5.2 := hkpz2_me.trans (hz5_2.mono (by decide) (by decide) (by decide))
    have kz5_k6 : (gI z5.2 20).toInt = (gI z2 20).toInt := congrArg Int32.toInt (hz5_2.1 20 (by decide))
    refine wp_some ?_
    exact (show ((-3) ≤ z5.1.toInt ∧ z5.1.toInt ≤ 7) ∧ IvX9 z5.2 ∧ Kp [1, 11, 13, 14, 15, 16, 18, 19, 20, 21, 23, 26, 29, 43, 56, 57, 58, 59, 62] [2, 4, 5, 10, 12, 22, 24, 25, 27, 28, 42, 48, 50, 51, 55, 61] [(0, 1), (1, 2), (29, 36), (36, 64), (64, 71)] o_me z5.2 from ⟨⟨by omega, by omega⟩, hz5_1, hkpz5_me⟩)

set_option maxHeartbeats 4000000 in
set_option maxRecDepth 100000 in
theorem s_X9_act (o_me : Ob) (p0 : Int32) (p1 : Int32) (hI_me : IvX9 o_me) (q0 : 0 ≤ (gI o_me 20).toInt ∧ (gI o_me 20).toInt ≤ 0) : wp (f_X9_act   o_me p0 p1) (fun (y : Int32 × Ob) => ((-3) ≤ y.1.toInt ∧ y.1.toInt ≤ 999) ∧ IvX9 y.2 ∧ Kp [1, 11, 13, 14, 15, 16, 18, 19, 20, 21, 23, 26, 29, 56, 57, 58, 59, 62] [2, 4, 5, 10, 12, 22, 24, 25, 27, 28, 48, 50, 51, 55, 61] [(0, 1), (1, 2), (29, 36), (36, 64), (64, 71)] o_me y.2) := by
  unfold f_X9_act
  refine wp_if (fun c1 => ?_) (fun c1 => ?_)
  · have c1 := cv_eq (a := p0.toInt) (b := 0) rfl (by decide) c1
    refine wp_bd (s_X9_raceNow   o_me p1  hI_me  ⟨by omega, by omega⟩) (fun z2 hz2 => ?_)
    obtain ⟨hz2_0, hz2_1, hz2_2⟩ := hz2
    have hkpz2_me : Kp [1, 11, 13, 14, 15, 16, 18, 19, 20, 21, 23, 26, 29, 56, 57, 58, 59, 62] [2, 4, 5, 10, 12, 22, 24, 25, 27, 28, 48, 50, 51, 55, 61] [(0, 1), (1, 2), (29, 36), (36, 64), (64, 71)] o_me z2.2 := Kp.rf.trans (hz2_2.mono (by decide) (by decide) (by decide))
    have kz2_k3 : (gI z2.2 20).toInt = (gI o_me 20).toInt := congrArg Int32.toInt (hz2_2.1 20 (by decide))
    refine wp_some ?_
    exact (show ((-3) ≤ z2.1.toInt ∧ z2.1.toInt ≤ 999) ∧ IvX9 z2.2 ∧ Kp [1, 11, 13, 14, 15, 16, 18, 19, 20, 21, 23, 26, 29, 56, 57, 58, 59, 62] [2, 4, 5, 10, 12, 22, 24, 25, 27, 28, 48, 50, 51, 55, 61] [(0, 1), (1, 2), (29, 36), (36, 64), (64, 71)] o_me z2.2 from ⟨⟨by omega, by omega⟩, hz2_1, hkpz2_me⟩)
  have c1 := cv_ne (a := p0.toInt) (b := 0) rfl (by decide) c1
  refine wp_if (fun c4 => ?_) (fun c4 => ?_)
  · have c4 := cv_eq (a := p0.toInt) (b := 1) rfl (by decide) c4
    refine wp_bd (s_X9_enterNow   o_me p1  hI_me  ⟨by omega, by omega⟩) (fun z5 hz5 => ?_)
    obtain ⟨hz5_0, hz5_1, hz5_2⟩ := hz5
    have hkpz5_me : Kp [1, 11, 13, 14, 15, 16, 18, 19, 20, 21, 23, 26, 29, 56, 57, 58, 59, 62] [2, 4, 5, 10, 12, 22, 24, 25, 27, 28, 48, 50, 51, 55, 61] [(0, 1), (1, 2), (29, 36), (36, 64), (64, 71)] o_me z5.2 := Kp.rf.trans (hz5_2.mono (by decide) (by decide) (by decide))
    have kz5_k6 : (gI z5.2 20).toInt = (gI o_me 20).toInt := congrArg Int32.toInt (hz5_2.1 20 (by decide))
    refine wp_some ?_
    exact (show ((-3) ≤ z5.1.toInt ∧ z5.1.toInt ≤ 999) ∧ IvX9 z5.2 ∧ Kp [1, 11, 13, 14, 15, 16, 18, 19, 20, 21, 23, 26, 29, 56, 57, 58, 59, 62] [2, 4, 5, 10, 12, 22, 24, 25, 27, 28, 48, 50, 51, 55, 61] [(0, 1), (1, 2), (29, 36), (36, 64), (64, 71)] o_me z5.2 from ⟨⟨by omega, by omega⟩, hz5_1, hkpz5_me⟩)
  have c4 := cv_ne (a := p0.toInt) (b := 1) rfl (by decide) c4
  refine wp_if (fun c7 => ?_) (fun c7 => ?_)
  · have c7 := cv_eq (a := p0.toInt) (b := 2) rfl (by decide) c7
    refine wp_bd (s_X9_takeNow   o_me p1  hI_me  ) (fun z8 hz8 => ?_)
    obtain ⟨hz8_0, hz8_1, hz8_2⟩ := hz8
    have hkpz8_me : Kp [1, 11, 13, 14, 15, 16, 18, 19, 20, 21, 23, 26, 29, 56, 57, 58, 59, 62] [2, 4, 5, 10, 12, 22, 24, 25, 27, 28, 48, 50, 51, 55, 61] [(0, 1), (1, 2), (29, 36), (36, 64), (64, 71)] o_me z8.2 := Kp.rf.trans (hz8_2.mono (by decide) (by decide) (by decide))
    have kz8_k9 : (gI z8.2 20).toInt = (gI o_me 20).toInt := congrArg Int32.toInt (hz8_2.1 20 (by decide))
    refine wp_some ?_
    exact (show ((-3) ≤ z8.1.toInt ∧ z8.1.toInt ≤ 999) ∧ IvX9 z8.2 ∧ Kp [1, 11, 13, 14, 15, 16, 18, 19, 20, 21, 23, 26, 29, 56, 57, 58, 59, 62] [2, 4, 5, 10, 12, 22, 24, 25, 27, 28, 48, 50, 51, 55, 61] [(0, 1), (1, 2), (29, 36), (36, 64), (64, 71)] o_me z8.2 from ⟨⟨by omega, by omega⟩, hz8_1, hkpz8_me⟩)
  have c7 := cv_ne (a := p0.toInt) (b := 2) rfl (by decide) c7
  refine wp_bd (s_X9_passNow   o_me  hI_me  ⟨by omega, by omega⟩) (fun z10 hz10 => ?_)
  obtain ⟨hz10_0, hz10_1, hz10_2⟩ := hz10
  have hkpz10_me : Kp [1, 11, 13, 14, 15, 16, 18, 19, 20, 21, 23, 26, 29, 56, 57, 58, 59, 62] [2, 4, 5, 10, 12, 22, 24, 25, 27, 28, 48, 50, 51, 55, 61] [(0, 1), (1, 2), (29, 36), (36, 64), (64, 71)] o_me z10.2 := Kp.rf.trans (hz10_2.mono (by decide) (by decide) (by decide))
  have kz10_k11 : (gI z10.2 20).toInt = (gI o_me 20).toInt := congrArg Int32.toInt (hz10_2.1 20 (by decide))
  refine wp_some ?_
  exact (show ((-3) ≤ z10.1.toInt ∧ z10.1.toInt ≤ 999) ∧ IvX9 z10.2 ∧ Kp [1, 11, 13, 14, 15, 16, 18, 19, 20, 21, 23, 26, 29, 56, 57, 58, 59, 62] [2, 4, 5, 10, 12, 22, 24, 25, 27, 28, 48, 50, 51, 55, 61] [(0, 1), (1, 2), (29, 36), (36, 64), (64, 71)] o_me z10.2 from ⟨⟨by omega, by omega⟩, hz10_1, hkpz10_me⟩)

set_option maxHeartbeats 4000000 in
set_option maxRecDepth 100000 in
theorem s_X9_tell (o_me : Ob) (p0 : Int32) (hI_me : IvX9 o_me) (q0 : (-6) ≤ p0.toInt ∧ p0.toInt ≤ 2147483647) : wp (f_X9_tell   o_me p0) (fun (y : Int32 × Ob) => ((-6) ≤ y.1.toInt ∧ y.1.toInt ≤ 2147483647) ∧ IvX9 y.2 ∧ Kp [8, 11, 13, 14, 15, 16, 18, 19, 20, 21, 23, 26, 29, 34, 38, 43, 56, 57, 58, 59, 62] [3, 4, 5, 7, 10, 12, 22, 24, 25, 27, 28, 42, 48, 50, 51, 55, 61] [(0, 1), (1, 2), (29, 36), (36, 64), (64, 71)] o_me y.2) := by
  have li0 : (0 : Int32).toInt = 0 := by decide
  have li1 : (1 : Int32).toInt = 1 := by decide
  unfold f_X9_tell
  refine wp_if (fun c1 => ?_) (fun c1 => ?_)
  · have c1 := cv_ge (a := p0.toInt) (b := 0) rfl (by decide) c1
    obtain ⟨w2, ew2⟩ : ∃ z : Int32, z = (0 : Int32) := ⟨_, rfl⟩
    have tw2 : w2.toInt = 0 := by rw [ew2]; decide
    rw [show bk_X9_tell_10   p0 (0 : Int32) o_me = bk_X9_tell_10   p0 w2 o_me from by rw [ew2]]
    unfold bk_X9_tell_10
    refine wp_lt (fun o3 eo3 => ?_)
    have hIo3 : IvX9 o3 := by rw [eo3]; exact hI_me
    have ko3_v : (gI o3 1).toInt = w2.toInt := by rw [eo3]; rfl
    have hkpo3 : Kp [8, 11, 13, 14, 15, 16, 18, 19, 20, 21, 23, 26, 29, 34, 38, 43, 56, 57, 58, 59, 62] [3, 4, 5, 7, 10, 12, 22, 24, 25, 27, 28, 42, 48, 50, 51, 55, 61] [(0, 1), (1, 2), (29, 36), (36, 64), (64, 71)] o_me o3 := Kp.rf.trans (by rw [eo3]; exact Kp.sI (by decide))
    refine wp_if (fun c4 => ?_) (fun c4 => ?_)
    · have c4 := cv_ge (a := p0.toInt) (b := 0) rfl (by decide) c4
      refine wp_some ?_
      have rg5 := i32_rg p0
      exact (show ((-6) ≤ p0.toInt ∧ p0.toInt ≤ 2147483647) ∧ IvX9 o3 ∧ Kp [8, 11, 13, 14, 15, 16, 18, 19, 20, 21, 23, 26, 29, 34, 38, 43, 56, 57, 58, 59, 62] [3, 4, 5, 7, 10, 12, 22, 24, 25, 27, 28, 42, 48, 50, 51, 55, 61] [(0, 1), (1, 2), (29, 36), (36, 64), (64, 71)] o_me o3 from ⟨⟨by omega, by omega⟩, hIo3, hkpo3⟩)
    · have c4 := cv_nge (a := p0.toInt) (b := 0) rfl (by decide) c4
      exfalso; omega
  · have c1 := cv_nge (a := p0.toInt) (b := 0) rfl (by decide) c1
    unfold bk_X9_tell_10
    refine wp_lt (fun o6 eo6 => ?_)
    have hIo6 : IvX9 o6 := by rw [eo6]; exact hI_me
    have ko6_v : (gI o6 1).toInt = p0.toInt := by rw [eo6]; rfl
    have hkpo6 : Kp [8, 11, 13, 14, 15, 16, 18, 19, 20, 21, 23, 26, 29, 34, 38, 43, 56, 57, 58, 59, 62] [3, 4, 5, 7, 10, 12, 22, 24, 25, 27, 28, 42, 48, 50, 51, 55, 61] [(0, 1), (1, 2), (29, 36), (36, 64), (64, 71)] o_me o6 := Kp.rf.trans (by rw [eo6]; exact Kp.sI (by decide))
    refine wp_if (fun c7 => ?_) (fun c7 => ?_)
    · have c7 := cv_ge (a := p0.toInt) (b := 0) rfl (by decide) c7
      exfalso; omega
    · have c7 := cv_nge (a := p0.toInt) (b := 0) rfl (by decide) c7
      have t8 : (-p0).toInt = -p0.toInt := i32_neg rfl (by omega) (by omega)
      refine wp_lt (fun x9 ex9 => ?_)
      have tx9 : x9.toInt = (-p0).toInt := by rw [ex9]
      refine wp_gd (zin_of (m := 7) rfl (by omega) (by omega)) ?_
      refine wp_gd (zin_of (m := 7) rfl (by omega) (by omega)) ?_
      refine wp_lt (fun o10 eo10 => ?_)
      have hIo10 : IvX9 o10 := by rw [eo10]; exact hIo6
      have ko10_k11 : (gI o10 1).toInt = (gI o6 1).toInt := by rw [eo10]; rfl
      have ko10_v : (gA o10 2 x9.toNatClampNeg).toInt = ((gA o6 2 x9.toNatClampNeg) + (1 : Int32)).toInt := by rw [eo10]; exact congrArg Int32.toInt (upd_eq (g := gA o6 2) (i := x9) (v := ((gA o6 2 x9.toNatClampNeg) + (1 : Int32))))
      have hkpo10 : Kp [8, 11, 13, 14, 15, 16, 18, 19, 20, 21, 23, 26, 29, 34, 38, 43, 56, 57, 58, 59, 62] [3, 4, 5, 7, 10, 12, 22, 24, 25, 27, 28, 42, 48, 50, 51, 55, 61] [(0, 1), (1, 2), (29, 36), (36, 64), (64, 71)] o_me o10 := hkpo6.trans (by rw [eo10]; exact Kp.tA (by decide) (by decide))
      refine wp_some ?_
      have rg12 := i32_rg p0
      exact (show ((-6) ≤ p0.toInt ∧ p0.toInt ≤ 2147483647) ∧ IvX9 o10 ∧ Kp [8, 11, 13, 14, 15, 16, 18, 19, 20, 21, 23, 26, 29, 34, 38, 43, 56, 57, 58, 59, 62] [3, 4, 5, 7, 10, 12, 22, 24, 25, 27, 28, 42, 48, 50, 51, 55, 61] [(0, 1), (1, 2), (29, 36), (36, 64), (64, 71)] o_me o10 from ⟨⟨by omega, by omega⟩, hIo10, hkpo10⟩)

set_option maxHeartbeats 4000000 in
set_option maxRecDepth 100000 in
theorem s_X9_settled (o_me : Ob) (p0 : Int32) (hI_me : IvX9 o_me) (q0 : (-6) ≤ p0.toInt ∧ p0.toInt ≤ 2147483647) : wp (f_X9_settled   o_me p0) (fun (y : Int32 × Ob) => ((-6) ≤ y.1.toInt ∧ y.1.toInt ≤ 2147483647) ∧ IvX9 y.2 ∧ Kp [11, 13, 14, 15, 16, 18, 19, 20, 21, 23, 26, 29, 34, 38, 43, 56, 57, 58, 59, 62] [3, 4, 5, 7, 10, 12, 22, 24, 25, 27, 28, 42, 48, 50, 51, 55, 61] [(0, 1), (1, 2), (29, 36), (36, 64), (64, 71)] o_me y.2) := by
  have li0 : (0 : Int32).toInt = 0 := by decide
  unfold f_X9_settled
  refine wp_if (fun c1 => ?_) (fun c1 => ?_)
  · have c1 := cv_ge (a := p0.toInt) (b := 0) rfl (by decide) c1
    obtain ⟨w2, ew2⟩ : ∃ z : Int32, z = (0 : Int32) := ⟨_, rfl⟩
    have tw2 : w2.toInt = 0 := by rw [ew2]; decide
    rw [show bk_X9_settled_13   p0 (0 : Int32) o_me = bk_X9_settled_13   p0 w2 o_me from by rw [ew2]]
    unfold bk_X9_settled_13
    refine wp_lt (fun o3 eo3 => ?_)
    have hIo3 : IvX9 o3 := by rw [eo3]; exact ipX9_8 hI_me ⟨by omega, by omega⟩
    have ko3_v : (gI o3 8).toInt = w2.toInt := by rw [eo3]; rfl
    have hkpo3 : Kp [11, 13, 14, 15, 16, 18, 19, 20, 21, 23, 26, 29, 34, 38, 43, 56, 57, 58, 59, 62] [3, 4, 5, 7, 10, 12, 22, 24, 25, 27, 28, 42, 48, 50, 51, 55, 61] [(0, 1), (1, 2), (29, 36), (36, 64), (64, 71)] o_me o3 := Kp.rf.trans (by rw [eo3]; exact Kp.sI (by decide))
    have rg5 := i32_rg p0
    refine wp_bd (s_X9_tell   o3 p0  hIo3  ⟨by omega, by omega⟩) (fun z4 hz4 => ?_)
    obtain ⟨hz4_0, hz4_1, hz4_2⟩ := hz4
    have hkpz4_me : Kp [11, 13, 14, 15, 16, 18, 19, 20, 21, 23, 26, 29, 34, 38, 43, 56, 57, 58, 59, 62] [3, 4, 5, 7, 10, 12, 22, 24, 25, 27, 28, 42, 48, 50, 51, 55, 61] [(0, 1), (1, 2), (29, 36), (36, 64), (64, 71)] o_me z4.2 := hkpo3.trans (hz4_2.mono (by decide) (by decide) (by decide))
    have kz4_k6 : (gI z4.2 8).toInt = (gI o3 8).toInt := congrArg Int32.toInt (hz4_2.1 8 (by decide))
    refine wp_some ?_
    have rg7 := i32_rg z4.1
    exact (show ((-6) ≤ z4.1.toInt ∧ z4.1.toInt ≤ 2147483647) ∧ IvX9 z4.2 ∧ Kp [11, 13, 14, 15, 16, 18, 19, 20, 21, 23, 26, 29, 34, 38, 43, 56, 57, 58, 59, 62] [3, 4, 5, 7, 10, 12, 22, 24, 25, 27, 28, 42, 48, 50, 51, 55, 61] [(0, 1), (1, 2), (29, 36), (36, 64), (64, 71)] o_me z4.2 from ⟨⟨by omega, by omega⟩, hz4_1, hkpz4_me⟩)
  · have c1 := cv_nge (a := p0.toInt) (b := 0) rfl (by decide) c1
    have t8 := igX9_8 hI_me
    obtain ⟨w9, ew9⟩ : ∃ z : Int32, z = gI o_me 8 := ⟨_, rfl⟩
    have tw9 : w9.toInt = (gI o_me 8).toInt := by rw [ew9]
    rw [show bk_X9_settled_13   p0 (gI o_me 8) o_me = bk_X9_settled_13   p0 w9 o_me from by rw [ew9]]
    unfold bk_X9_settled_13
    refine wp_lt (fun o10 eo10 => ?_)
    have hIo10 : IvX9 o10 := by rw [eo10]; exact ipX9_8 hI_me ⟨by omega, by omega⟩
    have ko10_v : (gI o10 8).toInt = w9.toInt := by rw [eo10]; rfl
    have hkpo10 : Kp [11, 13, 14, 15, 16, 18, 19, 20, 21, 23, 26, 29, 34, 38, 43, 56, 57, 58, 59, 62] [3, 4, 5, 7, 10, 12, 22, 24, 25, 27, 28, 42, 48, 50, 51, 55, 61] [(0, 1), (1, 2), (29, 36), (36, 64), (64, 71)] o_me o10 := Kp.rf.trans (by rw [eo10]; exact Kp.sI (by decide))
    have rg12 := i32_rg p0
    refine wp_bd (s_X9_tell   o10 p0  hIo10  ⟨by omega, by omega⟩) (fun z11 hz11 => ?_)
    obtain ⟨hz11_0, hz11_1, hz11_2⟩ := hz11
    have hkpz11_me : Kp [11, 13, 14, 15, 16, 18, 19, 20, 21, 23, 26, 29, 34, 38, 43, 56, 57, 58, 59, 62] [3, 4, 5, 7, 10, 12, 22, 24, 25, 27, 28, 42, 48, 50, 51, 55, 61] [(0, 1), (1, 2), (29, 36), (36, 64), (64, 71)] o_me z11.2 := hkpo10.trans (hz11_2.mono (by decide) (by decide) (by decide))
    have kz11_k13 : (gI z11.2 8).toInt = (gI o10 8).toInt := congrArg Int32.toInt (hz11_2.1 8 (by decide))
    refine wp_some ?_
    have rg14 := i32_rg z11.1
    exact (show ((-6) ≤ z11.1.toInt ∧ z11.1.toInt ≤ 2147483647) ∧ IvX9 z11.2 ∧ Kp [11, 13, 14, 15, 16, 18, 19, 20, 21, 23, 26, 29, 34, 38, 43, 56, 57, 58, 59, 62] [3, 4, 5, 7, 10, 12, 22, 24, 25, 27, 28, 42, 48, 50, 51, 55, 61] [(0, 1), (1, 2), (29, 36), (36, 64), (64, 71)] o_me z11.2 from ⟨⟨by omega, by omega⟩, hz11_1, hkpz11_me⟩)

theorem h_bck (o0 : Ob) (hI0 : IvX9 o0) (k : Nat) (hk : k < 2) :
    ∀ (N : Nat) (v1 v2 : Int32) (o : Ob) (n : Nat), v1.toInt = (k : Int) → v2.toInt = (n : Int) → n ≤ 5484 → (∀ i, gI o i = gI o0 i) → gL o 60 = gL o0 60 → (∀ i, i ≠ 3 → gA o i = gA o0 i) → (∀ i, i < n → gA o 3 i = gA o0 4 (5484 * k + i)) → 5484 < N + n → wp (lp_X9_back_39 N (v1, v2, o)) (fun y => IvX9 y.2 ∧ Kp [11, 13, 14, 15, 16, 18, 19, 20, 21, 23, 26, 29, 34, 38, 43, 56, 57, 58, 59, 62] [4, 5, 7, 10, 12, 22, 24, 25, 27, 28, 42, 48, 50, 51, 55, 61] [] o0 y.2) := by
  intro N
  induction N with
  | zero => intro v1 v2 o n _ _ _ _ _ _ _ _; exfalso; omega
  | succ N ih =>
    intro v1 v2 o n e1 e2 hn hI hL hA hp hN
    show wp (lb_X9_back_39 (lp_X9_back_39 N) v1 v2 o) _
    unfold lb_X9_back_39
    refine wp_if (fun c => ?_) (fun c => ?_)
    · have c := cv_le (a := 5484) (b := v2.toInt) (by decide) rfl c
      have hb := EX9.bck (row' := gA o 3) hk (h9last hI0).1 (fun i hi => hp i (by omega))
      have hIo : IvX9 o := by
        refine ivX9_of hI0 hI hL (fun i h3 _ => hA i h3) hb.2 ?_
        rw [hA 4 (by decide), hA 6 (by decide), hA 9 (by decide)]
        exact hb.1
      have hKo : Kp [11, 13, 14, 15, 16, 18, 19, 20, 21, 23, 26, 29, 34, 38, 43, 56, 57, 58, 59, 62] [4, 5, 7, 10, 12, 22, 24, 25, 27, 28, 42, 48, 50, 51, 55, 61] [] o0 o := ⟨fun i _ => hI i, fun i hi => hA i (fun e => by subst e; revert hi; decide), fun c hc => absurd hc List.not_mem_nil⟩
      refine wp_bd (s_X9_settled o 0 hIo ⟨by decide, by decide⟩) (fun z hz => ?_)
      exact wp_some ⟨hz.2.1, hKo.trans (hz.2.2.mono (by decide) (by decide) (by decide))⟩
    · have c := cv_nle (a := 5484) (b := v2.toInt) (by decide) rfl c
      have m1 : ((5484 : Int32) * v1).toInt = 5484 * (k : Int) := i32_mul (by decide) e1 (by omega) (by omega)
      have m2 : (((5484 : Int32) * v1) + v2).toInt = 5484 * (k : Int) + (n : Int) := i32_add m1 e2 (by omega) (by omega)
      have n1 : (((5484 : Int32) * v1) + v2).toNatClampNeg = 5484 * k + n := tnc_eq (by omega)
      have n2 : v2.toNatClampNeg = n := tnc_eq e2
      refine wp_gd (zin_of (m := 10968) rfl (by omega) (by omega)) ?_
      refine wp_gd (zin_of (m := 5484) rfl (by omega) (by omega)) ?_
      rw [n1, n2]
      refine wp_lt (fun o7 e7 => ?_)
      refine wp_lt (fun x8 e8 => ?_)
      have t8 : x8.toInt = (n : Int) + 1 := by rw [e8]; exact i32_add e2 (by decide) (by omega) (by omega)
      have a3 : ∀ j, gA o7 3 j = if j = n then gA o0 4 (5484 * k + n) else gA o 3 j := by
        intro j
        rw [e7]
        show (if j = n then gA o 4 (5484 * k + n) else gA o 3 j) = _
        rw [hA 4 (by decide)]
      refine ih v1 x8 o7 (n + 1) e1 (by omega) (by omega) (fun i => by rw [e7]; exact hI i) (by rw [e7]; exact hL) (fun i hi => ?_) (fun i hi => ?_) (by omega)
      · rw [e7]; exact (fset_ne hi).trans (hA i hi)
      · rw [a3]
        by_cases e : i = n
        · subst e; rw [if_pos rfl]
        · rw [if_neg (by omega)]; exact hp i (by omega)
set_option maxHeartbeats 4000000 in
set_option maxRecDepth 100000 in
theorem s_X9_back (o_me : Ob) (p0 : Int32) (hI_me : IvX9 o_me)  : wp (f_X9_back   o_me p0) (fun (y : Int32 × Ob) => IvX9 y.2 ∧ Kp [11, 13, 14, 15, 16, 18, 19, 20, 21, 23, 26, 29, 34, 38, 43, 56, 57, 58, 59, 62] [4, 5, 7, 10, 12, 22, 24, 25, 27, 28, 42, 48, 50, 51, 55, 61] [] o_me y.2) := by
  unfold f_X9_back
  refine wp_lt (fun o1 e1 => ?_)
  have hI1 : IvX9 o1 := by rw [e1]; exact hI_me
  have hK1 : Kp [11, 13, 14, 15, 16, 18, 19, 20, 21, 23, 26, 29, 34, 38, 43, 56, 57, 58, 59, 62] [4, 5, 7, 10, 12, 22, 24, 25, 27, 28, 42, 48, 50, 51, 55, 61] [] o_me o1 := by rw [e1]; exact Kp.sI (by decide)
  refine wp_bd (s_X9_in _ _ _) (fun z2 hz2 => ?_)
  refine wp_if (fun c => ?_) (fun c => ?_)
  · refine wp_bd (s_X9_tell o1 (-1) hI1 ⟨by decide, by decide⟩) (fun z hz => ?_)
    exact wp_some ⟨hz.2.1, hK1.trans (hz.2.2.mono (by decide) (by decide) (by decide))⟩
  · have r := hz2.2 c
    have l0 : (0 : Int64).toInt = 0 := by decide
    have l1 : (1 : Int64).toInt = 1 := by decide
    have ep := Int32.toInt_toInt64 p0
    refine wp_gd (zin_of (m := 2) rfl (by omega) (by omega)) ?_
    refine wp_if (fun c => ?_) (fun c => ?_)
    · refine wp_bd (s_X9_tell o1 (-2) hI1 ⟨by decide, by decide⟩) (fun z hz => ?_)
      exact wp_some ⟨hz.2.1, hK1.trans (hz.2.2.mono (by decide) (by decide) (by decide))⟩
    · refine wp_mono (h_bck o1 hI1 p0.toInt.toNat (by omega) zfu p0 0 o1 0 (by omega) (by decide) (by omega) (fun _ => rfl) rfl (fun _ _ => rfl) (fun i hi => absurd hi (Nat.not_lt_zero _)) (by show 5484 < 100000 + 0; omega)) (fun y hy => ⟨hy.1, hK1.trans hy.2⟩)

set_option maxHeartbeats 4000000 in
set_option maxRecDepth 100000 in
theorem s_X9_layRuns (o_me : Ob) (p0 : Int32) (hI_me : IvX9 o_me) (q0 : 0 ≤ p0.toInt ∧ p0.toInt ≤ 3) (q1 : 0 ≤ (gI o_me 20).toInt ∧ (gI o_me 20).toInt ≤ 0) : wp (f_X9_layRuns   o_me p0) (fun (y : Ob) => IvX9 y ∧ Kp [1, 8, 11, 13, 14, 15, 16, 18, 19, 20, 21, 23, 26, 29, 43, 56, 57, 58, 59, 62] [2, 3, 4, 5, 7, 10, 12, 22, 24, 25, 27, 28, 42, 48, 50, 51, 55, 61] [(0, 1), (1, 2), (29, 36), (36, 64), (64, 71)] o_me y) := by
  have li0 : (0 : Int32).toInt = 0 := by decide
  unfold f_X9_layRuns
  have lp1 : ∀ (N1 : Nat) (v1_1 : Int32) (v2_1 : Int32) (o_me_1 : Ob), IvX9 o_me_1 → Kp [1, 8, 11, 13, 14, 15, 16, 18, 19, 20, 21, 23, 26, 29, 43, 56, 57, 58, 59, 62] [2, 3, 4, 5, 7, 10, 12, 22, 24, 25, 27, 28, 42, 48, 50, 51, 55, 61] [(0, 1), (1, 2), (29, 36), (36, 64), (64, 71)] o_me o_me_1 → (0 ≤ v1_1.toInt ∧ v1_1.toInt ≤ 3) → (0 ≤ v2_1.toInt ∧ v2_1.toInt ≤ 7) → (0 ≤ (gI o_me_1 20).toInt ∧ (gI o_me_1 20).toInt ≤ 0) → (v1_1.toInt ≤ p0.toInt + 0) → (p0.toInt ≤ v1_1.toInt + 0) → (7 - v2_1.toInt).toNat < N1 → wp (lp_X9_layRuns_2   N1 (v1_1, v2_1, o_me_1)) (fun (y : Ob) => IvX9 y ∧ Kp [1, 8, 11, 13, 14, 15, 16, 18, 19, 20, 21, 23, 26, 29, 43, 56, 57, 58, 59, 62] [2, 3, 4, 5, 7, 10, 12, 22, 24, 25, 27, 28, 42, 48, 50, 51, 55, 61] [(0, 1), (1, 2), (29, 36), (36, 64), (64, 71)] o_me y) := by
    intro N1
    induction N1 with
    | zero =>
      intro v1_1 v2_1 o_me_1 hI_me_1 hkp_me_1 hh2 hh3 hh4 hh5 hh6 hN1
      exact absurd hN1 (Nat.not_lt_zero _)
    | succ N1 ihx =>
      have ih1 := ihx
      intro v1_1 v2_1 o_me_1 hI_me_1 hkp_me_1 hh2 hh3 hh4 hh5 hh6 hN1
      show wp (lb_X9_layRuns_2   (lp_X9_layRuns_2   N1) v1_1 v2_1 o_me_1) (fun (y : Ob) => IvX9 y ∧ Kp [1, 8, 11, 13, 14, 15, 16, 18, 19, 20, 21, 23, 26, 29, 43, 56, 57, 58, 59, 62] [2, 3, 4, 5, 7, 10, 12, 22, 24, 25, 27, 28, 42, 48, 50, 51, 55, 61] [(0, 1), (1, 2), (29, 36), (36, 64), (64, 71)] o_me y)
      unfold lb_X9_layRuns_2
      have kc7 : (gA o_me_1 3 (0 : Int32).toNatClampNeg).toInt = (gA o_me 3 (0 : Int32).toNatClampNeg).toInt := congrArg Int32.toInt (hkp_me_1.2.2 (0, 1) (by decide) (0 : Int32).toNatClampNeg (by decide) (by decide))
      have t8 := iaX9_3_0 hI_me_1 (j := (0 : Int32)) (by decide) (by decide)
      refine wp_if (fun c9 => ?_) (fun c9 => ?_)
      · have c9 := cv_ge (a := v2_1.toInt) (b := (gA o_me_1 3 (0 : Int32).toNatClampNeg).toInt) rfl rfl c9
        refine wp_some ?_
        exact (show IvX9 o_me_1 ∧ Kp [1, 8, 11, 13, 14, 15, 16, 18, 19, 20, 21, 23, 26, 29, 43, 56, 57, 58, 59, 62] [2, 3, 4, 5, 7, 10, 12, 22, 24, 25, 27, 28, 42, 48, 50, 51, 55, 61] [(0, 1), (1, 2), (29, 36), (36, 64), (64, 71)] o_me o_me_1 from ⟨hI_me_1, hkp_me_1⟩)
      · have c9 := cv_nge (a := v2_1.toInt) (b := (gA o_me_1 3 (0 : Int32).toNatClampNeg).toInt) rfl rfl c9
        refine wp_bd (s_X9_runsOf   o_me_1 v2_1 v1_1  hI_me_1  ⟨by omega, by omega⟩ ⟨by omega, by omega⟩ ⟨by omega, by omega⟩) (fun z10 hz10 => ?_)
        obtain ⟨hz10_0, hz10_1, hz10_2⟩ := hz10
        have hkpz10_me : Kp [1, 8, 11, 13, 14, 15, 16, 18, 19, 20, 21, 23, 26, 29, 43, 56, 57, 58, 59, 62] [2, 3, 4, 5, 7, 10, 12, 22, 24, 25, 27, 28, 42, 48, 50, 51, 55, 61] [(0, 1), (1, 2), (29, 36), (36, 64), (64, 71)] o_me z10.2 := hkp_me_1.trans (hz10_2.mono (by decide) (by decide) (by decide))
        have kz10_k11 : (gA z10.2 3 (0 : Int32).toNatClampNeg).toInt = (gA o_me_1 3 (0 : Int32).toNatClampNeg).toInt := congrArg (fun g => (g (0 : Int32).toNatClampNeg).toInt) (hz10_2.2.1 3 (by decide))
        have kz10_k12 : (gI z10.2 20).toInt = (gI o_me_1 20).toInt := congrArg Int32.toInt (hz10_2.1 20 (by decide))
        refine wp_gd (zin_of (m := 7) rfl (by omega) (by omega)) ?_
        refine wp_lt (fun o13 eo13 => ?_)
        have hIo13 : IvX9 o13 := by rw [eo13]; exact hz10_1
        have ko13_k14 : (gA o13 3 (0 : Int32).toNatClampNeg).toInt = (gA z10.2 3 (0 : Int32).toNatClampNeg).toInt := by rw [eo13]; rfl
        have ko13_k15 : (gI o13 20).toInt = (gI z10.2 20).toInt := by rw [eo13]; rfl
        have ko13_v : (gA o13 41 v2_1.toNatClampNeg).toInt = z10.1.toInt := by rw [eo13]; exact congrArg Int32.toInt (upd_eq (g := gA z10.2 41) (i := v2_1) (v := z10.1))
        have hkpo13 : Kp [1, 8, 11, 13, 14, 15, 16, 18, 19, 20, 21, 23, 26, 29, 43, 56, 57, 58, 59, 62] [2, 3, 4, 5, 7, 10, 12, 22, 24, 25, 27, 28, 42, 48, 50, 51, 55, 61] [(0, 1), (1, 2), (29, 36), (36, 64), (64, 71)] o_me o13 := hkpz10_me.trans (by rw [eo13]; exact Kp.tA (by decide) (by decide))
        refine wp_bd (s_X9_isBarred   o13 v2_1 v1_1  hIo13  ⟨by omega, by omega⟩ ⟨by omega, by omega⟩ ⟨by omega, by omega⟩) (fun z16 hz16 => ?_)
        obtain ⟨hz16_0, hz16_1, hz16_2⟩ := hz16
        have hkpz16_me : Kp [1, 8, 11, 13, 14, 15, 16, 18, 19, 20, 21, 23, 26, 29, 43, 56, 57, 58, 59, 62] [2, 3, 4, 5, 7, 10, 12, 22, 24, 25, 27, 28, 42, 48, 50, 51, 55, 61] [(0, 1), (1, 2), (29, 36), (36, 64), (64, 71)] o_me z16.2 := hkpo13.trans (hz16_2.mono (by decide) (by decide) (by decide))
        have kz16_k17 : (gA z16.2 3 (0 : Int32).toNatClampNeg).toInt = (gA o13 3 (0 : Int32).toNatClampNeg).toInt := congrArg (fun g => (g (0 : Int32).toNatClampNeg).toInt) (hz16_2.2.1 3 (by decide))
        have kz16_k18 : (gI z16.2 20).toInt = (gI o13 20).toInt := congrArg Int32.toInt (hz16_2.1 20 (by decide))
        refine wp_gd (zin_of (m := 7) rfl (by omega) (by omega)) ?_
        refine wp_lt (fun o19 eo19 => ?_)
        have hIo19 : IvX9 o19 := by rw [eo19]; exact hz16_1
        have ko19_k20 : (gA o19 3 (0 : Int32).toNatClampNeg).toInt = (gA z16.2 3 (0 : Int32).toNatClampNeg).toInt := by rw [eo19]; rfl
        have ko19_k21 : (gI o19 20).toInt = (gI z16.2 20).toInt := by rw [eo19]; rfl
        have hkpo19 : Kp [1, 8, 11, 13, 14, 15, 16, 18, 19, 20, 21, 23, 26, 29, 43, 56, 57, 58, 59, 62] [2, 3, 4, 5, 7, 10, 12, 22, 24, 25, 27, 28, 42, 48, 50, 51, 55, 61] [(0, 1), (1, 2), (29, 36), (36, 64), (64, 71)] o_me o19 := hkpz16_me.trans (by rw [eo19]; exact Kp.tA (by decide) (by decide))
        refine wp_lt (fun x22 ex22 => ?_)
        have tx22 : x22.toInt = v2_1.toInt + 1 := by rw [ex22]; exact i32_add rfl (by decide) (by omega) (by omega)
        exact ih1 v1_1 x22 o19 hIo19 hkpo19 ⟨by omega, by omega⟩ ⟨by omega, by omega⟩ ⟨by omega, by omega⟩ (by omega) (by omega) (by omega)
  exact lp1 zfu p0 (0 : Int32) o_me hI_me Kp.rf ⟨by omega, by omega⟩ ⟨by decide, by decide⟩ ⟨by omega, by omega⟩ (by omega) (by omega) (by show _ < 100000; omega)

set_option maxHeartbeats 4000000 in
set_option maxRecDepth 100000 in
theorem s_X9_enteredBits (o_me : Ob) (hI_me : IvX9 o_me)  : wp (f_X9_enteredBits   o_me) (fun (y : Int32) => True) := by
  have li0 : (0 : Int32).toInt = 0 := by decide
  have li1 : (22 : Int32).toInt = 22 := by decide
  unfold f_X9_enteredBits
  have lp1 : ∀ (N1 : Nat) (v1_1 : Int32) (v2_1 : Int32), (0 ≤ v2_1.toInt ∧ v2_1.toInt ≤ 7) → (7 - v2_1.toInt).toNat < N1 → wp (lp_X9_enteredBits_4 o_me  N1 (v1_1, v2_1)) (fun (y : Int32) => True) := by
    intro N1
    induction N1 with
    | zero =>
      intro v1_1 v2_1 hh1 hN1
      exact absurd hN1 (Nat.not_lt_zero _)
    | succ N1 ihx =>
      have ih1 := ihx
      intro v1_1 v2_1 hh1 hN1
      show wp (lb_X9_enteredBits_4 o_me  (lp_X9_enteredBits_4 o_me  N1) v1_1 v2_1) (fun (y : Int32) => True)
      unfold lb_X9_enteredBits_4
      have t2 := iaX9_3_0 hI_me (j := (0 : Int32)) (by decide) (by decide)
      refine wp_if (fun c3 => ?_) (fun c3 => ?_)
      · have c3 := cv_ge (a := v2_1.toInt) (b := (gA o_me 3 (0 : Int32).toNatClampNeg).toInt) rfl rfl c3
        refine wp_some ?_
        exact trivial
      · have c3 := cv_nge (a := v2_1.toInt) (b := (gA o_me 3 (0 : Int32).toNatClampNeg).toInt) rfl rfl c3
        have t4 : ((22 : Int32) + v2_1).toInt = 22 + v2_1.toInt := i32_add (by decide) rfl (by omega) (by omega)
        refine wp_gd (zin_of (m := 5484) rfl (by omega) (by omega)) ?_
        have t5 := iaX9_3_6 hI_me (j := (22 : Int32) + v2_1) (by omega) (by omega)
        refine wp_lt (fun x6 ex6 => ?_)
        have tx6 : x6.toInt = (v1_1 ||| ((gA o_me 3 ((22 : Int32) + v2_1).toNatClampNeg) <<< (v2_1 &&& 31))).toInt := by rw [ex6]
        refine wp_lt (fun x7 ex7 => ?_)
        have tx7 : x7.toInt = v2_1.toInt + 1 := by rw [ex7]; exact i32_add rfl (by decide) (by omega) (by omega)
        exact ih1 x6 x7  ⟨by omega, by omega⟩ (by omega)
  exact lp1 zfu (0 : Int32) (0 : Int32)  ⟨by decide, by decide⟩ (by show _ < 100000; omega)

set_option maxHeartbeats 4000000 in
set_option maxRecDepth 100000 in
theorem s_X9_is (p0 : Int32) (p1 : Int32)   : wp (f_X9_is   p0 p1) (fun (y : Int32) => (0 ≤ y.toInt ∧ y.toInt ≤ 1)) := by
  have li0 : (0 : Int32).toInt = 0 := by decide
  have li1 : (1 : Int32).toInt = 1 := by decide
  unfold f_X9_is
  have t1 := i32_and (x := p0 >>> (p1 &&& 31)) (y := (1 : Int32)) (m := 1) ⟨by decide, by decide⟩
  refine wp_if (fun c2 => ?_) (fun c2 => ?_)
  · have c2 := cv_eq (a := ((p0 >>> (p1 &&& 31)) &&& (1 : Int32)).toInt) (b := 1) rfl (by decide) c2
    refine wp_some ?_
    exact (show (0 ≤ (1 : Int32).toInt ∧ (1 : Int32).toInt ≤ 1) from ⟨by decide, by decide⟩)
  · have c2 := cv_ne (a := ((p0 >>> (p1 &&& 31)) &&& (1 : Int32)).toInt) (b := 1) rfl (by decide) c2
    refine wp_some ?_
    exact (show (0 ≤ (0 : Int32).toInt ∧ (0 : Int32).toInt ≤ 1) from ⟨by decide, by decide⟩)

set_option maxHeartbeats 4000000 in
set_option maxRecDepth 100000 in
theorem s_X9_ones (p0 : Int32)   : wp (f_X9_ones   p0) (fun (y : Int32) => True) := by
  have li0 : (0 : Int32).toInt = 0 := by decide
  have li1 : (1 : Int32).toInt = 1 := by decide
  have li2 : (7 : Int32).toInt = 7 := by decide
  unfold f_X9_ones
  have lp1 : ∀ (N1 : Nat) (v0_1 : Int32) (v1_1 : Int32) (v2_1 : Int32), (0 ≤ v2_1.toInt ∧ v2_1.toInt ≤ 7) → (7 - v2_1.toInt).toNat < N1 → wp (lp_X9_ones_4   N1 (v0_1, v1_1, v2_1)) (fun (y : Int32) => True) := by
    intro N1
    induction N1 with
    | zero =>
      intro v0_1 v1_1 v2_1 hh1 hN1
      exact absurd hN1 (Nat.not_lt_zero _)
    | succ N1 ihx =>
      have ih1 := ihx
      intro v0_1 v1_1 v2_1 hh1 hN1
      show wp (lb_X9_ones_4   (lp_X9_ones_4   N1) v0_1 v1_1 v2_1) (fun (y : Int32) => True)
      unfold lb_X9_ones_4
      refine wp_if (fun c2 => ?_) (fun c2 => ?_)
      · have c2 := cv_ge (a := v2_1.toInt) (b := 7) rfl (by decide) c2
        refine wp_some ?_
        exact trivial
      · have c2 := cv_nge (a := v2_1.toInt) (b := 7) rfl (by decide) c2
        have t3 := i32_and (x := v0_1 >>> (v2_1 &&& 31)) (y := (1 : Int32)) (m := 1) ⟨by decide, by decide⟩
        refine wp_lt (fun x4 ex4 => ?_)
        have tx4 : x4.toInt = (v1_1 + ((v0_1 >>> (v2_1 &&& 31)) &&& (1 : Int32))).toInt := by rw [ex4]
        refine wp_lt (fun x5 ex5 => ?_)
        have tx5 : x5.toInt = v2_1.toInt + 1 := by rw [ex5]; exact i32_add rfl (by decide) (by omega) (by omega)
        exact ih1 v0_1 x4 x5  ⟨by omega, by omega⟩ (by omega)
  exact lp1 zfu p0 (0 : Int32) (0 : Int32)  ⟨by decide, by decide⟩ (by show _ < 100000; omega)

set_option maxHeartbeats 4000000 in
set_option maxRecDepth 100000 in
theorem s_X9_placeOf (o_me : Ob) (p0 : Int32) (p1 : Int32) (hI_me : IvX9 o_me) (q0 : 0 ≤ p0.toInt ∧ p0.toInt ≤ 6) : wp (f_X9_placeOf   o_me p0 p1) (fun (y : Int32) => True) := by
  have li0 : (0 : Int32).toInt = 0 := by decide
  have li1 : (1 : Int32).toInt = 1 := by decide
  unfold f_X9_placeOf
  have lp1 : ∀ (N1 : Nat) (v1_1 : Int32) (v2_1 : Int32) (v3_1 : Int32) (v4_1 : Int32), (0 ≤ v1_1.toInt ∧ v1_1.toInt ≤ 6) → (0 ≤ v4_1.toInt ∧ v4_1.toInt ≤ 7) → (v1_1.toInt ≤ p0.toInt + 0) → (p0.toInt ≤ v1_1.toInt + 0) → (7 - v4_1.toInt).toNat < N1 → wp (lp_X9_placeOf_5 o_me  N1 (v1_1, v2_1, v3_1, v4_1)) (fun (y : Int32) => True) := by
    intro N1
    induction N1 with
    | zero =>
      intro v1_1 v2_1 v3_1 v4_1 hh1 hh2 hh3 hh4 hN1
      exact absurd hN1 (Nat.not_lt_zero _)
    | succ N1 ihx =>
      have ih1 := ihx
      intro v1_1 v2_1 v3_1 v4_1 hh1 hh2 hh3 hh4 hN1
      show wp (lb_X9_placeOf_5 o_me  (lp_X9_placeOf_5 o_me  N1) v1_1 v2_1 v3_1 v4_1) (fun (y : Int32) => True)
      unfold lb_X9_placeOf_5
      have t5 := iaX9_3_0 hI_me (j := (0 : Int32)) (by decide) (by decide)
      refine wp_if (fun c6 => ?_) (fun c6 => ?_)
      · have c6 := cv_ge (a := v4_1.toInt) (b := (gA o_me 3 (0 : Int32).toNatClampNeg).toInt) rfl rfl c6
        refine wp_some ?_
        exact trivial
      · have c6 := cv_nge (a := v4_1.toInt) (b := (gA o_me 3 (0 : Int32).toNatClampNeg).toInt) rfl rfl c6
        refine wp_if (fun c7 => ?_) (fun c7 => ?_)
        · have c7 := cv_eq (a := v4_1.toInt) (b := v1_1.toInt) rfl rfl c7
          unfold bk_X9_placeOf_84
          obtain ⟨w8, ew8⟩ : ∃ z : Int32, z = (0 : Int32) := ⟨_, rfl⟩
          have tw8 : w8.toInt = 0 := by rw [ew8]; decide
          rw [show bk_X9_placeOf_85 o_me (lp_X9_placeOf_5 o_me  N1) v1_1 v2_1 v4_1 (0 : Int32) v3_1 = bk_X9_placeOf_85 o_me (lp_X9_placeOf_5 o_me  N1) v1_1 v2_1 v4_1 w8 v3_1 from by rw [ew8]]
          unfold bk_X9_placeOf_85
          have rg10 := i32_rg v3_1
          have t9 : (v3_1 + w8).toInt = v3_1.toInt + w8.toInt := i32_add rfl rfl (by omega) (by omega)
          refine wp_lt (fun x11 ex11 => ?_)
          have tx11 : x11.toInt = (v3_1 + w8).toInt := by rw [ex11]
          refine wp_lt (fun x12 ex12 => ?_)
          have tx12 : x12.toInt = v4_1.toInt + 1 := by rw [ex12]; exact i32_add rfl (by decide) (by omega) (by omega)
          exact ih1 v1_1 v2_1 x11 x12  ⟨by omega, by omega⟩ ⟨by omega, by omega⟩ (by omega) (by omega) (by omega)
        · have c7 := cv_ne (a := v4_1.toInt) (b := v1_1.toInt) rfl rfl c7
          refine wp_bd (s_X9_is   v2_1 v4_1    ) (fun z13 hz13 => ?_)
          have hz13_0 := hz13
          refine wp_if (fun c14 => ?_) (fun c14 => ?_)
          · have c14 := cv_eq (a := z13.toInt) (b := 0) rfl (by decide) c14
            unfold bk_X9_placeOf_84
            obtain ⟨w15, ew15⟩ : ∃ z : Int32, z = (0 : Int32) := ⟨_, rfl⟩
            have tw15 : w15.toInt = 0 := by rw [ew15]; decide
            rw [show bk_X9_placeOf_85 o_me (lp_X9_placeOf_5 o_me  N1) v1_1 v2_1 v4_1 (0 : Int32) v3_1 = bk_X9_placeOf_85 o_me (lp_X9_placeOf_5 o_me  N1) v1_1 v2_1 v4_1 w15 v3_1 from by rw [ew15]]
            unfold bk_X9_placeOf_85
            have rg17 := i32_rg v3_1
            have t16 : (v3_1 + w15).toInt = v3_1.toInt + w15.toInt := i32_add rfl rfl (by omega) (by omega)
            refine wp_lt (fun x18 ex18 => ?_)
            have tx18 : x18.toInt = (v3_1 + w15).toInt := by rw [ex18]
            refine wp_lt (fun x19 ex19 => ?_)
            have tx19 : x19.toInt = v4_1.toInt + 1 := by rw [ex19]; exact i32_add rfl (by decide) (by omega) (by omega)
            exact ih1 v1_1 v2_1 x18 x19  ⟨by omega, by omega⟩ ⟨by omega, by omega⟩ (by omega) (by omega) (by omega)
          · have c14z := c14
            have c14 := cv_ne (a := z13.toInt) (b := 0) rfl (by decide) c14
            refine wp_gd (zin_of (m := 7) rfl (by omega) (by omega)) ?_
            refine wp_if (fun c20 => ?_) (fun c20 => ?_)
            · have c20 := cv_eq (a := (gA o_me 44 v4_1.toNatClampNeg).toInt) (b := 0) rfl (by decide) c20
              refine wp_gd (zin_of (m := 7) rfl (by omega) (by omega)) ?_
              refine wp_gd (zin_of (m := 7) rfl (by omega) (by omega)) ?_
              have rg22 := i32_rg (gA o_me 41 v4_1.toNatClampNeg)
              have rg23 := i32_rg (gA o_me 41 v1_1.toNatClampNeg)
              refine wp_if (fun c21 => ?_) (fun c21 => ?_)
              · have c21 := cv_gt (a := (gA o_me 41 v4_1.toNatClampNeg).toInt) (b := (gA o_me 41 v1_1.toNatClampNeg).toInt) rfl rfl c21
                unfold bk_X9_placeOf_80
                obtain ⟨w24, ew24⟩ : ∃ z : Int32, z = (1 : Int32) := ⟨_, rfl⟩
                have tw24 : w24.toInt = 1 := by rw [ew24]; decide
                rw [show bk_X9_placeOf_85 o_me (lp_X9_placeOf_5 o_me  N1) v1_1 v2_1 v4_1 (1 : Int32) v3_1 = bk_X9_placeOf_85 o_me (lp_X9_placeOf_5 o_me  N1) v1_1 v2_1 v4_1 w24 v3_1 from by rw [ew24]]
                unfold bk_X9_placeOf_85
                refine wp_lt (fun x25 ex25 => ?_)
                have tx25 : x25.toInt = (v3_1 + w24).toInt := by rw [ex25]
                refine wp_lt (fun x26 ex26 => ?_)
                have tx26 : x26.toInt = v4_1.toInt + 1 := by rw [ex26]; exact i32_add rfl (by decide) (by omega) (by omega)
                exact ih1 v1_1 v2_1 x25 x26  ⟨by omega, by omega⟩ ⟨by omega, by omega⟩ (by omega) (by omega) (by omega)
              · have c21 := cv_ngt (a := (gA o_me 41 v4_1.toNatClampNeg).toInt) (b := (gA o_me 41 v1_1.toNatClampNeg).toInt) rfl rfl c21
                refine wp_gd (zin_of (m := 7) rfl (by omega) (by omega)) ?_
                refine wp_gd (zin_of (m := 7) rfl (by omega) (by omega)) ?_
                refine wp_if (fun c27 => ?_) (fun c27 => ?_)
                · have c27 := cv_eq (a := (gA o_me 41 v4_1.toNatClampNeg).toInt) (b := (gA o_me 41 v1_1.toNatClampNeg).toInt) rfl rfl c27
                  refine wp_if (fun c28 => ?_) (fun c28 => ?_)
                  · have c28 := cv_ge (a := v4_1.toInt) (b := v1_1.toInt) rfl rfl c28
                    unfold bk_X9_placeOf_84
                    obtain ⟨w29, ew29⟩ : ∃ z : Int32, z = (0 : Int32) := ⟨_, rfl⟩
                    have tw29 : w29.toInt = 0 := by rw [ew29]; decide
                    rw [show bk_X9_placeOf_85 o_me (lp_X9_placeOf_5 o_me  N1) v1_1 v2_1 v4_1 (0 : Int32) v3_1 = bk_X9_placeOf_85 o_me (lp_X9_placeOf_5 o_me  N1) v1_1 v2_1 v4_1 w29 v3_1 from by rw [ew29]]
                    unfold bk_X9_placeOf_85
                    have rg31 := i32_rg v3_1
                    have t30 : (v3_1 + w29).toInt = v3_1.toInt + w29.toInt := i32_add rfl rfl (by omega) (by omega)
                    refine wp_lt (fun x32 ex32 => ?_)
                    have tx32 : x32.toInt = (v3_1 + w29).toInt := by rw [ex32]
                    refine wp_lt (fun x33 ex33 => ?_)
                    have tx33 : x33.toInt = v4_1.toInt + 1 := by rw [ex33]; exact i32_add rfl (by decide) (by omega) (by omega)
                    exact ih1 v1_1 v2_1 x32 x33  ⟨by omega, by omega⟩ ⟨by omega, by omega⟩ (by omega) (by omega) (by omega)
                  · have c28 := cv_nge (a := v4_1.toInt) (b := v1_1.toInt) rfl rfl c28
                    unfold bk_X9_placeOf_80
                    obtain ⟨w34, ew34⟩ : ∃ z : Int32, z = (1 : Int32) := ⟨_, rfl⟩
                    have tw34 : w34.toInt = 1 := by rw [ew34]; decide
                    rw [show bk_X9_placeOf_85 o_me (lp_X9_placeOf_5 o_me  N1) v1_1 v2_1 v4_1 (1 : Int32) v3_1 = bk_X9_placeOf_85 o_me (lp_X9_placeOf_5 o_me  N1) v1_1 v2_1 v4_1 w34 v3_1 from by rw [ew34]]
                    unfold bk_X9_placeOf_85
                    refine wp_lt (fun x35 ex35 => ?_)
                    have tx35 : x35.toInt = (v3_1 + w34).toInt := by rw [ex35]
                    refine wp_lt (fun x36 ex36 => ?_)
                    have tx36 : x36.toInt = v4_1.toInt + 1 := by rw [ex36]; exact i32_add rfl (by decide) (by omega) (by omega)
                    exact ih1 v1_1 v2_1 x35 x36  ⟨by omega, by omega⟩ ⟨by omega, by omega⟩ (by omega) (by omega) (by omega)
                · have c27 := cv_ne (a := (gA o_me 41 v4_1.toNatClampNeg).toInt) (b := (gA o_me 41 v1_1.toNatClampNeg).toInt) rfl rfl c27
                  unfold bk_X9_placeOf_84
                  obtain ⟨w37, ew37⟩ : ∃ z : Int32, z = (0 : Int32) := ⟨_, rfl⟩
                  have tw37 : w37.toInt = 0 := by rw [ew37]; decide
                  rw [show bk_X9_placeOf_85 o_me (lp_X9_placeOf_5 o_me  N1) v1_1 v2_1 v4_1 (0 : Int32) v3_1 = bk_X9_placeOf_85 o_me (lp_X9_placeOf_5 o_me  N1) v1_1 v2_1 v4_1 w37 v3_1 from by rw [ew37]]
                  unfold bk_X9_placeOf_85
                  have rg39 := i32_rg v3_1
                  have t38 : (v3_1 + w37).toInt = v3_1.toInt + w37.toInt := i32_add rfl rfl (by omega) (by omega)
                  refine wp_lt (fun x40 ex40 => ?_)
                  have tx40 : x40.toInt = (v3_1 + w37).toInt := by rw [ex40]
                  refine wp_lt (fun x41 ex41 => ?_)
                  have tx41 : x41.toInt = v4_1.toInt + 1 := by rw [ex41]; exact i32_add rfl (by decide) (by omega) (by omega)
                  exact ih1 v1_1 v2_1 x40 x41  ⟨by omega, by omega⟩ ⟨by omega, by omega⟩ (by omega) (by omega) (by omega)
            · have c20z := c20
              have c20 := cv_ne (a := (gA o_me 44 v4_1.toNatClampNeg).toInt) (b := 0) rfl (by decide) c20
              unfold bk_X9_placeOf_84
              obtain ⟨w42, ew42⟩ : ∃ z : Int32, z = (0 : Int32) := ⟨_, rfl⟩
              have tw42 : w42.toInt = 0 := by rw [ew42]; decide
              rw [show bk_X9_placeOf_85 o_me (lp_X9_placeOf_5 o_me  N1) v1_1 v2_1 v4_1 (0 : Int32) v3_1 = bk_X9_placeOf_85 o_me (lp_X9_placeOf_5 o_me  N1) v1_1 v2_1 v4_1 w42 v3_1 from by rw [ew42]]
              unfold bk_X9_placeOf_85
              have rg44 := i32_rg v3_1
              have t43 : (v3_1 + w42).toInt = v3_1.toInt + w42.toInt := i32_add rfl rfl (by omega) (by omega)
              refine wp_lt (fun x45 ex45 => ?_)
              have tx45 : x45.toInt = (v3_1 + w42).toInt := by rw [ex45]
              refine wp_lt (fun x46 ex46 => ?_)
              have tx46 : x46.toInt = v4_1.toInt + 1 := by rw [ex46]; exact i32_add rfl (by decide) (by omega) (by omega)
              exact ih1 v1_1 v2_1 x45 x46  ⟨by omega, by omega⟩ ⟨by omega, by omega⟩ (by omega) (by omega) (by omega)
  exact lp1 zfu p0 p1 (1 : Int32) (0 : Int32)  ⟨by omega, by omega⟩ ⟨by decide, by decide⟩ (by omega) (by omega) (by show _ < 100000; omega)

