set_option maxHeartbeats 4000000 in
set_option maxRecDepth 100000 in
theorem s_X9_in (p0 : Int64) (p1 : Int64) (p2 : Int64)   : wp (f_X9_in   p0 p1 p2) (fun (y : Int32) => (0 ≤ y.toInt ∧ y.toInt ≤ 1) ∧ (¬ y = 0 → (p1.toInt ≤ p0.toInt + 0) ∧ (p0.toInt ≤ p2.toInt + 0))) := by
  have li0 : (0 : Int32).toInt = 0 := by decide
  have li1 : (1 : Int32).toInt = 1 := by decide
  unfold f_X9_in
  refine wp_if (fun c1 => ?_) (fun c1 => ?_)
  · have c1 := cvl_lt (a := p0.toInt) (b := p1.toInt) rfl rfl c1
    refine wp_some ?_
    exact (show (0 ≤ (0 : Int32).toInt ∧ (0 : Int32).toInt ≤ 1) ∧ (¬ (0 : Int32) = 0 → (p1.toInt ≤ p0.toInt + 0) ∧ (p0.toInt ≤ p2.toInt + 0)) from ⟨⟨by decide, by decide⟩, (fun h9 => absurd rfl h9)⟩)
  · have c1 := cvl_nlt (a := p0.toInt) (b := p1.toInt) rfl rfl c1
    refine wp_if (fun c2 => ?_) (fun c2 => ?_)
    · have c2 := cvl_gt (a := p0.toInt) (b := p2.toInt) rfl rfl c2
      refine wp_some ?_
      exact (show (0 ≤ (0 : Int32).toInt ∧ (0 : Int32).toInt ≤ 1) ∧ (¬ (0 : Int32) = 0 → (p1.toInt ≤ p0.toInt + 0) ∧ (p0.toInt ≤ p2.toInt + 0)) from ⟨⟨by decide, by decide⟩, (fun h9 => absurd rfl h9)⟩)
    · have c2 := cvl_ngt (a := p0.toInt) (b := p2.toInt) rfl rfl c2
      refine wp_some ?_
      exact (show (0 ≤ (1 : Int32).toInt ∧ (1 : Int32).toInt ≤ 1) ∧ (¬ (1 : Int32) = 0 → (p1.toInt ≤ p0.toInt + 0) ∧ (p0.toInt ≤ p2.toInt + 0)) from ⟨⟨by decide, by decide⟩, (fun h9 => ⟨by omega, by omega⟩)⟩)

set_option maxHeartbeats 4000000 in
set_option maxRecDepth 100000 in
theorem s_X9_isRace (p0 : Int32)   : wp (f_X9_isRace   p0) (fun (y : Int32) => (0 ≤ y.toInt ∧ y.toInt ≤ 1) ∧ (¬ y = 0 → (0 ≤ p0.toInt ∧ p0.toInt ≤ 3))) := by
  have li0 : (0 : Int64).toInt = 0 := by decide
  have li1 : (3 : Int64).toInt = 3 := by decide
  unfold f_X9_isRace
  have rg1 := i32_rg p0
  have t2 : p0.toInt64.toInt = p0.toInt := Int32.toInt_toInt64 _
  refine wp_bd (s_X9_in   p0.toInt64 (0 : Int64) (3 : Int64)    ) (fun z3 hz3 => ?_)
  obtain ⟨hz3_0, hz3_1⟩ := hz3
  refine wp_gd (zbo_of (by omega) (by omega)) ?_
  refine wp_some ?_
  exact (show (0 ≤ z3.toInt ∧ z3.toInt ≤ 1) ∧ (¬ z3 = 0 → (0 ≤ p0.toInt ∧ p0.toInt ≤ 3)) from ⟨⟨by omega, by omega⟩, (fun h9 => by have i0 := hz3_1 h9; exact ⟨by omega, by omega⟩)⟩)

set_option maxHeartbeats 4000000 in
set_option maxRecDepth 100000 in
theorem s_X9_reckon (o_me : Ob) (p0 : Int32) (p1 : Int64) (p2 : Int64) (hI_me : IvX9 o_me)  : wp (f_X9_reckon   o_me p0 p1 p2) (fun (y : Int64 × Ob) => IvX9 y.2 ∧ Kp [8, 13, 14, 15, 16, 19, 20, 21, 23, 26, 29, 30, 34, 43, 59, 62] [3, 7, 10, 12, 22, 24, 25, 27, 28, 42, 48, 50, 51, 55] [(3, (0 : Int32))] o_me y.2) := by
  have li0 : (0 : Int32).toInt = 0 := by decide
  have li1 : (0 : Int64).toInt = 0 := by decide
  have li2 : (1 : Int32).toInt = 1 := by decide
  have li3 : (1 : Int64).toInt = 1 := by decide
  unfold f_X9_reckon
  refine wp_if (fun c1 => ?_) (fun c1 => ?_)
  · have c1 := cv_eq (a := p0.toInt) (b := 20) rfl (by decide) c1
    refine wp_some ?_
    exact (show IvX9 o_me ∧ Kp [8, 13, 14, 15, 16, 19, 20, 21, 23, 26, 29, 30, 34, 43, 59, 62] [3, 7, 10, 12, 22, 24, 25, 27, 28, 42, 48, 50, 51, 55] [(3, (0 : Int32))] o_me o_me from ⟨hI_me, Kp.rf⟩)
  have c1 := cv_ne (a := p0.toInt) (b := 20) rfl (by decide) c1
  refine wp_if (fun c2 => ?_) (fun c2 => ?_)
  · have c2 := cv_eq (a := p0.toInt) (b := 21) rfl (by decide) c2
    refine wp_some ?_
    exact (show IvX9 o_me ∧ Kp [8, 13, 14, 15, 16, 19, 20, 21, 23, 26, 29, 30, 34, 43, 59, 62] [3, 7, 10, 12, 22, 24, 25, 27, 28, 42, 48, 50, 51, 55] [(3, (0 : Int32))] o_me o_me from ⟨hI_me, Kp.rf⟩)
  have c2 := cv_ne (a := p0.toInt) (b := 21) rfl (by decide) c2
  refine wp_if (fun c3 => ?_) (fun c3 => ?_)
  · have c3 := cv_eq (a := p0.toInt) (b := 22) rfl (by decide) c3
    refine wp_some ?_
    exact (show IvX9 o_me ∧ Kp [8, 13, 14, 15, 16, 19, 20, 21, 23, 26, 29, 30, 34, 43, 59, 62] [3, 7, 10, 12, 22, 24, 25, 27, 28, 42, 48, 50, 51, 55] [(3, (0 : Int32))] o_me o_me from ⟨hI_me, Kp.rf⟩)
  have c3 := cv_ne (a := p0.toInt) (b := 22) rfl (by decide) c3
  refine wp_if (fun c4 => ?_) (fun c4 => ?_)
  · have c4 := cv_eq (a := p0.toInt) (b := 23) rfl (by decide) c4
    refine wp_if (fun c5 => ?_) (fun c5 => ?_)
    · have c5 := cvl_eq (a := p2.toInt) (b := 0) rfl (by decide) c5
      obtain ⟨w6, ew6⟩ : ∃ z : Int32, z = (1 : Int32) := ⟨_, rfl⟩
      have tw6 : w6.toInt = 1 := by rw [ew6]; decide
      rw [show bk_X9_reckon_72   p1 p2 (1 : Int32) o_me = bk_X9_reckon_72   p1 p2 w6 o_me from by rw [ew6]]
      unfold bk_X9_reckon_72
      refine wp_gd (zbo_of (by omega) (by omega)) ?_
      refine wp_lt (fun o7 eo7 => ?_)
      have hIo7 : IvX9 o7 := by rw [eo7]; exact ipX9_38 hI_me ⟨by omega, by omega⟩
      have ko7_v : (gI o7 38).toInt = w6.toInt := by rw [eo7]; rfl
      have hkpo7 : Kp [8, 13, 14, 15, 16, 19, 20, 21, 23, 26, 29, 30, 34, 43, 59, 62] [3, 7, 10, 12, 22, 24, 25, 27, 28, 42, 48, 50, 51, 55] [(3, (0 : Int32))] o_me o7 := Kp.rf.trans (by rw [eo7]; exact Kp.sI (by decide))
      refine wp_if (fun c8 => ?_) (fun c8 => ?_)
      · have c8 := cv_eq (a := (gI o7 38).toInt) (b := 0) rfl (by decide) c8
        exfalso; omega
      · have c8z := c8
        have c8 := cv_ne (a := (gI o7 38).toInt) (b := 0) rfl (by decide) c8
        refine wp_some ?_
        exact (show IvX9 o7 ∧ Kp [8, 13, 14, 15, 16, 19, 20, 21, 23, 26, 29, 30, 34, 43, 59, 62] [3, 7, 10, 12, 22, 24, 25, 27, 28, 42, 48, 50, 51, 55] [(3, (0 : Int32))] o_me o7 from ⟨hIo7, hkpo7⟩)
    · have c5z := mt (fun e9 => (lg_cmp_eq _ _).mpr e9) c5
      have c5 := cvl_ne (a := p2.toInt) (b := 0) rfl (by decide) c5
      obtain ⟨w9, ew9⟩ : ∃ z : Int32, z = (0 : Int32) := ⟨_, rfl⟩
      have tw9 : w9.toInt = 0 := by rw [ew9]; decide
      rw [show bk_X9_reckon_72   p1 p2 (0 : Int32) o_me = bk_X9_reckon_72   p1 p2 w9 o_me from by rw [ew9]]
      unfold bk_X9_reckon_72
      refine wp_gd (zbo_of (by omega) (by omega)) ?_
      refine wp_lt (fun o10 eo10 => ?_)
      have hIo10 : IvX9 o10 := by rw [eo10]; exact ipX9_38 hI_me ⟨by omega, by omega⟩
      have ko10_v : (gI o10 38).toInt = w9.toInt := by rw [eo10]; rfl
      have hkpo10 : Kp [8, 13, 14, 15, 16, 19, 20, 21, 23, 26, 29, 30, 34, 43, 59, 62] [3, 7, 10, 12, 22, 24, 25, 27, 28, 42, 48, 50, 51, 55] [(3, (0 : Int32))] o_me o10 := Kp.rf.trans (by rw [eo10]; exact Kp.sI (by decide))
      refine wp_if (fun c11 => ?_) (fun c11 => ?_)
      · have c11 := cv_eq (a := (gI o10 38).toInt) (b := 0) rfl (by decide) c11
        refine wp_gd (decide_eq_true c5z) ?_
        refine wp_some ?_
        exact (show IvX9 o10 ∧ Kp [8, 13, 14, 15, 16, 19, 20, 21, 23, 26, 29, 30, 34, 43, 59, 62] [3, 7, 10, 12, 22, 24, 25, 27, 28, 42, 48, 50, 51, 55] [(3, (0 : Int32))] o_me o10 from ⟨hIo10, hkpo10⟩)
      · have c11z := c11
        have c11 := cv_ne (a := (gI o10 38).toInt) (b := 0) rfl (by decide) c11
        exfalso; omega
  have c4 := cv_ne (a := p0.toInt) (b := 23) rfl (by decide) c4
  refine wp_if (fun c12 => ?_) (fun c12 => ?_)
  · have c12 := cv_eq (a := p0.toInt) (b := 24) rfl (by decide) c12
    refine wp_if (fun c13 => ?_) (fun c13 => ?_)
    · have c13 := cvl_eq (a := p2.toInt) (b := 0) rfl (by decide) c13
      obtain ⟨w14, ew14⟩ : ∃ z : Int32, z = (1 : Int32) := ⟨_, rfl⟩
      have tw14 : w14.toInt = 1 := by rw [ew14]; decide
      rw [show bk_X9_reckon_104   p1 p2 (1 : Int32) o_me = bk_X9_reckon_104   p1 p2 w14 o_me from by rw [ew14]]
      unfold bk_X9_reckon_104
      refine wp_gd (zbo_of (by omega) (by omega)) ?_
      refine wp_lt (fun o15 eo15 => ?_)
      have hIo15 : IvX9 o15 := by rw [eo15]; exact ipX9_38 hI_me ⟨by omega, by omega⟩
      have ko15_v : (gI o15 38).toInt = w14.toInt := by rw [eo15]; rfl
      have hkpo15 : Kp [8, 13, 14, 15, 16, 19, 20, 21, 23, 26, 29, 30, 34, 43, 59, 62] [3, 7, 10, 12, 22, 24, 25, 27, 28, 42, 48, 50, 51, 55] [(3, (0 : Int32))] o_me o15 := Kp.rf.trans (by rw [eo15]; exact Kp.sI (by decide))
      refine wp_if (fun c16 => ?_) (fun c16 => ?_)
      · have c16 := cv_eq (a := (gI o15 38).toInt) (b := 0) rfl (by decide) c16
        exfalso; omega
      · have c16z := c16
        have c16 := cv_ne (a := (gI o15 38).toInt) (b := 0) rfl (by decide) c16
        refine wp_some ?_
        exact (show IvX9 o15 ∧ Kp [8, 13, 14, 15, 16, 19, 20, 21, 23, 26, 29, 30, 34, 43, 59, 62] [3, 7, 10, 12, 22, 24, 25, 27, 28, 42, 48, 50, 51, 55] [(3, (0 : Int32))] o_me o15 from ⟨hIo15, hkpo15⟩)
    · have c13z := mt (fun e9 => (lg_cmp_eq _ _).mpr e9) c13
      have c13 := cvl_ne (a := p2.toInt) (b := 0) rfl (by decide) c13
      obtain ⟨w17, ew17⟩ : ∃ z : Int32, z = (0 : Int32) := ⟨_, rfl⟩
      have tw17 : w17.toInt = 0 := by rw [ew17]; decide
      rw [show bk_X9_reckon_104   p1 p2 (0 : Int32) o_me = bk_X9_reckon_104   p1 p2 w17 o_me from by rw [ew17]]
      unfold bk_X9_reckon_104
      refine wp_gd (zbo_of (by omega) (by omega)) ?_
      refine wp_lt (fun o18 eo18 => ?_)
      have hIo18 : IvX9 o18 := by rw [eo18]; exact ipX9_38 hI_me ⟨by omega, by omega⟩
      have ko18_v : (gI o18 38).toInt = w17.toInt := by rw [eo18]; rfl
      have hkpo18 : Kp [8, 13, 14, 15, 16, 19, 20, 21, 23, 26, 29, 30, 34, 43, 59, 62] [3, 7, 10, 12, 22, 24, 25, 27, 28, 42, 48, 50, 51, 55] [(3, (0 : Int32))] o_me o18 := Kp.rf.trans (by rw [eo18]; exact Kp.sI (by decide))
      refine wp_if (fun c19 => ?_) (fun c19 => ?_)
      · have c19 := cv_eq (a := (gI o18 38).toInt) (b := 0) rfl (by decide) c19
        refine wp_gd (decide_eq_true c13z) ?_
        refine wp_some ?_
        exact (show IvX9 o18 ∧ Kp [8, 13, 14, 15, 16, 19, 20, 21, 23, 26, 29, 30, 34, 43, 59, 62] [3, 7, 10, 12, 22, 24, 25, 27, 28, 42, 48, 50, 51, 55] [(3, (0 : Int32))] o_me o18 from ⟨hIo18, hkpo18⟩)
      · have c19z := c19
        have c19 := cv_ne (a := (gI o18 38).toInt) (b := 0) rfl (by decide) c19
        exfalso; omega
  have c12 := cv_ne (a := p0.toInt) (b := 24) rfl (by decide) c12
  refine wp_if (fun c20 => ?_) (fun c20 => ?_)
  · have c20 := cv_eq (a := p0.toInt) (b := 25) rfl (by decide) c20
    refine wp_if (fun c21 => ?_) (fun c21 => ?_)
    · have c21 := cvl_ge (a := p1.toInt) (b := p2.toInt) rfl rfl c21
      refine wp_some ?_
      exact (show IvX9 o_me ∧ Kp [8, 13, 14, 15, 16, 19, 20, 21, 23, 26, 29, 30, 34, 43, 59, 62] [3, 7, 10, 12, 22, 24, 25, 27, 28, 42, 48, 50, 51, 55] [(3, (0 : Int32))] o_me o_me from ⟨hI_me, Kp.rf⟩)
    · have c21 := cvl_nge (a := p1.toInt) (b := p2.toInt) rfl rfl c21
      refine wp_some ?_
      exact (show IvX9 o_me ∧ Kp [8, 13, 14, 15, 16, 19, 20, 21, 23, 26, 29, 30, 34, 43, 59, 62] [3, 7, 10, 12, 22, 24, 25, 27, 28, 42, 48, 50, 51, 55] [(3, (0 : Int32))] o_me o_me from ⟨hI_me, Kp.rf⟩)
  have c20 := cv_ne (a := p0.toInt) (b := 25) rfl (by decide) c20
  refine wp_if (fun c22 => ?_) (fun c22 => ?_)
  · have c22 := cv_eq (a := p0.toInt) (b := 26) rfl (by decide) c22
    refine wp_if (fun c23 => ?_) (fun c23 => ?_)
    · have c23 := cvl_le (a := p1.toInt) (b := p2.toInt) rfl rfl c23
      refine wp_some ?_
      exact (show IvX9 o_me ∧ Kp [8, 13, 14, 15, 16, 19, 20, 21, 23, 26, 29, 30, 34, 43, 59, 62] [3, 7, 10, 12, 22, 24, 25, 27, 28, 42, 48, 50, 51, 55] [(3, (0 : Int32))] o_me o_me from ⟨hI_me, Kp.rf⟩)
    · have c23 := cvl_nle (a := p1.toInt) (b := p2.toInt) rfl rfl c23
      refine wp_some ?_
      exact (show IvX9 o_me ∧ Kp [8, 13, 14, 15, 16, 19, 20, 21, 23, 26, 29, 30, 34, 43, 59, 62] [3, 7, 10, 12, 22, 24, 25, 27, 28, 42, 48, 50, 51, 55] [(3, (0 : Int32))] o_me o_me from ⟨hI_me, Kp.rf⟩)
  have c22 := cv_ne (a := p0.toInt) (b := 26) rfl (by decide) c22
  refine wp_if (fun c24 => ?_) (fun c24 => ?_)
  · have c24 := cvl_eq (a := p1.toInt) (b := p2.toInt) rfl rfl c24
    refine wp_some ?_
    exact (show IvX9 o_me ∧ Kp [8, 13, 14, 15, 16, 19, 20, 21, 23, 26, 29, 30, 34, 43, 59, 62] [3, 7, 10, 12, 22, 24, 25, 27, 28, 42, 48, 50, 51, 55] [(3, (0 : Int32))] o_me o_me from ⟨hI_me, Kp.rf⟩)
  · have c24 := cvl_ne (a := p1.toInt) (b := p2.toInt) rfl rfl c24
    refine wp_some ?_
    exact (show IvX9 o_me ∧ Kp [8, 13, 14, 15, 16, 19, 20, 21, 23, 26, 29, 30, 34, 43, 59, 62] [3, 7, 10, 12, 22, 24, 25, 27, 28, 42, 48, 50, 51, 55] [(3, (0 : Int32))] o_me o_me from ⟨hI_me, Kp.rf⟩)

set_option maxHeartbeats 4000000 in
set_option maxRecDepth 100000 in
theorem s_X9_isPerson (o_me : Ob) (p0 : Int32) (hI_me : IvX9 o_me)  : wp (f_X9_isPerson   o_me p0) (fun (y : Int32) => (0 ≤ y.toInt ∧ y.toInt ≤ 1) ∧ (¬ y = 0 → (0 ≤ p0.toInt ∧ p0.toInt ≤ 6))) := by
  have li0 : (0 : Int32).toInt = 0 := by decide
  have li1 : (0 : Int64).toInt = 0 := by decide
  have li2 : (1 : Int64).toInt = 1 := by decide
  unfold f_X9_isPerson
  have rg1 := i32_rg p0
  have t2 : p0.toInt64.toInt = p0.toInt := Int32.toInt_toInt64 _
  have t3 := iaX9_3_0 hI_me (j := (0 : Int32)) (by decide) (by decide)
  have t4 : ((gA o_me 3 (0 : Int32).toNatClampNeg).toInt64).toInt = (gA o_me 3 (0 : Int32).toNatClampNeg).toInt := Int32.toInt_toInt64 _
  have t5 : (((gA o_me 3 (0 : Int32).toNatClampNeg).toInt64) - (1 : Int64)).toInt = ((gA o_me 3 (0 : Int32).toNatClampNeg).toInt64).toInt - 1 := i64_sub rfl (by decide) (by omega) (by omega)
  refine wp_bd (s_X9_in   p0.toInt64 (0 : Int64) (((gA o_me 3 (0 : Int32).toNatClampNeg).toInt64) - (1 : Int64))    ) (fun z6 hz6 => ?_)
  obtain ⟨hz6_0, hz6_1⟩ := hz6
  refine wp_gd (zbo_of (by omega) (by omega)) ?_
  refine wp_some ?_
  exact (show (0 ≤ z6.toInt ∧ z6.toInt ≤ 1) ∧ (¬ z6 = 0 → (0 ≤ p0.toInt ∧ p0.toInt ≤ 6)) from ⟨⟨by omega, by omega⟩, (fun h9 => by have i0 := hz6_1 h9; exact ⟨by omega, by omega⟩)⟩)

set_option maxHeartbeats 4000000 in
set_option maxRecDepth 100000 in
theorem s_X9_tells (o_me : Ob) (p0 : Int32) (p1 : Int32) (p2 : Int32) (p3 : Int32) (p4 : Int64) (hI_me : IvX9 o_me) (q0 : 0 ≤ p1.toInt ∧ p1.toInt ≤ 6) (q1 : 0 ≤ p2.toInt ∧ p2.toInt ≤ 9) (q2 : 0 ≤ (gI o_me 20).toInt ∧ (gI o_me 20).toInt ≤ 0) : wp (f_X9_tells   o_me p0 p1 p2 p3 p4) (fun (y : Int64 × Ob) => IvX9 y.2 ∧ Kp [8, 13, 14, 15, 16, 19, 20, 21, 23, 26, 29, 30, 43, 59, 62] [3, 7, 10, 12, 22, 24, 25, 27, 28, 42, 48, 50, 51, 55] [(3, (0 : Int32))] o_me y.2) := by
  sorry

set_option maxHeartbeats 4000000 in
set_option maxRecDepth 100000 in
theorem s_X9_isBarred (o_me : Ob) (p0 : Int32) (p1 : Int32) (hI_me : IvX9 o_me) (q0 : 0 ≤ p0.toInt ∧ p0.toInt ≤ 6) (q1 : 0 ≤ p1.toInt ∧ p1.toInt ≤ 9) (q2 : 0 ≤ (gI o_me 20).toInt ∧ (gI o_me 20).toInt ≤ 0) : wp (f_X9_isBarred   o_me p0 p1) (fun (y : Int32 × Ob) => (0 ≤ y.1.toInt ∧ y.1.toInt ≤ 1) ∧ IvX9 y.2 ∧ Kp [8, 13, 14, 15, 16, 19, 20, 21, 23, 26, 29, 30, 43, 59, 62] [3, 7, 10, 12, 22, 24, 25, 27, 28, 42, 48, 50, 51, 55] [(3, (0 : Int32))] o_me y.2) := by
  have li0 : (-1 : Int32).toInt = (-1) := by decide
  have li1 : (0 : Int32).toInt = 0 := by decide
  have li2 : (0 : Int64).toInt = 0 := by decide
  have li3 : (1 : Int32).toInt = 1 := by decide
  have li4 : (1 : Int64).toInt = 1 := by decide
  have li5 : (3 : Int32).toInt = 3 := by decide
  unfold f_X9_isBarred
  refine wp_bd (s_X9_tells   o_me (3 : Int32) p0 p1 (-1 : Int32) (0 : Int64)  hI_me  ⟨by omega, by omega⟩ ⟨by omega, by omega⟩ ⟨by omega, by omega⟩) (fun z1 hz1 => ?_)
  obtain ⟨hz1_0, hz1_1⟩ := hz1
  have hkpz1_me : Kp [8, 13, 14, 15, 16, 19, 20, 21, 23, 26, 29, 30, 43, 59, 62] [3, 7, 10, 12, 22, 24, 25, 27, 28, 42, 48, 50, 51, 55] [(3, (0 : Int32))] o_me z1.2 := Kp.rf.trans (hz1_1.mono (by decide) (by decide) (by decide))
  have kz1_k2 : (gI z1.2 20).toInt = (gI o_me 20).toInt := congrArg Int32.toInt (hz1_1.1 20 (by decide))
  refine wp_if (fun c3 => ?_) (fun c3 => ?_)
  · have c3 := cvl_eq (a := z1.1.toInt) (b := 1) rfl (by decide) c3
    refine wp_some ?_
    exact (show (0 ≤ (1 : Int32).toInt ∧ (1 : Int32).toInt ≤ 1) ∧ IvX9 z1.2 ∧ Kp [8, 13, 14, 15, 16, 19, 20, 21, 23, 26, 29, 30, 43, 59, 62] [3, 7, 10, 12, 22, 24, 25, 27, 28, 42, 48, 50, 51, 55] [(3, (0 : Int32))] o_me z1.2 from ⟨⟨by decide, by decide⟩, hz1_0, hkpz1_me⟩)
  · have c3 := cvl_ne (a := z1.1.toInt) (b := 1) rfl (by decide) c3
    refine wp_some ?_
    exact (show (0 ≤ (0 : Int32).toInt ∧ (0 : Int32).toInt ≤ 1) ∧ IvX9 z1.2 ∧ Kp [8, 13, 14, 15, 16, 19, 20, 21, 23, 26, 29, 30, 43, 59, 62] [3, 7, 10, 12, 22, 24, 25, 27, 28, 42, 48, 50, 51, 55] [(3, (0 : Int32))] o_me z1.2 from ⟨⟨by decide, by decide⟩, hz1_0, hkpz1_me⟩)

set_option maxHeartbeats 4000000 in
set_option maxRecDepth 100000 in
theorem s_X9_within (p0 : Int64) (p1 : Int32) (p2 : Int32)  (r0 : p1.toInt ≤ p2.toInt + 0) : wp (f_X9_within   p0 p1 p2) (fun (y : Int32) => (y.toInt ≤ p2.toInt + 0) ∧ (p1.toInt ≤ y.toInt + 0)) := by
  sorry

set_option maxHeartbeats 4000000 in
set_option maxRecDepth 100000 in
theorem s_X9_runsOf (o_me : Ob) (p0 : Int32) (p1 : Int32) (hI_me : IvX9 o_me) (q0 : 0 ≤ p0.toInt ∧ p0.toInt ≤ 6) (q1 : 0 ≤ p1.toInt ∧ p1.toInt ≤ 9) (q2 : 0 ≤ (gI o_me 20).toInt ∧ (gI o_me 20).toInt ≤ 0) : wp (f_X9_runsOf   o_me p0 p1) (fun (y : Int32 × Ob) => (0 ≤ y.1.toInt ∧ y.1.toInt ≤ 99) ∧ IvX9 y.2 ∧ Kp [8, 13, 14, 15, 16, 19, 20, 21, 23, 26, 29, 30, 43, 59, 62] [3, 7, 10, 12, 22, 24, 25, 27, 28, 42, 48, 50, 51, 55] [(3, (0 : Int32))] o_me y.2) := by
  have li0 : (-1 : Int32).toInt = (-1) := by decide
  have li1 : (0 : Int32).toInt = 0 := by decide
  have li2 : (36 : Int32).toInt = 36 := by decide
  have li3 : (4 : Int32).toInt = 4 := by decide
  have li4 : (99 : Int32).toInt = 99 := by decide
  unfold f_X9_runsOf
  have t1 : ((4 : Int32) * p0).toInt = 4 * p0.toInt := i32_mul (by decide) rfl (by omega) (by omega)
  have t2 : ((36 : Int32) + ((4 : Int32) * p0)).toInt = 36 + ((4 : Int32) * p0).toInt := i32_add (by decide) rfl (by omega) (by omega)
  have t3 : (((36 : Int32) + ((4 : Int32) * p0)) + p1).toInt = ((36 : Int32) + ((4 : Int32) * p0)).toInt + p1.toInt := i32_add rfl rfl (by omega) (by omega)
  refine wp_gd (zin_of (m := 5484) rfl (by omega) (by omega)) ?_
  have rg4 := i32_rg (gA o_me 3 (((36 : Int32) + ((4 : Int32) * p0)) + p1).toNatClampNeg)
  have t5 : ((gA o_me 3 (((36 : Int32) + ((4 : Int32) * p0)) + p1).toNatClampNeg).toInt64).toInt = (gA o_me 3 (((36 : Int32) + ((4 : Int32) * p0)) + p1).toNatClampNeg).toInt := Int32.toInt_toInt64 _
  refine wp_bd (s_X9_tells   o_me (0 : Int32) p0 p1 (-1 : Int32) ((gA o_me 3 (((36 : Int32) + ((4 : Int32) * p0)) + p1).toNatClampNeg).toInt64)  hI_me  ⟨by omega, by omega⟩ ⟨by omega, by omega⟩ ⟨by omega, by omega⟩) (fun z6 hz6 => ?_)
  obtain ⟨hz6_0, hz6_1⟩ := hz6
  have hkpz6_me : Kp [8, 13, 14, 15, 16, 19, 20, 21, 23, 26, 29, 30, 43, 59, 62] [3, 7, 10, 12, 22, 24, 25, 27, 28, 42, 48, 50, 51, 55] [(3, (0 : Int32))] o_me z6.2 := Kp.rf.trans (hz6_1.mono (by decide) (by decide) (by decide))
  have kz6_k7 : (gA z6.2 3 (((36 : Int32) + ((4 : Int32) * p0)) + p1).toNatClampNeg).toInt = (gA o_me 3 (((36 : Int32) + ((4 : Int32) * p0)) + p1).toNatClampNeg).toInt := congrArg (fun g => (g (((36 : Int32) + ((4 : Int32) * p0)) + p1).toNatClampNeg).toInt) (hz6_1.2.1 3 (by decide))
  have kz6_k8 : (gI z6.2 20).toInt = (gI o_me 20).toInt := congrArg Int32.toInt (hz6_1.1 20 (by decide))
  refine wp_bd (s_X9_within   z6.1 (0 : Int32) (99 : Int32)    (by omega)) (fun z9 hz9 => ?_)
  obtain ⟨hz9_0, hz9_1⟩ := hz9
  refine wp_some ?_
  exact (show (0 ≤ z9.toInt ∧ z9.toInt ≤ 99) ∧ IvX9 z6.2 ∧ Kp [8, 13, 14, 15, 16, 19, 20, 21, 23, 26, 29, 30, 43, 59, 62] [3, 7, 10, 12, 22, 24, 25, 27, 28, 42, 48, 50, 51, 55] [(3, (0 : Int32))] o_me z6.2 from ⟨⟨by omega, by omega⟩, hz6_0, hkpz6_me⟩)

set_option maxHeartbeats 4000000 in
set_option maxRecDepth 100000 in
theorem s_X9_layPlaces (o_me : Ob) (p0 : Int32) (hI_me : IvX9 o_me) (q0 : 0 ≤ p0.toInt ∧ p0.toInt ≤ 3) (q1 : 0 ≤ (gI o_me 20).toInt ∧ (gI o_me 20).toInt ≤ 0) : wp (f_X9_layPlaces   o_me p0) (fun (y : Ob) => IvX9 y ∧ Kp [8, 13, 14, 15, 16, 19, 20, 21, 23, 26, 29, 30, 59, 62] [3, 7, 10, 12, 22, 24, 25, 27, 28, 48, 50, 51, 55] [(3, (0 : Int32))] o_me y) := by
  have li0 : (0 : Int32).toInt = 0 := by decide
  have li1 : (1 : Int32).toInt = 1 := by decide
  have li2 : (22 : Int32).toInt = 22 := by decide
  unfold f_X9_layPlaces
  refine wp_lt (fun o1 eo1 => ?_)
  have hIo1 : IvX9 o1 := by rw [eo1]; exact ipX9_43 hI_me ⟨by decide, by decide⟩
  have ko1_k2 : (gI o1 20).toInt = (gI o_me 20).toInt := by rw [eo1]; rfl
  have ko1_v : (gI o1 43).toInt = 0 := by rw [eo1]; exact (show ((0 : Int32)).toInt = _ from by decide)
  have hkpo1 : Kp [8, 13, 14, 15, 16, 19, 20, 21, 23, 26, 29, 30, 59, 62] [3, 7, 10, 12, 22, 24, 25, 27, 28, 48, 50, 51, 55] [(3, (0 : Int32))] o_me o1 := Kp.rf.trans (by rw [eo1]; exact Kp.sI (by decide))
  have lp1 : ∀ (N1 : Nat) (v1_1 : Int32) (v2_1 : Int32) (o_me_1 : Ob), IvX9 o_me_1 → Kp [8, 13, 14, 15, 16, 19, 20, 21, 23, 26, 29, 30, 59, 62] [3, 7, 10, 12, 22, 24, 25, 27, 28, 48, 50, 51, 55] [(3, (0 : Int32))] o_me o_me_1 → (0 ≤ v1_1.toInt ∧ v1_1.toInt ≤ 3) → (0 ≤ v2_1.toInt ∧ v2_1.toInt ≤ 7) → (0 ≤ (gI o_me_1 20).toInt ∧ (gI o_me_1 20).toInt ≤ 0) → (0 ≤ (gI o_me_1 43).toInt ∧ (gI o_me_1 43).toInt ≤ 7) → ((gI o_me_1 43).toInt ≤ v2_1.toInt + 0) → (v1_1.toInt ≤ p0.toInt + 0) → (p0.toInt ≤ v1_1.toInt + 0) → (7 - v2_1.toInt).toNat < N1 → wp (lp_X9_layPlaces_7   N1 (v1_1, v2_1, o_me_1)) (fun (y : Ob) => IvX9 y ∧ Kp [8, 13, 14, 15, 16, 19, 20, 21, 23, 26, 29, 30, 59, 62] [3, 7, 10, 12, 22, 24, 25, 27, 28, 48, 50, 51, 55] [(3, (0 : Int32))] o_me y) := by
    intro N1
    induction N1 with
    | zero =>
      intro v1_1 v2_1 o_me_1 hI_me_1 hkp_me_1 hh5 hh6 hh7 hh8 hh9 hh10 hh11 hN1
      exact absurd hN1 (Nat.not_lt_zero _)
    | succ N1 ihx =>
      have ih1 := ihx
      intro v1_1 v2_1 o_me_1 hI_me_1 hkp_me_1 hh5 hh6 hh7 hh8 hh9 hh10 hh11 hN1
      show wp (lb_X9_layPlaces_7   (lp_X9_layPlaces_7   N1) v1_1 v2_1 o_me_1) (fun (y : Ob) => IvX9 y ∧ Kp [8, 13, 14, 15, 16, 19, 20, 21, 23, 26, 29, 30, 59, 62] [3, 7, 10, 12, 22, 24, 25, 27, 28, 48, 50, 51, 55] [(3, (0 : Int32))] o_me y)
      unfold lb_X9_layPlaces_7
      have kc12 : (gA o_me_1 3 (0 : Int32).toNatClampNeg).toInt = (gA o_me 3 (0 : Int32).toNatClampNeg).toInt := congrArg Int32.toInt (hkp_me_1.2.2 (3, (0 : Int32)) (by decide))
      have t13 := iaX9_3_0 hI_me_1 (j := (0 : Int32)) (by decide) (by decide)
      refine wp_if (fun c14 => ?_) (fun c14 => ?_)
      · have c14 := cv_ge (a := v2_1.toInt) (b := (gA o_me_1 3 (0 : Int32).toNatClampNeg).toInt) rfl rfl c14
        refine wp_some ?_
        exact (show IvX9 o_me_1 ∧ Kp [8, 13, 14, 15, 16, 19, 20, 21, 23, 26, 29, 30, 59, 62] [3, 7, 10, 12, 22, 24, 25, 27, 28, 48, 50, 51, 55] [(3, (0 : Int32))] o_me o_me_1 from ⟨hI_me_1, hkp_me_1⟩)
      · have c14 := cv_nge (a := v2_1.toInt) (b := (gA o_me_1 3 (0 : Int32).toNatClampNeg).toInt) rfl rfl c14
        have t15 : ((22 : Int32) + v2_1).toInt = 22 + v2_1.toInt := i32_add (by decide) rfl (by omega) (by omega)
        refine wp_gd (zin_of (m := 5484) rfl (by omega) (by omega)) ?_
        have t16 := iaX9_3_6 hI_me_1 (j := (22 : Int32) + v2_1) (by omega) (by omega)
        refine wp_if (fun c17 => ?_) (fun c17 => ?_)
        · have c17 := cv_eq (a := (gA o_me_1 3 ((22 : Int32) + v2_1).toNatClampNeg).toInt) (b := 1) rfl (by decide) c17
          refine wp_bd (s_X9_isBarred   o_me_1 v2_1 v1_1  hI_me_1  ⟨by omega, by omega⟩ ⟨by omega, by omega⟩ ⟨by omega, by omega⟩) (fun z18 hz18 => ?_)
          obtain ⟨hz18_0, hz18_1, hz18_2⟩ := hz18
          have hkpz18_me : Kp [8, 13, 14, 15, 16, 19, 20, 21, 23, 26, 29, 30, 59, 62] [3, 7, 10, 12, 22, 24, 25, 27, 28, 48, 50, 51, 55] [(3, (0 : Int32))] o_me z18.2 := hkp_me_1.trans (hz18_2.mono (by decide) (by decide) (by decide))
          have kz18_k19 : (gA z18.2 3 ((22 : Int32) + v2_1).toNatClampNeg).toInt = (gA o_me_1 3 ((22 : Int32) + v2_1).toNatClampNeg).toInt := congrArg (fun g => (g ((22 : Int32) + v2_1).toNatClampNeg).toInt) (hz18_2.2.1 3 (by decide))
          have kz18_k20 : (gA z18.2 3 (0 : Int32).toNatClampNeg).toInt = (gA o_me_1 3 (0 : Int32).toNatClampNeg).toInt := congrArg (fun g => (g (0 : Int32).toNatClampNeg).toInt) (hz18_2.2.1 3 (by decide))
          have kz18_k21 : (gI z18.2 20).toInt = (gI o_me_1 20).toInt := congrArg Int32.toInt (hz18_2.1 20 (by decide))
          have kz18_k22 : (gI z18.2 43).toInt = (gI o_me_1 43).toInt := congrArg Int32.toInt (hz18_2.1 43 (by decide))
          refine wp_if (fun c23 => ?_) (fun c23 => ?_)
          · have c23 := cv_eq (a := z18.1.toInt) (b := 0) rfl (by decide) c23
            refine wp_bd (s_X9_runsOf   z18.2 v2_1 v1_1  hz18_1  ⟨by omega, by omega⟩ ⟨by omega, by omega⟩ ⟨by omega, by omega⟩) (fun z24 hz24 => ?_)
            obtain ⟨hz24_0, hz24_1, hz24_2⟩ := hz24
            have hkpz24_me : Kp [8, 13, 14, 15, 16, 19, 20, 21, 23, 26, 29, 30, 59, 62] [3, 7, 10, 12, 22, 24, 25, 27, 28, 48, 50, 51, 55] [(3, (0 : Int32))] o_me z24.2 := hkpz18_me.trans (hz24_2.mono (by decide) (by decide) (by decide))
            have kz24_k25 : (gA z24.2 3 ((22 : Int32) + v2_1).toNatClampNeg).toInt = (gA z18.2 3 ((22 : Int32) + v2_1).toNatClampNeg).toInt := congrArg (fun g => (g ((22 : Int32) + v2_1).toNatClampNeg).toInt) (hz24_2.2.1 3 (by decide))
            have kz24_k26 : (gA z24.2 3 (0 : Int32).toNatClampNeg).toInt = (gA z18.2 3 (0 : Int32).toNatClampNeg).toInt := congrArg (fun g => (g (0 : Int32).toNatClampNeg).toInt) (hz24_2.2.1 3 (by decide))
            have kz24_k27 : (gI z24.2 20).toInt = (gI z18.2 20).toInt := congrArg Int32.toInt (hz24_2.1 20 (by decide))
            have kz24_k28 : (gI z24.2 43).toInt = (gI z18.2 43).toInt := congrArg Int32.toInt (hz24_2.1 43 (by decide))
            refine wp_gd (zin_of (m := 7) rfl (by omega) (by omega)) ?_
            refine wp_lt (fun o29 eo29 => ?_)
            have hIo29 : IvX9 o29 := by rw [eo29]; exact hz24_1
            have ko29_k30 : (gA o29 3 ((22 : Int32) + v2_1).toNatClampNeg).toInt = (gA z24.2 3 ((22 : Int32) + v2_1).toNatClampNeg).toInt := by rw [eo29]; rfl
            have ko29_k31 : (gA o29 3 (0 : Int32).toNatClampNeg).toInt = (gA z24.2 3 (0 : Int32).toNatClampNeg).toInt := by rw [eo29]; rfl
            have ko29_k32 : (gI o29 20).toInt = (gI z24.2 20).toInt := by rw [eo29]; rfl
            have ko29_k33 : (gI o29 43).toInt = (gI z24.2 43).toInt := by rw [eo29]; rfl
            have ko29_v : (gA o29 41 v2_1.toNatClampNeg).toInt = z24.1.toInt := by rw [eo29]; exact congrArg Int32.toInt (upd_eq (g := gA z24.2 41) (i := v2_1) (v := z24.1))
            have hkpo29 : Kp [8, 13, 14, 15, 16, 19, 20, 21, 23, 26, 29, 30, 59, 62] [3, 7, 10, 12, 22, 24, 25, 27, 28, 48, 50, 51, 55] [(3, (0 : Int32))] o_me o29 := hkpz24_me.trans (by rw [eo29]; exact Kp.tA (by decide) (by decide))
            refine wp_lt (fun x34 ex34 => ?_)
            have tx34 : x34.toInt = (gI o29 43).toInt := by rw [ex34]
            have lp2 : ∀ (N2 : Nat) (v1_2 : Int32) (v2_2 : Int32) (v3_2 : Int32) (o_me_2 : Ob), IvX9 o_me_2 → Kp [8, 13, 14, 15, 16, 19, 20, 21, 23, 26, 29, 30, 59, 62] [3, 7, 10, 12, 22, 24, 25, 27, 28, 48, 50, 51, 55] [(3, (0 : Int32))] o_me o_me_2 → (0 ≤ v1_2.toInt ∧ v1_2.toInt ≤ 3) → (0 ≤ v2_2.toInt ∧ v2_2.toInt ≤ 6) → (0 ≤ v3_2.toInt ∧ v3_2.toInt ≤ 6) → (0 ≤ (gI o_me_2 20).toInt ∧ (gI o_me_2 20).toInt ≤ 0) → (0 ≤ (gI o_me_2 43).toInt ∧ (gI o_me_2 43).toInt ≤ 6) → (v3_2.toInt ≤ v2_2.toInt + 0) → (v3_2.toInt ≤ (gI o_me_2 43).toInt + 0) → ((gI o_me_2 43).toInt ≤ v2_2.toInt + 0) → (v1_2.toInt ≤ p0.toInt + 0) → (p0.toInt ≤ v1_2.toInt + 0) → (v1_2.toInt ≤ v1_1.toInt + 0) → (v1_1.toInt ≤ v1_2.toInt + 0) → (x34.toInt ≤ v2_2.toInt + 0) → (v2_2.toInt ≤ v2_1.toInt + 0) → (v2_1.toInt ≤ v2_2.toInt + 0) → (v3_2.toInt ≤ x34.toInt + 0) → (v3_2.toInt ≤ v2_1.toInt + 0) → ((gI o_me_2 43).toInt ≤ x34.toInt + 0) → (x34.toInt ≤ (gI o_me_2 43).toInt + 0) → ((gI o_me_2 43).toInt ≤ v2_1.toInt + 0) → (v3_2.toInt - 0).toNat < N2 → wp (lp_X9_layPlaces_56  (lp_X9_layPlaces_7   N1) N2 (v1_2, v2_2, v3_2, o_me_2)) (fun (y : Ob) => IvX9 y ∧ Kp [8, 13, 14, 15, 16, 19, 20, 21, 23, 26, 29, 30, 59, 62] [3, 7, 10, 12, 22, 24, 25, 27, 28, 48, 50, 51, 55] [(3, (0 : Int32))] o_me y) := by
              intro N2
              induction N2 with
              | zero =>
                intro v1_2 v2_2 v3_2 o_me_2 hI_me_2 hkp_me_2 hh37 hh38 hh39 hh40 hh41 hh42 hh43 hh44 hh45 hh46 hh47 hh48 hh49 hh50 hh51 hh52 hh53 hh54 hh55 hh56 hN2
                exact absurd hN2 (Nat.not_lt_zero _)
              | succ N2 ihx =>
                have ih2 := ihx
                intro v1_2 v2_2 v3_2 o_me_2 hI_me_2 hkp_me_2 hh37 hh38 hh39 hh40 hh41 hh42 hh43 hh44 hh45 hh46 hh47 hh48 hh49 hh50 hh51 hh52 hh53 hh54 hh55 hh56 hN2
                show wp (lb_X9_layPlaces_56  (lp_X9_layPlaces_7   N1) (lp_X9_layPlaces_56  (lp_X9_layPlaces_7   N1) N2) v1_2 v2_2 v3_2 o_me_2) (fun (y : Ob) => IvX9 y ∧ Kp [8, 13, 14, 15, 16, 19, 20, 21, 23, 26, 29, 30, 59, 62] [3, 7, 10, 12, 22, 24, 25, 27, 28, 48, 50, 51, 55] [(3, (0 : Int32))] o_me y)
                unfold lb_X9_layPlaces_56
                refine wp_if (fun c57 => ?_) (fun c57 => ?_)
                · have c57 := cv_le (a := v3_2.toInt) (b := 0) rfl (by decide) c57
                  unfold bk_X9_layPlaces_102
                  refine wp_gd (zin_of (m := 7) rfl (by omega) (by omega)) ?_
                  refine wp_lt (fun o58 eo58 => ?_)
                  have hIo58 : IvX9 o58 := by rw [eo58]; exact ibX9_42 hI_me_2 (by omega) (Or.inr (Or.inr ⟨by omega, by omega⟩))
                  have ko58_k59 : (gI o58 20).toInt = (gI o_me_2 20).toInt := by rw [eo58]; rfl
                  have ko58_k60 : (gI o58 43).toInt = (gI o_me_2 43).toInt := by rw [eo58]; rfl
                  have ko58_v : (gA o58 42 v3_2.toNatClampNeg).toInt = v2_2.toInt := by rw [eo58]; exact congrArg Int32.toInt (upd_eq (g := gA o_me_2 42) (i := v3_2) (v := v2_2))
                  have hkpo58 : Kp [8, 13, 14, 15, 16, 19, 20, 21, 23, 26, 29, 30, 59, 62] [3, 7, 10, 12, 22, 24, 25, 27, 28, 48, 50, 51, 55] [(3, (0 : Int32))] o_me o58 := hkp_me_2.trans (by rw [eo58]; exact Kp.tA (by decide) (by decide))
                  have t61 : ((gI o58 43) + (1 : Int32)).toInt = (gI o58 43).toInt + 1 := i32_add rfl (by decide) (by omega) (by omega)
                  refine wp_lt (fun o62 eo62 => ?_)
                  have hIo62 : IvX9 o62 := by rw [eo62]; exact ipX9_43 hIo58 ⟨by omega, by omega⟩
                  have ko62_k63 : (gA o62 42 v3_2.toNatClampNeg).toInt = (gA o58 42 v3_2.toNatClampNeg).toInt := by rw [eo62]; rfl
                  have ko62_k64 : (gI o62 20).toInt = (gI o58 20).toInt := by rw [eo62]; rfl
                  have ko62_v : (gI o62 43).toInt = ((gI o58 43) + (1 : Int32)).toInt := by rw [eo62]; rfl
                  have hkpo62 : Kp [8, 13, 14, 15, 16, 19, 20, 21, 23, 26, 29, 30, 59, 62] [3, 7, 10, 12, 22, 24, 25, 27, 28, 48, 50, 51, 55] [(3, (0 : Int32))] o_me o62 := hkpo58.trans (by rw [eo62]; exact Kp.sI (by decide))
                  unfold bk_X9_layPlaces_119
                  refine wp_lt (fun x65 ex65 => ?_)
                  have tx65 : x65.toInt = v2_2.toInt + 1 := by rw [ex65]; exact i32_add rfl (by decide) (by omega) (by omega)
                  exact ih1 v1_2 x65 o62 hIo62 hkpo62 ⟨by omega, by omega⟩ ⟨by omega, by omega⟩ ⟨by omega, by omega⟩ ⟨by omega, by omega⟩ (by omega) (by omega) (by omega) (by omega)
                · have c57 := cv_nle (a := v3_2.toInt) (b := 0) rfl (by decide) c57
                  have t66 : (v3_2 - (1 : Int32)).toInt = v3_2.toInt - 1 := i32_sub rfl (by decide) (by omega) (by omega)
                  refine wp_gd (zin_of (m := 7) rfl (by omega) (by omega)) ?_
                  have t67 := iaX9_42_0 hI_me_2 (j := v3_2 - (1 : Int32)) (by omega) (by omega)
                  refine wp_gd (zin_of (m := 7) rfl (by omega) (by omega)) ?_
                  refine wp_gd (zin_of (m := 7) rfl (by omega) (by omega)) ?_
                  have rg69 := i32_rg (gA o_me_2 41 (gA o_me_2 42 (v3_2 - (1 : Int32)).toNatClampNeg).toNatClampNeg)
                  have rg70 := i32_rg (gA o_me_2 41 v2_2.toNatClampNeg)
                  refine wp_if (fun c68 => ?_) (fun c68 => ?_)
                  · have c68 := cv_ge (a := (gA o_me_2 41 (gA o_me_2 42 (v3_2 - (1 : Int32)).toNatClampNeg).toNatClampNeg).toInt) (b := (gA o_me_2 41 v2_2.toNatClampNeg).toInt) rfl rfl c68
                    unfold bk_X9_layPlaces_102
                    refine wp_gd (zin_of (m := 7) rfl (by omega) (by omega)) ?_
                    refine wp_lt (fun o71 eo71 => ?_)
                    have hIo71 : IvX9 o71 := by rw [eo71]; exact ibX9_42 hI_me_2 (by omega) (Or.inr (Or.inr ⟨by omega, by omega⟩))
                    have ko71_k72 : (gA o71 41 (gA o_me_2 42 (v3_2 - (1 : Int32)).toNatClampNeg).toNatClampNeg).toInt = (gA o_me_2 41 (gA o_me_2 42 (v3_2 - (1 : Int32)).toNatClampNeg).toNatClampNeg).toInt := by rw [eo71]; rfl
                    have ko71_k73 : (gA o71 41 v2_2.toNatClampNeg).toInt = (gA o_me_2 41 v2_2.toNatClampNeg).toInt := by rw [eo71]; rfl
                    have ko71_k74 : (gI o71 20).toInt = (gI o_me_2 20).toInt := by rw [eo71]; rfl
                    have ko71_k75 : (gI o71 43).toInt = (gI o_me_2 43).toInt := by rw [eo71]; rfl
                    have ko71_v : (gA o71 42 v3_2.toNatClampNeg).toInt = v2_2.toInt := by rw [eo71]; exact congrArg Int32.toInt (upd_eq (g := gA o_me_2 42) (i := v3_2) (v := v2_2))
                    have hkpo71 : Kp [8, 13, 14, 15, 16, 19, 20, 21, 23, 26, 29, 30, 59, 62] [3, 7, 10, 12, 22, 24, 25, 27, 28, 48, 50, 51, 55] [(3, (0 : Int32))] o_me o71 := hkp_me_2.trans (by rw [eo71]; exact Kp.tA (by decide) (by decide))
                    have t76 : ((gI o71 43) + (1 : Int32)).toInt = (gI o71 43).toInt + 1 := i32_add rfl (by decide) (by omega) (by omega)
                    refine wp_lt (fun o77 eo77 => ?_)
                    have hIo77 : IvX9 o77 := by rw [eo77]; exact ipX9_43 hIo71 ⟨by omega, by omega⟩
                    have ko77_k78 : (gA o77 41 (gA o_me_2 42 (v3_2 - (1 : Int32)).toNatClampNeg).toNatClampNeg).toInt = (gA o71 41 (gA o_me_2 42 (v3_2 - (1 : Int32)).toNatClampNeg).toNatClampNeg).toInt := by rw [eo77]; rfl
                    have ko77_k79 : (gA o77 41 v2_2.toNatClampNeg).toInt = (gA o71 41 v2_2.toNatClampNeg).toInt := by rw [eo77]; rfl
                    have ko77_k80 : (gA o77 42 v3_2.toNatClampNeg).toInt = (gA o71 42 v3_2.toNatClampNeg).toInt := by rw [eo77]; rfl
                    have ko77_k81 : (gI o77 20).toInt = (gI o71 20).toInt := by rw [eo77]; rfl
                    have ko77_v : (gI o77 43).toInt = ((gI o71 43) + (1 : Int32)).toInt := by rw [eo77]; rfl
                    have hkpo77 : Kp [8, 13, 14, 15, 16, 19, 20, 21, 23, 26, 29, 30, 59, 62] [3, 7, 10, 12, 22, 24, 25, 27, 28, 48, 50, 51, 55] [(3, (0 : Int32))] o_me o77 := hkpo71.trans (by rw [eo77]; exact Kp.sI (by decide))
                    unfold bk_X9_layPlaces_119
                    refine wp_lt (fun x82 ex82 => ?_)
                    have tx82 : x82.toInt = v2_2.toInt + 1 := by rw [ex82]; exact i32_add rfl (by decide) (by omega) (by omega)
                    exact ih1 v1_2 x82 o77 hIo77 hkpo77 ⟨by omega, by omega⟩ ⟨by omega, by omega⟩ ⟨by omega, by omega⟩ ⟨by omega, by omega⟩ (by omega) (by omega) (by omega) (by omega)
                  · have c68 := cv_nge (a := (gA o_me_2 41 (gA o_me_2 42 (v3_2 - (1 : Int32)).toNatClampNeg).toNatClampNeg).toInt) (b := (gA o_me_2 41 v2_2.toNatClampNeg).toInt) rfl rfl c68
                    refine wp_gd (zin_of (m := 7) rfl (by omega) (by omega)) ?_
                    refine wp_gd (zin_of (m := 7) rfl (by omega) (by omega)) ?_
                    refine wp_lt (fun o83 eo83 => ?_)
                    have hIo83 : IvX9 o83 := by rw [eo83]; exact ibX9_42 hI_me_2 (by omega) (Or.inr (Or.inr ⟨by omega, by omega⟩))
                    have ko83_k84 : (gA o83 41 (gA o_me_2 42 (v3_2 - (1 : Int32)).toNatClampNeg).toNatClampNeg).toInt = (gA o_me_2 41 (gA o_me_2 42 (v3_2 - (1 : Int32)).toNatClampNeg).toNatClampNeg).toInt := by rw [eo83]; rfl
                    have ko83_k85 : (gA o83 41 v2_2.toNatClampNeg).toInt = (gA o_me_2 41 v2_2.toNatClampNeg).toInt := by rw [eo83]; rfl
                    have ko83_k86 : (gI o83 20).toInt = (gI o_me_2 20).toInt := by rw [eo83]; rfl
                    have ko83_k87 : (gI o83 43).toInt = (gI o_me_2 43).toInt := by rw [eo83]; rfl
                    have ko83_v : (gA o83 42 v3_2.toNatClampNeg).toInt = (gA o_me_2 42 (v3_2 - (1 : Int32)).toNatClampNeg).toInt := by rw [eo83]; exact congrArg Int32.toInt (upd_eq (g := gA o_me_2 42) (i := v3_2) (v := (gA o_me_2 42 (v3_2 - (1 : Int32)).toNatClampNeg)))
                    have hkpo83 : Kp [8, 13, 14, 15, 16, 19, 20, 21, 23, 26, 29, 30, 59, 62] [3, 7, 10, 12, 22, 24, 25, 27, 28, 48, 50, 51, 55] [(3, (0 : Int32))] o_me o83 := hkp_me_2.trans (by rw [eo83]; exact Kp.tA (by decide) (by decide))
                    refine wp_lt (fun x88 ex88 => ?_)
                    have tx88 : x88.toInt = v3_2.toInt + (-1) := by rw [ex88]; exact i32_add rfl (by decide) (by omega) (by omega)
                    exact ih2 v1_2 v2_2 x88 o83 hIo83 hkpo83 ⟨by omega, by omega⟩ ⟨by omega, by omega⟩ ⟨by omega, by omega⟩ ⟨by omega, by omega⟩ ⟨by omega, by omega⟩ (by omega) (by omega) (by omega) (by omega) (by omega) (by omega) (by omega) (by omega) (by omega) (by omega) (by omega) (by omega) (by omega) (by omega) (by omega) (by omega)
            exact lp2 zfu v1_1 v2_1 x34 o29 hIo29 hkpo29 ⟨by omega, by omega⟩ ⟨by omega, by omega⟩ ⟨by omega, by omega⟩ ⟨by omega, by omega⟩ ⟨by omega, by omega⟩ (by omega) (by omega) (by omega) (by omega) (by omega) (by omega) (by omega) (by omega) (by omega) (by omega) (by omega) (by omega) (by omega) (by omega) (by omega) (by show _ < 100000; omega)
          · have c23z := c23
            have c23 := cv_ne (a := z18.1.toInt) (b := 0) rfl (by decide) c23
            unfold bk_X9_layPlaces_119
            refine wp_lt (fun x89 ex89 => ?_)
            have tx89 : x89.toInt = v2_1.toInt + 1 := by rw [ex89]; exact i32_add rfl (by decide) (by omega) (by omega)
            exact ih1 v1_1 x89 z18.2 hz18_1 hkpz18_me ⟨by omega, by omega⟩ ⟨by omega, by omega⟩ ⟨by omega, by omega⟩ ⟨by omega, by omega⟩ (by omega) (by omega) (by omega) (by omega)
        · have c17 := cv_ne (a := (gA o_me_1 3 ((22 : Int32) + v2_1).toNatClampNeg).toInt) (b := 1) rfl (by decide) c17
          unfold bk_X9_layPlaces_119
          refine wp_lt (fun x90 ex90 => ?_)
          have tx90 : x90.toInt = v2_1.toInt + 1 := by rw [ex90]; exact i32_add rfl (by decide) (by omega) (by omega)
          exact ih1 v1_1 x90 o_me_1 hI_me_1 hkp_me_1 ⟨by omega, by omega⟩ ⟨by omega, by omega⟩ ⟨by omega, by omega⟩ ⟨by omega, by omega⟩ (by omega) (by omega) (by omega) (by omega)
  exact lp1 zfu p0 (0 : Int32) o1 hIo1 hkpo1 ⟨by omega, by omega⟩ ⟨by decide, by decide⟩ ⟨by omega, by omega⟩ ⟨by omega, by omega⟩ (by omega) (by omega) (by omega) (by show _ < 100000; omega)

set_option maxHeartbeats 4000000 in
set_option maxRecDepth 100000 in
theorem s_X9_keepAll (o_me : Ob) (p0 : Int32) (hI_me : IvX9 o_me) (q0 : 0 ≤ p0.toInt ∧ p0.toInt ≤ 17) : wp (f_X9_keepAll   o_me p0) (fun (y : Ob) => IvX9 y ∧ Kp [8, 13, 14, 15, 16, 19, 20, 21, 23, 26, 29, 30, 34, 38, 43, 59, 62] [3, 7, 10, 12, 22, 24, 25, 27, 28, 42, 48, 50, 51, 55] [(3, (0 : Int32))] o_me y) := by
  have li0 : (0 : Int32).toInt = 0 := by decide
  have li1 : (25 : Int32).toInt = 25 := by decide
  have li2 : (4 : Int32).toInt = 4 := by decide
  unfold f_X9_keepAll
  have lp1 : ∀ (N1 : Nat) (v1_1 : Int32) (v2_1 : Int32) (o_me_1 : Ob), IvX9 o_me_1 → Kp [8, 13, 14, 15, 16, 19, 20, 21, 23, 26, 29, 30, 34, 38, 43, 59, 62] [3, 7, 10, 12, 22, 24, 25, 27, 28, 42, 48, 50, 51, 55] [(3, (0 : Int32))] o_me o_me_1 → (0 ≤ v1_1.toInt ∧ v1_1.toInt ≤ 17) → (0 ≤ v2_1.toInt ∧ v2_1.toInt ≤ 25) → (v1_1.toInt ≤ p0.toInt + 0) → (p0.toInt ≤ v1_1.toInt + 0) → (25 - v2_1.toInt).toNat < N1 → wp (lp_X9_keepAll_2   N1 (v1_1, v2_1, o_me_1)) (fun (y : Ob) => IvX9 y ∧ Kp [8, 13, 14, 15, 16, 19, 20, 21, 23, 26, 29, 30, 34, 38, 43, 59, 62] [3, 7, 10, 12, 22, 24, 25, 27, 28, 42, 48, 50, 51, 55] [(3, (0 : Int32))] o_me y) := by
    intro N1
    induction N1 with
    | zero =>
      intro v1_1 v2_1 o_me_1 hI_me_1 hkp_me_1 hh1 hh2 hh3 hh4 hN1
      exact absurd hN1 (Nat.not_lt_zero _)
    | succ N1 ihx =>
      have ih1 := ihx
      intro v1_1 v2_1 o_me_1 hI_me_1 hkp_me_1 hh1 hh2 hh3 hh4 hN1
      show wp (lb_X9_keepAll_2   (lp_X9_keepAll_2   N1) v1_1 v2_1 o_me_1) (fun (y : Ob) => IvX9 y ∧ Kp [8, 13, 14, 15, 16, 19, 20, 21, 23, 26, 29, 30, 34, 38, 43, 59, 62] [3, 7, 10, 12, 22, 24, 25, 27, 28, 42, 48, 50, 51, 55] [(3, (0 : Int32))] o_me y)
      unfold lb_X9_keepAll_2
      refine wp_if (fun c5 => ?_) (fun c5 => ?_)
      · have c5 := cv_ge (a := v2_1.toInt) (b := 25) rfl (by decide) c5
        refine wp_some ?_
        exact (show IvX9 o_me_1 ∧ Kp [8, 13, 14, 15, 16, 19, 20, 21, 23, 26, 29, 30, 34, 38, 43, 59, 62] [3, 7, 10, 12, 22, 24, 25, 27, 28, 42, 48, 50, 51, 55] [(3, (0 : Int32))] o_me o_me_1 from ⟨hI_me_1, hkp_me_1⟩)
      · have c5 := cv_nge (a := v2_1.toInt) (b := 25) rfl (by decide) c5
        have t6 : ((25 : Int32) * v1_1).toInt = 25 * v1_1.toInt := i32_mul (by decide) rfl (by omega) (by omega)
        have t7 : (((25 : Int32) * v1_1) + v2_1).toInt = ((25 : Int32) * v1_1).toInt + v2_1.toInt := i32_add rfl rfl (by omega) (by omega)
        have t8 : ((4 : Int32) + v2_1).toInt = 4 + v2_1.toInt := i32_add (by decide) rfl (by omega) (by omega)
        refine wp_gd (zin_of (m := 5484) rfl (by omega) (by omega)) ?_
        refine wp_gd (zin_of (m := 450) rfl (by omega) (by omega)) ?_
        refine wp_lt (fun o9 eo9 => ?_)
        have hIo9 : IvX9 o9 := by rw [eo9]; exact spX9_keep hI_me_1 ⟨by omega, by omega⟩ ⟨by omega, by omega⟩
        have ko9_v : (gA o9 6 (((25 : Int32) * v1_1) + v2_1).toNatClampNeg).toInt = (gA o_me_1 3 ((4 : Int32) + v2_1).toNatClampNeg).toInt := by rw [eo9]; exact congrArg Int32.toInt (upd_eq (g := gA o_me_1 6) (i := (((25 : Int32) * v1_1) + v2_1)) (v := (gA o_me_1 3 ((4 : Int32) + v2_1).toNatClampNeg)))
        have hkpo9 : Kp [8, 13, 14, 15, 16, 19, 20, 21, 23, 26, 29, 30, 34, 38, 43, 59, 62] [3, 7, 10, 12, 22, 24, 25, 27, 28, 42, 48, 50, 51, 55] [(3, (0 : Int32))] o_me o9 := hkp_me_1.trans (by rw [eo9]; exact Kp.tA (by decide) (by decide))
        refine wp_lt (fun x10 ex10 => ?_)
        have tx10 : x10.toInt = v2_1.toInt + 1 := by rw [ex10]; exact i32_add rfl (by decide) (by omega) (by omega)
        exact ih1 v1_1 x10 o9 hIo9 hkpo9 ⟨by omega, by omega⟩ ⟨by omega, by omega⟩ (by omega) (by omega) (by omega)
  exact lp1 zfu p0 (0 : Int32) o_me hI_me Kp.rf ⟨by omega, by omega⟩ ⟨by decide, by decide⟩ (by omega) (by omega) (by show _ < 100000; omega)

set_option maxHeartbeats 4000000 in
set_option maxRecDepth 100000 in
theorem s_X9_remember (o_me : Ob) (p0 : Int32) (hI_me : IvX9 o_me) (q0 : 0 ≤ p0.toInt ∧ p0.toInt ≤ 3) : wp (f_X9_remember   o_me p0) (fun (y : Ob) => IvX9 y ∧ Kp [13, 14, 15, 16, 19, 20, 21, 23, 26, 29, 30, 34, 38, 43, 59, 62] [3, 10, 12, 22, 24, 25, 27, 28, 42, 48, 50, 51, 55] [(3, (0 : Int32))] o_me y) := by
  have li0 : (0 : Int32).toInt = 0 := by decide
  have li1 : (1 : Int32).toInt = 1 := by decide
  have li2 : (15 : Int32).toInt = 15 := by decide
  have li3 : (16 : Int32).toInt = 16 := by decide
  have li4 : (25 : Int32).toInt = 25 := by decide
  have li5 : (375 : Int32).toInt = 375 := by decide
  unfold f_X9_remember
  have t1 := igX9_8 hI_me
  refine wp_if (fun c2 => ?_) (fun c2 => ?_)
  · have c2 := cv_eq (a := (gI o_me 8).toInt) (b := 16) rfl (by decide) c2
    have lp1 : ∀ (N1 : Nat) (v1_1 : Int32) (v2_1 : Int32) (o_me_1 : Ob), IvX9 o_me_1 → Kp [13, 14, 15, 16, 19, 20, 21, 23, 26, 29, 30, 34, 38, 43, 59, 62] [3, 10, 12, 22, 24, 25, 27, 28, 42, 48, 50, 51, 55] [(3, (0 : Int32))] o_me o_me_1 → (0 ≤ v1_1.toInt ∧ v1_1.toInt ≤ 3) → (0 ≤ v2_1.toInt ∧ v2_1.toInt ≤ 375) → (16 ≤ (gI o_me_1 8).toInt ∧ (gI o_me_1 8).toInt ≤ 16) → (v1_1.toInt ≤ p0.toInt + 0) → (p0.toInt ≤ v1_1.toInt + 0) → (375 - v2_1.toInt).toNat < N1 → wp (lp_X9_remember_11   N1 (v1_1, v2_1, o_me_1)) (fun (y : Ob) => IvX9 y ∧ Kp [13, 14, 15, 16, 19, 20, 21, 23, 26, 29, 30, 34, 38, 43, 59, 62] [3, 10, 12, 22, 24, 25, 27, 28, 42, 48, 50, 51, 55] [(3, (0 : Int32))] o_me y) := by
      intro N1
      induction N1 with
      | zero =>
        intro v1_1 v2_1 o_me_1 hI_me_1 hkp_me_1 hh4 hh5 hh6 hh7 hh8 hN1
        exact absurd hN1 (Nat.not_lt_zero _)
      | succ N1 ihx =>
        have ih1 := ihx
        intro v1_1 v2_1 o_me_1 hI_me_1 hkp_me_1 hh4 hh5 hh6 hh7 hh8 hN1
        show wp (lb_X9_remember_11   (lp_X9_remember_11   N1) v1_1 v2_1 o_me_1) (fun (y : Ob) => IvX9 y ∧ Kp [13, 14, 15, 16, 19, 20, 21, 23, 26, 29, 30, 34, 38, 43, 59, 62] [3, 10, 12, 22, 24, 25, 27, 28, 42, 48, 50, 51, 55] [(3, (0 : Int32))] o_me y)
        unfold lb_X9_remember_11
        refine wp_if (fun c9 => ?_) (fun c9 => ?_)
        · have c9 := cv_ge (a := v2_1.toInt) (b := 375) rfl (by decide) c9
          have lp2 : ∀ (N2 : Nat) (v1_2 : Int32) (v2_2 : Int32) (o_me_2 : Ob), IvX9 o_me_2 → Kp [13, 14, 15, 16, 19, 20, 21, 23, 26, 29, 30, 34, 38, 43, 59, 62] [3, 10, 12, 22, 24, 25, 27, 28, 42, 48, 50, 51, 55] [(3, (0 : Int32))] o_me o_me_2 → (0 ≤ v1_2.toInt ∧ v1_2.toInt ≤ 3) → (0 ≤ v2_2.toInt ∧ v2_2.toInt ≤ 15) → (16 ≤ (gI o_me_2 8).toInt ∧ (gI o_me_2 8).toInt ≤ 16) → (v1_2.toInt ≤ p0.toInt + 0) → (p0.toInt ≤ v1_2.toInt + 0) → (v1_2.toInt ≤ v1_1.toInt + 0) → (v1_1.toInt ≤ v1_2.toInt + 0) → (15 - v2_2.toInt).toNat < N2 → wp (lp_X9_remember_41   N2 (v1_2, v2_2, o_me_2)) (fun (y : Ob) => IvX9 y ∧ Kp [13, 14, 15, 16, 19, 20, 21, 23, 26, 29, 30, 34, 38, 43, 59, 62] [3, 10, 12, 22, 24, 25, 27, 28, 42, 48, 50, 51, 55] [(3, (0 : Int32))] o_me y) := by
            intro N2
            induction N2 with
            | zero =>
              intro v1_2 v2_2 o_me_2 hI_me_2 hkp_me_2 hh11 hh12 hh13 hh14 hh15 hh16 hh17 hN2
              exact absurd hN2 (Nat.not_lt_zero _)
            | succ N2 ihx =>
              have ih2 := ihx
              intro v1_2 v2_2 o_me_2 hI_me_2 hkp_me_2 hh11 hh12 hh13 hh14 hh15 hh16 hh17 hN2
              show wp (lb_X9_remember_41   (lp_X9_remember_41   N2) v1_2 v2_2 o_me_2) (fun (y : Ob) => IvX9 y ∧ Kp [13, 14, 15, 16, 19, 20, 21, 23, 26, 29, 30, 34, 38, 43, 59, 62] [3, 10, 12, 22, 24, 25, 27, 28, 42, 48, 50, 51, 55] [(3, (0 : Int32))] o_me y)
              unfold lb_X9_remember_41
              refine wp_if (fun c18 => ?_) (fun c18 => ?_)
              · have c18 := cv_ge (a := v2_2.toInt) (b := 15) rfl (by decide) c18
                have t19 : ((gI o_me_2 8) - (1 : Int32)).toInt = (gI o_me_2 8).toInt - 1 := i32_sub rfl (by decide) (by omega) (by omega)
                refine wp_lt (fun o20 eo20 => ?_)
                have hIo20 : IvX9 o20 := by rw [eo20]; exact ipX9_8 hI_me_2 ⟨by omega, by omega⟩
                have ko20_v : (gI o20 8).toInt = ((gI o_me_2 8) - (1 : Int32)).toInt := by rw [eo20]; rfl
                have hkpo20 : Kp [13, 14, 15, 16, 19, 20, 21, 23, 26, 29, 30, 34, 38, 43, 59, 62] [3, 10, 12, 22, 24, 25, 27, 28, 42, 48, 50, 51, 55] [(3, (0 : Int32))] o_me o20 := hkp_me_2.trans (by rw [eo20]; exact Kp.sI (by decide))
                unfold bk_X9_remember_77
                refine wp_bd (s_X9_keepAll   o20 (gI o20 8)  hIo20  ⟨by omega, by omega⟩) (fun z21 hz21 => ?_)
                obtain ⟨hz21_0, hz21_1⟩ := hz21
                have hkpz21_me : Kp [13, 14, 15, 16, 19, 20, 21, 23, 26, 29, 30, 34, 38, 43, 59, 62] [3, 10, 12, 22, 24, 25, 27, 28, 42, 48, 50, 51, 55] [(3, (0 : Int32))] o_me z21 := hkpo20.trans (hz21_1.mono (by decide) (by decide) (by decide))
                have kz21_k22 : (gI z21 8).toInt = (gI o20 8).toInt := congrArg Int32.toInt (hz21_1.1 8 (by decide))
                refine wp_gd (zin_of (m := 16) rfl (by omega) (by omega)) ?_
                refine wp_lt (fun o23 eo23 => ?_)
                have hIo23 : IvX9 o23 := by rw [eo23]; exact ibX9_7 hz21_0 (by omega) (Or.inr (Or.inr ⟨by omega, by omega⟩))
                have ko23_k24 : (gI o23 8).toInt = (gI z21 8).toInt := by rw [eo23]; rfl
                have ko23_v : (gA o23 7 (gI z21 8).toNatClampNeg).toInt = v1_2.toInt := by rw [eo23]; exact congrArg Int32.toInt (upd_eq (g := gA z21 7) (i := (gI z21 8)) (v := v1_2))
                have hkpo23 : Kp [13, 14, 15, 16, 19, 20, 21, 23, 26, 29, 30, 34, 38, 43, 59, 62] [3, 10, 12, 22, 24, 25, 27, 28, 42, 48, 50, 51, 55] [(3, (0 : Int32))] o_me o23 := hkpz21_me.trans (by rw [eo23]; exact Kp.tA (by decide) (by decide))
                have t25 : ((gI o23 8) + (1 : Int32)).toInt = (gI o23 8).toInt + 1 := i32_add rfl (by decide) (by omega) (by omega)
                refine wp_lt (fun o26 eo26 => ?_)
                have hIo26 : IvX9 o26 := by rw [eo26]; exact ipX9_8 hIo23 ⟨by omega, by omega⟩
                have ko26_k27 : (gA o26 7 (gI z21 8).toNatClampNeg).toInt = (gA o23 7 (gI z21 8).toNatClampNeg).toInt := by rw [eo26]; rfl
                have ko26_v : (gI o26 8).toInt = ((gI o23 8) + (1 : Int32)).toInt := by rw [eo26]; rfl
                have hkpo26 : Kp [13, 14, 15, 16, 19, 20, 21, 23, 26, 29, 30, 34, 38, 43, 59, 62] [3, 10, 12, 22, 24, 25, 27, 28, 42, 48, 50, 51, 55] [(3, (0 : Int32))] o_me o26 := hkpo23.trans (by rw [eo26]; exact Kp.sI (by decide))
                refine wp_some ?_
                exact (show IvX9 o26 ∧ Kp [13, 14, 15, 16, 19, 20, 21, 23, 26, 29, 30, 34, 38, 43, 59, 62] [3, 10, 12, 22, 24, 25, 27, 28, 42, 48, 50, 51, 55] [(3, (0 : Int32))] o_me o26 from ⟨hIo26, hkpo26⟩)
              · have c18 := cv_nge (a := v2_2.toInt) (b := 15) rfl (by decide) c18
                have t28 : (v2_2 + (1 : Int32)).toInt = v2_2.toInt + 1 := i32_add rfl (by decide) (by omega) (by omega)
                refine wp_gd (zin_of (m := 16) rfl (by omega) (by omega)) ?_
                have t29 := iaX9_7_0 hI_me_2 (j := v2_2 + (1 : Int32)) (by omega) (by omega)
                refine wp_gd (zin_of (m := 16) rfl (by omega) (by omega)) ?_
                refine wp_lt (fun o30 eo30 => ?_)
                have hIo30 : IvX9 o30 := by rw [eo30]; exact ibX9_7 hI_me_2 (by omega) (Or.inr (Or.inr ⟨by omega, by omega⟩))
                have ko30_k31 : (gI o30 8).toInt = (gI o_me_2 8).toInt := by rw [eo30]; rfl
                have ko30_v : (gA o30 7 v2_2.toNatClampNeg).toInt = (gA o_me_2 7 (v2_2 + (1 : Int32)).toNatClampNeg).toInt := by rw [eo30]; exact congrArg Int32.toInt (upd_eq (g := gA o_me_2 7) (i := v2_2) (v := (gA o_me_2 7 (v2_2 + (1 : Int32)).toNatClampNeg)))
                have hkpo30 : Kp [13, 14, 15, 16, 19, 20, 21, 23, 26, 29, 30, 34, 38, 43, 59, 62] [3, 10, 12, 22, 24, 25, 27, 28, 42, 48, 50, 51, 55] [(3, (0 : Int32))] o_me o30 := hkp_me_2.trans (by rw [eo30]; exact Kp.tA (by decide) (by decide))
                refine wp_lt (fun x32 ex32 => ?_)
                have tx32 : x32.toInt = v2_2.toInt + 1 := by rw [ex32]; exact i32_add rfl (by decide) (by omega) (by omega)
                exact ih2 v1_2 x32 o30 hIo30 hkpo30 ⟨by omega, by omega⟩ ⟨by omega, by omega⟩ ⟨by omega, by omega⟩ (by omega) (by omega) (by omega) (by omega) (by omega)
          exact lp2 zfu v1_1 (0 : Int32) o_me_1 hI_me_1 hkp_me_1 ⟨by omega, by omega⟩ ⟨by decide, by decide⟩ ⟨by omega, by omega⟩ (by omega) (by omega) (by omega) (by omega) (by show _ < 100000; omega)
        · have c9 := cv_nge (a := v2_1.toInt) (b := 375) rfl (by decide) c9
          have t33 : (v2_1 + (25 : Int32)).toInt = v2_1.toInt + 25 := i32_add rfl (by decide) (by omega) (by omega)
          refine wp_gd (zin_of (m := 450) rfl (by omega) (by omega)) ?_
          refine wp_gd (zin_of (m := 450) rfl (by omega) (by omega)) ?_
          refine wp_lt (fun o34 eo34 => ?_)
          have hIo34 : IvX9 o34 := by rw [eo34]; exact spX9_shift hI_me_1 ⟨by omega, by omega⟩
          have ko34_k35 : (gI o34 8).toInt = (gI o_me_1 8).toInt := by rw [eo34]; rfl
          have ko34_v : (gA o34 6 v2_1.toNatClampNeg).toInt = (gA o_me_1 6 (v2_1 + (25 : Int32)).toNatClampNeg).toInt := by rw [eo34]; exact congrArg Int32.toInt (upd_eq (g := gA o_me_1 6) (i := v2_1) (v := (gA o_me_1 6 (v2_1 + (25 : Int32)).toNatClampNeg)))
          have hkpo34 : Kp [13, 14, 15, 16, 19, 20, 21, 23, 26, 29, 30, 34, 38, 43, 59, 62] [3, 10, 12, 22, 24, 25, 27, 28, 42, 48, 50, 51, 55] [(3, (0 : Int32))] o_me o34 := hkp_me_1.trans (by rw [eo34]; exact Kp.tA (by decide) (by decide))
          refine wp_lt (fun x36 ex36 => ?_)
          have tx36 : x36.toInt = v2_1.toInt + 1 := by rw [ex36]; exact i32_add rfl (by decide) (by omega) (by omega)
          exact ih1 v1_1 x36 o34 hIo34 hkpo34 ⟨by omega, by omega⟩ ⟨by omega, by omega⟩ ⟨by omega, by omega⟩ (by omega) (by omega) (by omega)
    exact lp1 zfu p0 (0 : Int32) o_me hI_me Kp.rf ⟨by omega, by omega⟩ ⟨by decide, by decide⟩ ⟨by omega, by omega⟩ (by omega) (by omega) (by show _ < 100000; omega)
  · have c2 := cv_ne (a := (gI o_me 8).toInt) (b := 16) rfl (by decide) c2
    unfold bk_X9_remember_77
    refine wp_bd (s_X9_keepAll   o_me (gI o_me 8)  hI_me  ⟨by omega, by omega⟩) (fun z37 hz37 => ?_)
    obtain ⟨hz37_0, hz37_1⟩ := hz37
    have hkpz37_me : Kp [13, 14, 15, 16, 19, 20, 21, 23, 26, 29, 30, 34, 38, 43, 59, 62] [3, 10, 12, 22, 24, 25, 27, 28, 42, 48, 50, 51, 55] [(3, (0 : Int32))] o_me z37 := Kp.rf.trans (hz37_1.mono (by decide) (by decide) (by decide))
    have kz37_k38 : (gI z37 8).toInt = (gI o_me 8).toInt := congrArg Int32.toInt (hz37_1.1 8 (by decide))
    refine wp_gd (zin_of (m := 16) rfl (by omega) (by omega)) ?_
    refine wp_lt (fun o39 eo39 => ?_)
    have hIo39 : IvX9 o39 := by rw [eo39]; exact ibX9_7 hz37_0 (by omega) (Or.inr (Or.inr ⟨by omega, by omega⟩))
    have ko39_k40 : (gI o39 8).toInt = (gI z37 8).toInt := by rw [eo39]; rfl
    have ko39_v : (gA o39 7 (gI z37 8).toNatClampNeg).toInt = p0.toInt := by rw [eo39]; exact congrArg Int32.toInt (upd_eq (g := gA z37 7) (i := (gI z37 8)) (v := p0))
    have hkpo39 : Kp [13, 14, 15, 16, 19, 20, 21, 23, 26, 29, 30, 34, 38, 43, 59, 62] [3, 10, 12, 22, 24, 25, 27, 28, 42, 48, 50, 51, 55] [(3, (0 : Int32))] o_me o39 := hkpz37_me.trans (by rw [eo39]; exact Kp.tA (by decide) (by decide))
    have t41 : ((gI o39 8) + (1 : Int32)).toInt = (gI o39 8).toInt + 1 := i32_add rfl (by decide) (by omega) (by omega)
    refine wp_lt (fun o42 eo42 => ?_)
    have hIo42 : IvX9 o42 := by rw [eo42]; exact ipX9_8 hIo39 ⟨by omega, by omega⟩
    have ko42_k43 : (gA o42 7 (gI z37 8).toNatClampNeg).toInt = (gA o39 7 (gI z37 8).toNatClampNeg).toInt := by rw [eo42]; rfl
    have ko42_v : (gI o42 8).toInt = ((gI o39 8) + (1 : Int32)).toInt := by rw [eo42]; rfl
    have hkpo42 : Kp [13, 14, 15, 16, 19, 20, 21, 23, 26, 29, 30, 34, 38, 43, 59, 62] [3, 10, 12, 22, 24, 25, 27, 28, 42, 48, 50, 51, 55] [(3, (0 : Int32))] o_me o42 := hkpo39.trans (by rw [eo42]; exact Kp.sI (by decide))
    refine wp_some ?_
    exact (show IvX9 o42 ∧ Kp [13, 14, 15, 16, 19, 20, 21, 23, 26, 29, 30, 34, 38, 43, 59, 62] [3, 10, 12, 22, 24, 25, 27, 28, 42, 48, 50, 51, 55] [(3, (0 : Int32))] o_me o42 from ⟨hIo42, hkpo42⟩)

set_option maxHeartbeats 4000000 in
set_option maxRecDepth 100000 in
theorem s_X9_winsOf (o_me : Ob) (p0 : Int32) (p1 : Int32) (p2 : Int32) (hI_me : IvX9 o_me) (q0 : 0 ≤ p0.toInt ∧ p0.toInt ≤ 6) (q1 : 0 ≤ p1.toInt ∧ p1.toInt ≤ 9) (q2 : 0 ≤ (gI o_me 20).toInt ∧ (gI o_me 20).toInt ≤ 0) : wp (f_X9_winsOf   o_me p0 p1 p2) (fun (y : Int32 × Ob) => (0 ≤ y.1.toInt ∧ y.1.toInt ≤ 9) ∧ IvX9 y.2 ∧ Kp [8, 13, 14, 15, 16, 19, 20, 21, 23, 26, 29, 30, 43, 59, 62] [3, 7, 10, 12, 22, 24, 25, 27, 28, 42, 48, 50, 51, 55] [(3, (0 : Int32))] o_me y.2) := by
  have li0 : (0 : Int32).toInt = 0 := by decide
  have li1 : (2 : Int32).toInt = 2 := by decide
  have li2 : (4 : Int64).toInt = 4 := by decide
  have li3 : (9 : Int32).toInt = 9 := by decide
  unfold f_X9_winsOf
  have rg1 := i32_rg p2
  have t2 : p2.toInt64.toInt = p2.toInt := Int32.toInt_toInt64 _
  have t3 : ((4 : Int64) - p2.toInt64).toInt = 4 - p2.toInt64.toInt := i64_sub (by decide) rfl (by omega) (by omega)
  refine wp_bd (s_X9_tells   o_me (2 : Int32) p0 p1 p2 ((4 : Int64) - p2.toInt64)  hI_me  ⟨by omega, by omega⟩ ⟨by omega, by omega⟩ ⟨by omega, by omega⟩) (fun z4 hz4 => ?_)
  obtain ⟨hz4_0, hz4_1⟩ := hz4
  have hkpz4_me : Kp [8, 13, 14, 15, 16, 19, 20, 21, 23, 26, 29, 30, 43, 59, 62] [3, 7, 10, 12, 22, 24, 25, 27, 28, 42, 48, 50, 51, 55] [(3, (0 : Int32))] o_me z4.2 := Kp.rf.trans (hz4_1.mono (by decide) (by decide) (by decide))
  have kz4_k5 : (gI z4.2 20).toInt = (gI o_me 20).toInt := congrArg Int32.toInt (hz4_1.1 20 (by decide))
  refine wp_bd (s_X9_within   z4.1 (0 : Int32) (9 : Int32)    (by omega)) (fun z6 hz6 => ?_)
  obtain ⟨hz6_0, hz6_1⟩ := hz6
  refine wp_some ?_
  exact (show (0 ≤ z6.toInt ∧ z6.toInt ≤ 9) ∧ IvX9 z4.2 ∧ Kp [8, 13, 14, 15, 16, 19, 20, 21, 23, 26, 29, 30, 43, 59, 62] [3, 7, 10, 12, 22, 24, 25, 27, 28, 42, 48, 50, 51, 55] [(3, (0 : Int32))] o_me z4.2 from ⟨⟨by omega, by omega⟩, hz4_0, hkpz4_me⟩)

set_option maxHeartbeats 4000000 in
set_option maxRecDepth 100000 in
theorem s_X9_turnsOf (o_me : Ob) (p0 : Int32) (p1 : Int32) (hI_me : IvX9 o_me) (q0 : 0 ≤ p0.toInt ∧ p0.toInt ≤ 6) (q1 : 0 ≤ p1.toInt ∧ p1.toInt ≤ 9) (q2 : 0 ≤ (gI o_me 20).toInt ∧ (gI o_me 20).toInt ≤ 0) : wp (f_X9_turnsOf   o_me p0 p1) (fun (y : Int32 × Ob) => (0 ≤ y.1.toInt ∧ y.1.toInt ≤ 9) ∧ IvX9 y.2 ∧ Kp [8, 13, 14, 15, 16, 19, 20, 21, 23, 26, 29, 30, 43, 59, 62] [3, 7, 10, 12, 22, 24, 25, 27, 28, 42, 48, 50, 51, 55] [(3, (0 : Int32))] o_me y.2) := by
  have li0 : (0 : Int32).toInt = 0 := by decide
  have li1 : (1 : Int32).toInt = 1 := by decide
  have li2 : (10 : Int32).toInt = 10 := by decide
  have li3 : (2 : Int32).toInt = 2 := by decide
  have li4 : (8 : Int32).toInt = 8 := by decide
  have li5 : (9 : Int32).toInt = 9 := by decide
  unfold f_X9_turnsOf
  have t1 : ((8 : Int32) + p0).toInt = 8 + p0.toInt := i32_add (by decide) rfl (by omega) (by omega)
  refine wp_gd (zin_of (m := 5484) rfl (by omega) (by omega)) ?_
  have t2 := iaX9_3_5 hI_me (j := (8 : Int32) + p0) (by omega) (by omega)
  have t3 : ((gA o_me 3 ((8 : Int32) + p0).toNatClampNeg) + (1 : Int32)).toInt = (gA o_me 3 ((8 : Int32) + p0).toNatClampNeg).toInt + 1 := i32_add rfl (by decide) (by omega) (by omega)
  have t4 : 0 ≤ (((gA o_me 3 ((8 : Int32) + p0).toNatClampNeg) + (1 : Int32)) - ((gA o_me 3 ((8 : Int32) + p0).toNatClampNeg) + (1 : Int32)) / (10 : Int32) * (10 : Int32)).toInt ∧ (((gA o_me 3 ((8 : Int32) + p0).toNatClampNeg) + (1 : Int32)) - ((gA o_me 3 ((8 : Int32) + p0).toNatClampNeg) + (1 : Int32)) / (10 : Int32) * (10 : Int32)).toInt ≤ 9 := i32_rem (y := (10 : Int32)) (m := 10) (by decide) (by decide) (by omega)
  have t5 : ((((gA o_me 3 ((8 : Int32) + p0).toNatClampNeg) + (1 : Int32)) - ((gA o_me 3 ((8 : Int32) + p0).toNatClampNeg) + (1 : Int32)) / (10 : Int32) * (10 : Int32)).toInt64).toInt = (((gA o_me 3 ((8 : Int32) + p0).toNatClampNeg) + (1 : Int32)) - ((gA o_me 3 ((8 : Int32) + p0).toNatClampNeg) + (1 : Int32)) / (10 : Int32) * (10 : Int32)).toInt := Int32.toInt_toInt64 _
  refine wp_bd (s_X9_tells   o_me (1 : Int32) p0 p1 (2 : Int32) ((((gA o_me 3 ((8 : Int32) + p0).toNatClampNeg) + (1 : Int32)) - ((gA o_me 3 ((8 : Int32) + p0).toNatClampNeg) + (1 : Int32)) / (10 : Int32) * (10 : Int32)).toInt64)  hI_me  ⟨by omega, by omega⟩ ⟨by omega, by omega⟩ ⟨by omega, by omega⟩) (fun z6 hz6 => ?_)
  obtain ⟨hz6_0, hz6_1⟩ := hz6
  have hkpz6_me : Kp [8, 13, 14, 15, 16, 19, 20, 21, 23, 26, 29, 30, 43, 59, 62] [3, 7, 10, 12, 22, 24, 25, 27, 28, 42, 48, 50, 51, 55] [(3, (0 : Int32))] o_me z6.2 := Kp.rf.trans (hz6_1.mono (by decide) (by decide) (by decide))
  have kz6_k7 : (gA z6.2 3 ((8 : Int32) + p0).toNatClampNeg).toInt = (gA o_me 3 ((8 : Int32) + p0).toNatClampNeg).toInt := congrArg (fun g => (g ((8 : Int32) + p0).toNatClampNeg).toInt) (hz6_1.2.1 3 (by decide))
  have kz6_k8 : (gI z6.2 20).toInt = (gI o_me 20).toInt := congrArg Int32.toInt (hz6_1.1 20 (by decide))
  refine wp_bd (s_X9_within   z6.1 (0 : Int32) (9 : Int32)    (by omega)) (fun z9 hz9 => ?_)
  obtain ⟨hz9_0, hz9_1⟩ := hz9
  refine wp_some ?_
  exact (show (0 ≤ z9.toInt ∧ z9.toInt ≤ 9) ∧ IvX9 z6.2 ∧ Kp [8, 13, 14, 15, 16, 19, 20, 21, 23, 26, 29, 30, 43, 59, 62] [3, 7, 10, 12, 22, 24, 25, 27, 28, 42, 48, 50, 51, 55] [(3, (0 : Int32))] o_me z6.2 from ⟨⟨by omega, by omega⟩, hz6_0, hkpz6_me⟩)

set_option maxHeartbeats 4000000 in
set_option maxRecDepth 100000 in
theorem s_X9_raceIt (o_me : Ob) (p0 : Int32) (hI_me : IvX9 o_me) (q0 : 0 ≤ p0.toInt ∧ p0.toInt ≤ 3) (q1 : 0 ≤ (gI o_me 20).toInt ∧ (gI o_me 20).toInt ≤ 0) : wp (f_X9_raceIt   o_me p0) (fun (y : Int32 × Ob) => (0 ≤ y.1.toInt ∧ y.1.toInt ≤ 6) ∧ IvX9 y.2 ∧ Kp [8, 13, 14, 15, 16, 19, 20, 21, 23, 26, 29, 30, 43, 59, 62] [7, 10, 12, 22, 24, 25, 27, 28, 42, 48, 50, 51, 55] [(3, (0 : Int32))] o_me y.2) := by
  have li0 : (0 : Int32).toInt = 0 := by decide
  have li1 : (1 : Int32).toInt = 1 := by decide
  have li2 : (15 : Int32).toInt = 15 := by decide
  have li3 : (2 : Int32).toInt = 2 := by decide
  have li4 : (22 : Int32).toInt = 22 := by decide
  have li5 : (3 : Int32).toInt = 3 := by decide
  have li6 : (7 : Int32).toInt = 7 := by decide
  have li7 : (8 : Int32).toInt = 8 := by decide
  have li8 : (999 : Int32).toInt = 999 := by decide
  unfold f_X9_raceIt
  have t1 := iaX9_42_0 hI_me (j := (0 : Int32)) (by decide) (by decide)
  refine wp_lt (fun x2 ex2 => ?_)
  have tx2 : x2.toInt = (gA o_me 42 (0 : Int32).toNatClampNeg).toInt := by rw [ex2]
  refine wp_bd (s_X9_winsOf   o_me x2 p0 (1 : Int32)  hI_me  ⟨by omega, by omega⟩ ⟨by omega, by omega⟩ ⟨by omega, by omega⟩) (fun z3 hz3 => ?_)
  obtain ⟨hz3_0, hz3_1, hz3_2⟩ := hz3
  have hkpz3_me : Kp [8, 13, 14, 15, 16, 19, 20, 21, 23, 26, 29, 30, 43, 59, 62] [7, 10, 12, 22, 24, 25, 27, 28, 42, 48, 50, 51, 55] [(3, (0 : Int32))] o_me z3.2 := Kp.rf.trans (hz3_2.mono (by decide) (by decide) (by decide))
  have kz3_k4 : (gA z3.2 42 (0 : Int32).toNatClampNeg).toInt = (gA o_me 42 (0 : Int32).toNatClampNeg).toInt := congrArg (fun g => (g (0 : Int32).toNatClampNeg).toInt) (hz3_2.2.1 42 (by decide))
  have kz3_k5 : (gI z3.2 20).toInt = (gI o_me 20).toInt := congrArg Int32.toInt (hz3_2.1 20 (by decide))
  have t6 := igX9_43 hz3_1
  refine wp_if (fun c7 => ?_) (fun c7 => ?_)
  · have c7 := cv_le (a := (gI z3.2 43).toInt) (b := 1) rfl (by decide) c7
    obtain ⟨w8, ew8⟩ : ∃ z : Int32, z = (0 : Int32) := ⟨_, rfl⟩
    have tw8 : w8.toInt = 0 := by rw [ew8]; decide
    rw [show bk_X9_raceIt_39   p0 x2 z3.1 (0 : Int32) z3.2 = bk_X9_raceIt_39   p0 x2 z3.1 w8 z3.2 from by rw [ew8]]
    unfold bk_X9_raceIt_39
    refine wp_if (fun c9 => ?_) (fun c9 => ?_)
    · have c9 := cv_le (a := (gI z3.2 43).toInt) (b := 1) rfl (by decide) c9
      obtain ⟨w10, ew10⟩ : ∃ z : Int32, z = (0 : Int32) := ⟨_, rfl⟩
      have tw10 : w10.toInt = 0 := by rw [ew10]; decide
      rw [show bk_X9_raceIt_64   p0 x2 z3.1 w8 (0 : Int32) z3.2 = bk_X9_raceIt_64   p0 x2 z3.1 w8 w10 z3.2 from by rw [ew10]]
      unfold bk_X9_raceIt_64
      refine wp_if (fun c11 => ?_) (fun c11 => ?_)
      · have c11 := cv_le (a := (gI z3.2 43).toInt) (b := 2) rfl (by decide) c11
        obtain ⟨w12, ew12⟩ : ∃ z : Int32, z = (0 : Int32) := ⟨_, rfl⟩
        have tw12 : w12.toInt = 0 := by rw [ew12]; decide
        rw [show bk_X9_raceIt_90   x2 z3.1 w8 w10 (0 : Int32) z3.2 = bk_X9_raceIt_90   x2 z3.1 w8 w10 w12 z3.2 from by rw [ew12]]
        unfold bk_X9_raceIt_90
        have t13 : ((15 : Int32) + x2).toInt = 15 + x2.toInt := i32_add (by decide) rfl (by omega) (by omega)
        refine wp_gd (zin_of (m := 5484) rfl (by omega) (by omega)) ?_
        have rg14 := i32_rg ((gA z3.2 3 ((15 : Int32) + x2).toNatClampNeg) + z3.1)
        have t15 : (((gA z3.2 3 ((15 : Int32) + x2).toNatClampNeg) + z3.1).toInt64).toInt = ((gA z3.2 3 ((15 : Int32) + x2).toNatClampNeg) + z3.1).toInt := Int32.toInt_toInt64 _
        refine wp_bd (s_X9_within   (((gA z3.2 3 ((15 : Int32) + x2).toNatClampNeg) + z3.1).toInt64) (0 : Int32) (999 : Int32)    (by omega)) (fun z16 hz16 => ?_)
        obtain ⟨hz16_0, hz16_1⟩ := hz16
        refine wp_gd (zin_of (m := 5484) rfl (by omega) (by omega)) ?_
        refine wp_lt (fun o17 eo17 => ?_)
        have hIo17 : IvX9 o17 := by rw [eo17]; exact ibX9_3 hz3_1 (by omega) (by omega) (Or.inr (Or.inl (by first | omega | decide))) (Or.inr (Or.inl (by first | omega | decide))) (Or.inr (Or.inl (by first | omega | decide))) (Or.inr (Or.inl (by first | omega | decide))) (Or.inr (Or.inl (by first | omega | decide))) (Or.inr (Or.inl (by first | omega | decide))) (Or.inl (by first | omega | decide)) (Or.inl (by first | omega | decide)) (Or.inl (by first | omega | decide))
        have ko17_k18 : (gA o17 42 (0 : Int32).toNatClampNeg).toInt = (gA z3.2 42 (0 : Int32).toNatClampNeg).toInt := by rw [eo17]; rfl
        have ko17_k19 : (gI o17 20).toInt = (gI z3.2 20).toInt := by rw [eo17]; rfl
        have ko17_k20 : (gI o17 43).toInt = (gI z3.2 43).toInt := by rw [eo17]; rfl
        have ko17_v : (gA o17 3 ((15 : Int32) + x2).toNatClampNeg).toInt = z16.toInt := by rw [eo17]; exact congrArg Int32.toInt (upd_eq (g := gA z3.2 3) (i := ((15 : Int32) + x2)) (v := z16))
        have hkpo17 : Kp [8, 13, 14, 15, 16, 19, 20, 21, 23, 26, 29, 30, 43, 59, 62] [7, 10, 12, 22, 24, 25, 27, 28, 42, 48, 50, 51, 55] [(3, (0 : Int32))] o_me o17 := hkpz3_me.trans (by rw [eo17]; exact kp_tA0 (by decide) (by omega))
        have t21 := iaX9_3_4 hIo17 (j := (7 : Int32)) (by decide) (by decide)
        have t22 : ((gA o17 3 (7 : Int32).toNatClampNeg) + w8).toInt = (gA o17 3 (7 : Int32).toNatClampNeg).toInt + w8.toInt := i32_add rfl rfl (by omega) (by omega)
        have t23 : (((gA o17 3 (7 : Int32).toNatClampNeg) + w8).toInt64).toInt = ((gA o17 3 (7 : Int32).toNatClampNeg) + w8).toInt := Int32.toInt_toInt64 _
        refine wp_bd (s_X9_within   (((gA o17 3 (7 : Int32).toNatClampNeg) + w8).toInt64) (0 : Int32) (999 : Int32)    (by omega)) (fun z24 hz24 => ?_)
        obtain ⟨hz24_0, hz24_1⟩ := hz24
        refine wp_lt (fun o25 eo25 => ?_)
        have hIo25 : IvX9 o25 := by rw [eo25]; exact ibX9_3 hIo17 (by decide) (by decide) (Or.inr (Or.inl (by first | omega | decide))) (Or.inr (Or.inl (by first | omega | decide))) (Or.inr (Or.inl (by first | omega | decide))) (Or.inr (Or.inl (by first | omega | decide))) (Or.inr (Or.inr ⟨by omega, by omega⟩)) (Or.inl (by first | omega | decide)) (Or.inl (by first | omega | decide)) (Or.inl (by first | omega | decide)) (Or.inl (by first | omega | decide))
        have ko25_k26 : (gA o25 3 ((15 : Int32) + x2).toNatClampNeg).toInt = (gA o17 3 ((15 : Int32) + x2).toNatClampNeg).toInt := by rw [eo25]; exact congrArg Int32.toInt (upd_ne (g := gA o17 3) (i := (7 : Int32)) (j := ((15 : Int32) + x2)) (v := z24) (by decide) (by omega) (by omega))
        have ko25_k27 : (gA o25 42 (0 : Int32).toNatClampNeg).toInt = (gA o17 42 (0 : Int32).toNatClampNeg).toInt := by rw [eo25]; rfl
        have ko25_k28 : (gI o25 20).toInt = (gI o17 20).toInt := by rw [eo25]; rfl
        have ko25_k29 : (gI o25 43).toInt = (gI o17 43).toInt := by rw [eo25]; rfl
        have ko25_v : (gA o25 3 (7 : Int32).toNatClampNeg).toInt = z24.toInt := by rw [eo25]; exact congrArg Int32.toInt (upd_eq (g := gA o17 3) (i := (7 : Int32)) (v := z24))
        have hkpo25 : Kp [8, 13, 14, 15, 16, 19, 20, 21, 23, 26, 29, 30, 43, 59, 62] [7, 10, 12, 22, 24, 25, 27, 28, 42, 48, 50, 51, 55] [(3, (0 : Int32))] o_me o25 := hkpo17.trans (by rw [eo25]; exact kp_tA0 (by decide) (by decide))
        refine wp_if (fun c30 => ?_) (fun c30 => ?_)
        · have c30 := cv_le (a := (gI o25 43).toInt) (b := 1) rfl (by decide) c30
          unfold bk_X9_raceIt_169
          refine wp_if (fun c31 => ?_) (fun c31 => ?_)
          · have c31 := cv_le (a := (gI o25 43).toInt) (b := 2) rfl (by decide) c31
            unfold bk_X9_raceIt_216
            have lp1 : ∀ (N1 : Nat) (v2_1 : Int32) (v7_1 : Int32) (o_me_1 : Ob), IvX9 o_me_1 → Kp [8, 13, 14, 15, 16, 19, 20, 21, 23, 26, 29, 30, 43, 59, 62] [7, 10, 12, 22, 24, 25, 27, 28, 42, 48, 50, 51, 55] [(3, (0 : Int32))] o_me o_me_1 → (0 ≤ v2_1.toInt ∧ v2_1.toInt ≤ 6) → (0 ≤ v7_1.toInt ∧ v7_1.toInt ≤ 1) → (0 ≤ (gI o_me_1 20).toInt ∧ (gI o_me_1 20).toInt ≤ 0) → (0 ≤ (gI o_me_1 43).toInt ∧ (gI o_me_1 43).toInt ≤ 1) → (v7_1.toInt ≤ (gI o_me_1 43).toInt + 0) → (v2_1.toInt ≤ x2.toInt + 0) → (x2.toInt ≤ v2_1.toInt + 0) → (1 - v7_1.toInt).toNat < N1 → wp (lp_X9_raceIt_219   N1 (v2_1, v7_1, o_me_1)) (fun (y : Int32 × Ob) => (0 ≤ y.1.toInt ∧ y.1.toInt ≤ 6) ∧ IvX9 y.2 ∧ Kp [8, 13, 14, 15, 16, 19, 20, 21, 23, 26, 29, 30, 43, 59, 62] [7, 10, 12, 22, 24, 25, 27, 28, 42, 48, 50, 51, 55] [(3, (0 : Int32))] o_me y.2) := by
              intro N1
              induction N1 with
              | zero =>
                intro v2_1 v7_1 o_me_1 hI_me_1 hkp_me_1 hh34 hh35 hh36 hh37 hh38 hh39 hh40 hN1
                exact absurd hN1 (Nat.not_lt_zero _)
              | succ N1 ihx =>
                have ih1 := ihx
                intro v2_1 v7_1 o_me_1 hI_me_1 hkp_me_1 hh34 hh35 hh36 hh37 hh38 hh39 hh40 hN1
                show wp (lb_X9_raceIt_219   (lp_X9_raceIt_219   N1) v2_1 v7_1 o_me_1) (fun (y : Int32 × Ob) => (0 ≤ y.1.toInt ∧ y.1.toInt ≤ 6) ∧ IvX9 y.2 ∧ Kp [8, 13, 14, 15, 16, 19, 20, 21, 23, 26, 29, 30, 43, 59, 62] [7, 10, 12, 22, 24, 25, 27, 28, 42, 48, 50, 51, 55] [(3, (0 : Int32))] o_me y.2)
                unfold lb_X9_raceIt_219
                refine wp_if (fun c41 => ?_) (fun c41 => ?_)
                · have c41 := cv_ge (a := v7_1.toInt) (b := (gI o_me_1 43).toInt) rfl rfl c41
                  refine wp_some ?_
                  exact (show (0 ≤ v2_1.toInt ∧ v2_1.toInt ≤ 6) ∧ IvX9 o_me_1 ∧ Kp [8, 13, 14, 15, 16, 19, 20, 21, 23, 26, 29, 30, 43, 59, 62] [7, 10, 12, 22, 24, 25, 27, 28, 42, 48, 50, 51, 55] [(3, (0 : Int32))] o_me o_me_1 from ⟨⟨by omega, by omega⟩, hI_me_1, hkp_me_1⟩)
                · have c41 := cv_nge (a := v7_1.toInt) (b := (gI o_me_1 43).toInt) rfl rfl c41
                  refine wp_gd (zin_of (m := 7) rfl (by omega) (by omega)) ?_
                  have t42 := iaX9_42_0 hI_me_1 (j := v7_1) (by omega) (by omega)
                  have t43 : ((22 : Int32) + (gA o_me_1 42 v7_1.toNatClampNeg)).toInt = 22 + (gA o_me_1 42 v7_1.toNatClampNeg).toInt := i32_add (by decide) rfl (by omega) (by omega)
                  refine wp_gd (zin_of (m := 5484) rfl (by omega) (by omega)) ?_
                  refine wp_lt (fun o44 eo44 => ?_)
                  have hIo44 : IvX9 o44 := by rw [eo44]; exact ibX9_3 hI_me_1 (by omega) (by omega) (Or.inr (Or.inl (by first | omega | decide))) (Or.inr (Or.inl (by first | omega | decide))) (Or.inr (Or.inl (by first | omega | decide))) (Or.inr (Or.inl (by first | omega | decide))) (Or.inr (Or.inl (by first | omega | decide))) (Or.inr (Or.inl (by first | omega | decide))) (Or.inr (Or.inr ⟨by decide, by decide⟩)) (Or.inl (by first | omega | decide)) (Or.inl (by first | omega | decide))
                  have ko44_k45 : (gA o44 42 v7_1.toNatClampNeg).toInt = (gA o_me_1 42 v7_1.toNatClampNeg).toInt := by rw [eo44]; rfl
                  have ko44_k46 : (gI o44 20).toInt = (gI o_me_1 20).toInt := by rw [eo44]; rfl
                  have ko44_k47 : (gI o44 43).toInt = (gI o_me_1 43).toInt := by rw [eo44]; rfl
                  have ko44_v : (gA o44 3 ((22 : Int32) + (gA o_me_1 42 v7_1.toNatClampNeg)).toNatClampNeg).toInt = 0 := by rw [eo44]; exact (congrArg Int32.toInt (upd_eq (g := gA o_me_1 3) (i := ((22 : Int32) + (gA o_me_1 42 v7_1.toNatClampNeg))) (v := (0 : Int32)))).trans (show ((0 : Int32)).toInt = 0 by decide)
                  have hkpo44 : Kp [8, 13, 14, 15, 16, 19, 20, 21, 23, 26, 29, 30, 43, 59, 62] [7, 10, 12, 22, 24, 25, 27, 28, 42, 48, 50, 51, 55] [(3, (0 : Int32))] o_me o44 := hkp_me_1.trans (by rw [eo44]; exact kp_tA0 (by decide) (by omega))
                  refine wp_lt (fun x48 ex48 => ?_)
                  have tx48 : x48.toInt = v7_1.toInt + 1 := by rw [ex48]; exact i32_add rfl (by decide) (by omega) (by omega)
                  exact ih1 v2_1 x48 o44 hIo44 hkpo44 ⟨by omega, by omega⟩ ⟨by omega, by omega⟩ ⟨by omega, by omega⟩ ⟨by omega, by omega⟩ (by omega) (by omega) (by omega) (by omega)
            exact lp1 zfu x2 (0 : Int32) o25 hIo25 hkpo25 ⟨by omega, by omega⟩ ⟨by decide, by decide⟩ ⟨by omega, by omega⟩ ⟨by omega, by omega⟩ (by omega) (by omega) (by omega) (by show _ < 100000; omega)
          · have c31 := cv_nle (a := (gI o25 43).toInt) (b := 2) rfl (by decide) c31
            exfalso; omega
        · have c30 := cv_nle (a := (gI o25 43).toInt) (b := 1) rfl (by decide) c30
          exfalso; omega
      · have c11 := cv_nle (a := (gI z3.2 43).toInt) (b := 2) rfl (by decide) c11
        exfalso; omega
    · have c9 := cv_nle (a := (gI z3.2 43).toInt) (b := 1) rfl (by decide) c9
      exfalso; omega
  · have c7 := cv_nle (a := (gI z3.2 43).toInt) (b := 1) rfl (by decide) c7
    have t49 := iaX9_42_0 hz3_1 (j := (1 : Int32)) (by decide) (by decide)
    refine wp_bd (s_X9_winsOf   z3.2 (gA z3.2 42 (1 : Int32).toNatClampNeg) p0 (2 : Int32)  hz3_1  ⟨by omega, by omega⟩ ⟨by omega, by omega⟩ ⟨by omega, by omega⟩) (fun z50 hz50 => ?_)
    obtain ⟨hz50_0, hz50_1, hz50_2⟩ := hz50
    have hkpz50_me : Kp [8, 13, 14, 15, 16, 19, 20, 21, 23, 26, 29, 30, 43, 59, 62] [7, 10, 12, 22, 24, 25, 27, 28, 42, 48, 50, 51, 55] [(3, (0 : Int32))] o_me z50.2 := hkpz3_me.trans (hz50_2.mono (by decide) (by decide) (by decide))
    have kz50_k51 : (gA z50.2 42 (0 : Int32).toNatClampNeg).toInt = (gA z3.2 42 (0 : Int32).toNatClampNeg).toInt := congrArg (fun g => (g (0 : Int32).toNatClampNeg).toInt) (hz50_2.2.1 42 (by decide))
    have kz50_k52 : (gA z50.2 42 (1 : Int32).toNatClampNeg).toInt = (gA z3.2 42 (1 : Int32).toNatClampNeg).toInt := congrArg (fun g => (g (1 : Int32).toNatClampNeg).toInt) (hz50_2.2.1 42 (by decide))
    have kz50_k53 : (gI z50.2 20).toInt = (gI z3.2 20).toInt := congrArg Int32.toInt (hz50_2.1 20 (by decide))
    have kz50_k54 : (gI z50.2 43).toInt = (gI z3.2 43).toInt := congrArg Int32.toInt (hz50_2.1 43 (by decide))
    unfold bk_X9_raceIt_39
    refine wp_if (fun c55 => ?_) (fun c55 => ?_)
    · have c55 := cv_le (a := (gI z50.2 43).toInt) (b := 1) rfl (by decide) c55
      exfalso; omega
    · have c55 := cv_nle (a := (gI z50.2 43).toInt) (b := 1) rfl (by decide) c55
      refine wp_bd (s_X9_turnsOf   z50.2 (gA z50.2 42 (1 : Int32).toNatClampNeg) p0  hz50_1  ⟨by omega, by omega⟩ ⟨by omega, by omega⟩ ⟨by omega, by omega⟩) (fun z56 hz56 => ?_)
      obtain ⟨hz56_0, hz56_1, hz56_2⟩ := hz56
      have hkpz56_me : Kp [8, 13, 14, 15, 16, 19, 20, 21, 23, 26, 29, 30, 43, 59, 62] [7, 10, 12, 22, 24, 25, 27, 28, 42, 48, 50, 51, 55] [(3, (0 : Int32))] o_me z56.2 := hkpz50_me.trans (hz56_2.mono (by decide) (by decide) (by decide))
      have kz56_k57 : (gA z56.2 42 (0 : Int32).toNatClampNeg).toInt = (gA z50.2 42 (0 : Int32).toNatClampNeg).toInt := congrArg (fun g => (g (0 : Int32).toNatClampNeg).toInt) (hz56_2.2.1 42 (by decide))
      have kz56_k58 : (gA z56.2 42 (1 : Int32).toNatClampNeg).toInt = (gA z50.2 42 (1 : Int32).toNatClampNeg).toInt := congrArg (fun g => (g (1 : Int32).toNatClampNeg).toInt) (hz56_2.2.1 42 (by decide))
      have kz56_k59 : (gI z56.2 20).toInt = (gI z50.2 20).toInt := congrArg Int32.toInt (hz56_2.1 20 (by decide))
      have kz56_k60 : (gI z56.2 43).toInt = (gI z50.2 43).toInt := congrArg Int32.toInt (hz56_2.1 43 (by decide))
      unfold bk_X9_raceIt_64
      refine wp_if (fun c61 => ?_) (fun c61 => ?_)
      · have c61 := cv_le (a := (gI z56.2 43).toInt) (b := 2) rfl (by decide) c61
        obtain ⟨w62, ew62⟩ : ∃ z : Int32, z = (0 : Int32) := ⟨_, rfl⟩
        have tw62 : w62.toInt = 0 := by rw [ew62]; decide
        rw [show bk_X9_raceIt_90   x2 z3.1 z50.1 z56.1 (0 : Int32) z56.2 = bk_X9_raceIt_90   x2 z3.1 z50.1 z56.1 w62 z56.2 from by rw [ew62]]
        unfold bk_X9_raceIt_90
        have t63 : ((15 : Int32) + x2).toInt = 15 + x2.toInt := i32_add (by decide) rfl (by omega) (by omega)
        refine wp_gd (zin_of (m := 5484) rfl (by omega) (by omega)) ?_
        have rg64 := i32_rg ((gA z56.2 3 ((15 : Int32) + x2).toNatClampNeg) + z3.1)
        have t65 : (((gA z56.2 3 ((15 : Int32) + x2).toNatClampNeg) + z3.1).toInt64).toInt = ((gA z56.2 3 ((15 : Int32) + x2).toNatClampNeg) + z3.1).toInt := Int32.toInt_toInt64 _
        refine wp_bd (s_X9_within   (((gA z56.2 3 ((15 : Int32) + x2).toNatClampNeg) + z3.1).toInt64) (0 : Int32) (999 : Int32)    (by omega)) (fun z66 hz66 => ?_)
        obtain ⟨hz66_0, hz66_1⟩ := hz66
        refine wp_gd (zin_of (m := 5484) rfl (by omega) (by omega)) ?_
        refine wp_lt (fun o67 eo67 => ?_)
        have hIo67 : IvX9 o67 := by rw [eo67]; exact ibX9_3 hz56_1 (by omega) (by omega) (Or.inr (Or.inl (by first | omega | decide))) (Or.inr (Or.inl (by first | omega | decide))) (Or.inr (Or.inl (by first | omega | decide))) (Or.inr (Or.inl (by first | omega | decide))) (Or.inr (Or.inl (by first | omega | decide))) (Or.inr (Or.inl (by first | omega | decide))) (Or.inl (by first | omega | decide)) (Or.inl (by first | omega | decide)) (Or.inl (by first | omega | decide))
        have ko67_k68 : (gA o67 42 (0 : Int32).toNatClampNeg).toInt = (gA z56.2 42 (0 : Int32).toNatClampNeg).toInt := by rw [eo67]; rfl
        have ko67_k69 : (gA o67 42 (1 : Int32).toNatClampNeg).toInt = (gA z56.2 42 (1 : Int32).toNatClampNeg).toInt := by rw [eo67]; rfl
        have ko67_k70 : (gI o67 20).toInt = (gI z56.2 20).toInt := by rw [eo67]; rfl
        have ko67_k71 : (gI o67 43).toInt = (gI z56.2 43).toInt := by rw [eo67]; rfl
        have ko67_v : (gA o67 3 ((15 : Int32) + x2).toNatClampNeg).toInt = z66.toInt := by rw [eo67]; exact congrArg Int32.toInt (upd_eq (g := gA z56.2 3) (i := ((15 : Int32) + x2)) (v := z66))
        have hkpo67 : Kp [8, 13, 14, 15, 16, 19, 20, 21, 23, 26, 29, 30, 43, 59, 62] [7, 10, 12, 22, 24, 25, 27, 28, 42, 48, 50, 51, 55] [(3, (0 : Int32))] o_me o67 := hkpz56_me.trans (by rw [eo67]; exact kp_tA0 (by decide) (by omega))
        have t72 := iaX9_3_4 hIo67 (j := (7 : Int32)) (by decide) (by decide)
        have t73 : ((gA o67 3 (7 : Int32).toNatClampNeg) + z50.1).toInt = (gA o67 3 (7 : Int32).toNatClampNeg).toInt + z50.1.toInt := i32_add rfl rfl (by omega) (by omega)
        have t74 : (((gA o67 3 (7 : Int32).toNatClampNeg) + z50.1).toInt64).toInt = ((gA o67 3 (7 : Int32).toNatClampNeg) + z50.1).toInt := Int32.toInt_toInt64 _
        refine wp_bd (s_X9_within   (((gA o67 3 (7 : Int32).toNatClampNeg) + z50.1).toInt64) (0 : Int32) (999 : Int32)    (by omega)) (fun z75 hz75 => ?_)
        obtain ⟨hz75_0, hz75_1⟩ := hz75
        refine wp_lt (fun o76 eo76 => ?_)
        have hIo76 : IvX9 o76 := by rw [eo76]; exact ibX9_3 hIo67 (by decide) (by decide) (Or.inr (Or.inl (by first | omega | decide))) (Or.inr (Or.inl (by first | omega | decide))) (Or.inr (Or.inl (by first | omega | decide))) (Or.inr (Or.inl (by first | omega | decide))) (Or.inr (Or.inr ⟨by omega, by omega⟩)) (Or.inl (by first | omega | decide)) (Or.inl (by first | omega | decide)) (Or.inl (by first | omega | decide)) (Or.inl (by first | omega | decide))
        have ko76_k77 : (gA o76 3 ((15 : Int32) + x2).toNatClampNeg).toInt = (gA o67 3 ((15 : Int32) + x2).toNatClampNeg).toInt := by rw [eo76]; exact congrArg Int32.toInt (upd_ne (g := gA o67 3) (i := (7 : Int32)) (j := ((15 : Int32) + x2)) (v := z75) (by decide) (by omega) (by omega))
        have ko76_k78 : (gA o76 42 (0 : Int32).toNatClampNeg).toInt = (gA o67 42 (0 : Int32).toNatClampNeg).toInt := by rw [eo76]; rfl
        have ko76_k79 : (gA o76 42 (1 : Int32).toNatClampNeg).toInt = (gA o67 42 (1 : Int32).toNatClampNeg).toInt := by rw [eo76]; rfl
        have ko76_k80 : (gI o76 20).toInt = (gI o67 20).toInt := by rw [eo76]; rfl
        have ko76_k81 : (gI o76 43).toInt = (gI o67 43).toInt := by rw [eo76]; rfl
        have ko76_v : (gA o76 3 (7 : Int32).toNatClampNeg).toInt = z75.toInt := by rw [eo76]; exact congrArg Int32.toInt (upd_eq (g := gA o67 3) (i := (7 : Int32)) (v := z75))
        have hkpo76 : Kp [8, 13, 14, 15, 16, 19, 20, 21, 23, 26, 29, 30, 43, 59, 62] [7, 10, 12, 22, 24, 25, 27, 28, 42, 48, 50, 51, 55] [(3, (0 : Int32))] o_me o76 := hkpo67.trans (by rw [eo76]; exact kp_tA0 (by decide) (by decide))
        refine wp_if (fun c82 => ?_) (fun c82 => ?_)
        · have c82 := cv_le (a := (gI o76 43).toInt) (b := 1) rfl (by decide) c82
          exfalso; omega
        · have c82 := cv_nle (a := (gI o76 43).toInt) (b := 1) rfl (by decide) c82
          have t83 : ((8 : Int32) + (gA o76 42 (1 : Int32).toNatClampNeg)).toInt = 8 + (gA o76 42 (1 : Int32).toNatClampNeg).toInt := i32_add (by decide) rfl (by omega) (by omega)
          refine wp_gd (zin_of (m := 5484) rfl (by omega) (by omega)) ?_
          refine wp_lt (fun o84 eo84 => ?_)
          have hIo84 : IvX9 o84 := by rw [eo84]; exact ibX9_3 hIo76 (by omega) (by omega) (Or.inr (Or.inl (by first | omega | decide))) (Or.inr (Or.inl (by first | omega | decide))) (Or.inr (Or.inl (by first | omega | decide))) (Or.inr (Or.inl (by first | omega | decide))) (Or.inr (Or.inl (by first | omega | decide))) (Or.inr (Or.inr ⟨by omega, by omega⟩)) (Or.inl (by first | omega | decide)) (Or.inl (by first | omega | decide)) (Or.inl (by first | omega | decide))
          have ko84_k85 : (gA o84 3 ((15 : Int32) + x2).toNatClampNeg).toInt = (gA o76 3 ((15 : Int32) + x2).toNatClampNeg).toInt := by rw [eo84]; exact congrArg Int32.toInt (upd_ne (g := gA o76 3) (i := ((8 : Int32) + (gA o76 42 (1 : Int32).toNatClampNeg))) (j := ((15 : Int32) + x2)) (v := z56.1) (by omega) (by omega) (by omega))
          have ko84_k86 : (gA o84 3 (7 : Int32).toNatClampNeg).toInt = (gA o76 3 (7 : Int32).toNatClampNeg).toInt := by rw [eo84]; exact congrArg Int32.toInt (upd_ne (g := gA o76 3) (i := ((8 : Int32) + (gA o76 42 (1 : Int32).toNatClampNeg))) (j := (7 : Int32)) (v := z56.1) (by omega) (by decide) (by omega))
          have ko84_k87 : (gA o84 42 (0 : Int32).toNatClampNeg).toInt = (gA o76 42 (0 : Int32).toNatClampNeg).toInt := by rw [eo84]; rfl
          have ko84_k88 : (gA o84 42 (1 : Int32).toNatClampNeg).toInt = (gA o76 42 (1 : Int32).toNatClampNeg).toInt := by rw [eo84]; rfl
          have ko84_k89 : (gI o84 20).toInt = (gI o76 20).toInt := by rw [eo84]; rfl
          have ko84_k90 : (gI o84 43).toInt = (gI o76 43).toInt := by rw [eo84]; rfl
          have ko84_v : (gA o84 3 ((8 : Int32) + (gA o76 42 (1 : Int32).toNatClampNeg)).toNatClampNeg).toInt = z56.1.toInt := by rw [eo84]; exact congrArg Int32.toInt (upd_eq (g := gA o76 3) (i := ((8 : Int32) + (gA o76 42 (1 : Int32).toNatClampNeg))) (v := z56.1))
          have hkpo84 : Kp [8, 13, 14, 15, 16, 19, 20, 21, 23, 26, 29, 30, 43, 59, 62] [7, 10, 12, 22, 24, 25, 27, 28, 42, 48, 50, 51, 55] [(3, (0 : Int32))] o_me o84 := hkpo76.trans (by rw [eo84]; exact kp_tA0 (by decide) (by omega))
          unfold bk_X9_raceIt_169
          refine wp_if (fun c91 => ?_) (fun c91 => ?_)
          · have c91 := cv_le (a := (gI o84 43).toInt) (b := 2) rfl (by decide) c91
            unfold bk_X9_raceIt_216
            have lp2 : ∀ (N2 : Nat) (v2_2 : Int32) (v7_2 : Int32) (o_me_2 : Ob), IvX9 o_me_2 → Kp [8, 13, 14, 15, 16, 19, 20, 21, 23, 26, 29, 30, 43, 59, 62] [7, 10, 12, 22, 24, 25, 27, 28, 42, 48, 50, 51, 55] [(3, (0 : Int32))] o_me o_me_2 → (0 ≤ v2_2.toInt ∧ v2_2.toInt ≤ 6) → (0 ≤ v7_2.toInt ∧ v7_2.toInt ≤ 2) → (0 ≤ (gI o_me_2 20).toInt ∧ (gI o_me_2 20).toInt ≤ 0) → (2 ≤ (gI o_me_2 43).toInt ∧ (gI o_me_2 43).toInt ≤ 2) → (v2_2.toInt ≤ x2.toInt + 0) → (x2.toInt ≤ v2_2.toInt + 0) → (2 - v7_2.toInt).toNat < N2 → wp (lp_X9_raceIt_219   N2 (v2_2, v7_2, o_me_2)) (fun (y : Int32 × Ob) => (0 ≤ y.1.toInt ∧ y.1.toInt ≤ 6) ∧ IvX9 y.2 ∧ Kp [8, 13, 14, 15, 16, 19, 20, 21, 23, 26, 29, 30, 43, 59, 62] [7, 10, 12, 22, 24, 25, 27, 28, 42, 48, 50, 51, 55] [(3, (0 : Int32))] o_me y.2) := by
              intro N2
              induction N2 with
              | zero =>
                intro v2_2 v7_2 o_me_2 hI_me_2 hkp_me_2 hh94 hh95 hh96 hh97 hh98 hh99 hN2
                exact absurd hN2 (Nat.not_lt_zero _)
              | succ N2 ihx =>
                have ih2 := ihx
                intro v2_2 v7_2 o_me_2 hI_me_2 hkp_me_2 hh94 hh95 hh96 hh97 hh98 hh99 hN2
                show wp (lb_X9_raceIt_219   (lp_X9_raceIt_219   N2) v2_2 v7_2 o_me_2) (fun (y : Int32 × Ob) => (0 ≤ y.1.toInt ∧ y.1.toInt ≤ 6) ∧ IvX9 y.2 ∧ Kp [8, 13, 14, 15, 16, 19, 20, 21, 23, 26, 29, 30, 43, 59, 62] [7, 10, 12, 22, 24, 25, 27, 28, 42, 48, 50, 51, 55] [(3, (0 : Int32))] o_me y.2)
                unfold lb_X9_raceIt_219
                refine wp_if (fun c100 => ?_) (fun c100 => ?_)
                · have c100 := cv_ge (a := v7_2.toInt) (b := (gI o_me_2 43).toInt) rfl rfl c100
                  refine wp_some ?_
                  exact (show (0 ≤ v2_2.toInt ∧ v2_2.toInt ≤ 6) ∧ IvX9 o_me_2 ∧ Kp [8, 13, 14, 15, 16, 19, 20, 21, 23, 26, 29, 30, 43, 59, 62] [7, 10, 12, 22, 24, 25, 27, 28, 42, 48, 50, 51, 55] [(3, (0 : Int32))] o_me o_me_2 from ⟨⟨by omega, by omega⟩, hI_me_2, hkp_me_2⟩)
                · have c100 := cv_nge (a := v7_2.toInt) (b := (gI o_me_2 43).toInt) rfl rfl c100
                  refine wp_gd (zin_of (m := 7) rfl (by omega) (by omega)) ?_
                  have t101 := iaX9_42_0 hI_me_2 (j := v7_2) (by omega) (by omega)
                  have t102 : ((22 : Int32) + (gA o_me_2 42 v7_2.toNatClampNeg)).toInt = 22 + (gA o_me_2 42 v7_2.toNatClampNeg).toInt := i32_add (by decide) rfl (by omega) (by omega)
                  refine wp_gd (zin_of (m := 5484) rfl (by omega) (by omega)) ?_
                  refine wp_lt (fun o103 eo103 => ?_)
                  have hIo103 : IvX9 o103 := by rw [eo103]; exact ibX9_3 hI_me_2 (by omega) (by omega) (Or.inr (Or.inl (by first | omega | decide))) (Or.inr (Or.inl (by first | omega | decide))) (Or.inr (Or.inl (by first | omega | decide))) (Or.inr (Or.inl (by first | omega | decide))) (Or.inr (Or.inl (by first | omega | decide))) (Or.inr (Or.inl (by first | omega | decide))) (Or.inr (Or.inr ⟨by decide, by decide⟩)) (Or.inl (by first | omega | decide)) (Or.inl (by first | omega | decide))
                  have ko103_k104 : (gA o103 42 v7_2.toNatClampNeg).toInt = (gA o_me_2 42 v7_2.toNatClampNeg).toInt := by rw [eo103]; rfl
                  have ko103_k105 : (gI o103 20).toInt = (gI o_me_2 20).toInt := by rw [eo103]; rfl
                  have ko103_k106 : (gI o103 43).toInt = (gI o_me_2 43).toInt := by rw [eo103]; rfl
                  have ko103_v : (gA o103 3 ((22 : Int32) + (gA o_me_2 42 v7_2.toNatClampNeg)).toNatClampNeg).toInt = 0 := by rw [eo103]; exact (congrArg Int32.toInt (upd_eq (g := gA o_me_2 3) (i := ((22 : Int32) + (gA o_me_2 42 v7_2.toNatClampNeg))) (v := (0 : Int32)))).trans (show ((0 : Int32)).toInt = 0 by decide)
                  have hkpo103 : Kp [8, 13, 14, 15, 16, 19, 20, 21, 23, 26, 29, 30, 43, 59, 62] [7, 10, 12, 22, 24, 25, 27, 28, 42, 48, 50, 51, 55] [(3, (0 : Int32))] o_me o103 := hkp_me_2.trans (by rw [eo103]; exact kp_tA0 (by decide) (by omega))
                  refine wp_lt (fun x107 ex107 => ?_)
                  have tx107 : x107.toInt = v7_2.toInt + 1 := by rw [ex107]; exact i32_add rfl (by decide) (by omega) (by omega)
                  exact ih2 v2_2 x107 o103 hIo103 hkpo103 ⟨by omega, by omega⟩ ⟨by omega, by omega⟩ ⟨by omega, by omega⟩ ⟨by omega, by omega⟩ (by omega) (by omega) (by omega)
            exact lp2 zfu x2 (0 : Int32) o84 hIo84 hkpo84 ⟨by omega, by omega⟩ ⟨by decide, by decide⟩ ⟨by omega, by omega⟩ ⟨by omega, by omega⟩ (by omega) (by omega) (by show _ < 100000; omega)
          · have c91 := cv_nle (a := (gI o84 43).toInt) (b := 2) rfl (by decide) c91
            exfalso; omega
      · have c61 := cv_nle (a := (gI z56.2 43).toInt) (b := 2) rfl (by decide) c61
        have t108 := iaX9_42_0 hz56_1 (j := (2 : Int32)) (by decide) (by decide)
        refine wp_bd (s_X9_winsOf   z56.2 (gA z56.2 42 (2 : Int32).toNatClampNeg) p0 (3 : Int32)  hz56_1  ⟨by omega, by omega⟩ ⟨by omega, by omega⟩ ⟨by omega, by omega⟩) (fun z109 hz109 => ?_)
        obtain ⟨hz109_0, hz109_1, hz109_2⟩ := hz109
        have hkpz109_me : Kp [8, 13, 14, 15, 16, 19, 20, 21, 23, 26, 29, 30, 43, 59, 62] [7, 10, 12, 22, 24, 25, 27, 28, 42, 48, 50, 51, 55] [(3, (0 : Int32))] o_me z109.2 := hkpz56_me.trans (hz109_2.mono (by decide) (by decide) (by decide))
        have kz109_k110 : (gA z109.2 42 (0 : Int32).toNatClampNeg).toInt = (gA z56.2 42 (0 : Int32).toNatClampNeg).toInt := congrArg (fun g => (g (0 : Int32).toNatClampNeg).toInt) (hz109_2.2.1 42 (by decide))
        have kz109_k111 : (gA z109.2 42 (1 : Int32).toNatClampNeg).toInt = (gA z56.2 42 (1 : Int32).toNatClampNeg).toInt := congrArg (fun g => (g (1 : Int32).toNatClampNeg).toInt) (hz109_2.2.1 42 (by decide))
        have kz109_k112 : (gA z109.2 42 (2 : Int32).toNatClampNeg).toInt = (gA z56.2 42 (2 : Int32).toNatClampNeg).toInt := congrArg (fun g => (g (2 : Int32).toNatClampNeg).toInt) (hz109_2.2.1 42 (by decide))
        have kz109_k113 : (gI z109.2 20).toInt = (gI z56.2 20).toInt := congrArg Int32.toInt (hz109_2.1 20 (by decide))
        have kz109_k114 : (gI z109.2 43).toInt = (gI z56.2 43).toInt := congrArg Int32.toInt (hz109_2.1 43 (by decide))
        unfold bk_X9_raceIt_90
        have t115 : ((15 : Int32) + x2).toInt = 15 + x2.toInt := i32_add (by decide) rfl (by omega) (by omega)
        refine wp_gd (zin_of (m := 5484) rfl (by omega) (by omega)) ?_
        have rg116 := i32_rg ((gA z109.2 3 ((15 : Int32) + x2).toNatClampNeg) + z3.1)
        have t117 : (((gA z109.2 3 ((15 : Int32) + x2).toNatClampNeg) + z3.1).toInt64).toInt = ((gA z109.2 3 ((15 : Int32) + x2).toNatClampNeg) + z3.1).toInt := Int32.toInt_toInt64 _
        refine wp_bd (s_X9_within   (((gA z109.2 3 ((15 : Int32) + x2).toNatClampNeg) + z3.1).toInt64) (0 : Int32) (999 : Int32)    (by omega)) (fun z118 hz118 => ?_)
        obtain ⟨hz118_0, hz118_1⟩ := hz118
        refine wp_gd (zin_of (m := 5484) rfl (by omega) (by omega)) ?_
        refine wp_lt (fun o119 eo119 => ?_)
        have hIo119 : IvX9 o119 := by rw [eo119]; exact ibX9_3 hz109_1 (by omega) (by omega) (Or.inr (Or.inl (by first | omega | decide))) (Or.inr (Or.inl (by first | omega | decide))) (Or.inr (Or.inl (by first | omega | decide))) (Or.inr (Or.inl (by first | omega | decide))) (Or.inr (Or.inl (by first | omega | decide))) (Or.inr (Or.inl (by first | omega | decide))) (Or.inl (by first | omega | decide)) (Or.inl (by first | omega | decide)) (Or.inl (by first | omega | decide))
        have ko119_k120 : (gA o119 42 (0 : Int32).toNatClampNeg).toInt = (gA z109.2 42 (0 : Int32).toNatClampNeg).toInt := by rw [eo119]; rfl
        have ko119_k121 : (gA o119 42 (1 : Int32).toNatClampNeg).toInt = (gA z109.2 42 (1 : Int32).toNatClampNeg).toInt := by rw [eo119]; rfl
        have ko119_k122 : (gA o119 42 (2 : Int32).toNatClampNeg).toInt = (gA z109.2 42 (2 : Int32).toNatClampNeg).toInt := by rw [eo119]; rfl
        have ko119_k123 : (gI o119 20).toInt = (gI z109.2 20).toInt := by rw [eo119]; rfl
        have ko119_k124 : (gI o119 43).toInt = (gI z109.2 43).toInt := by rw [eo119]; rfl
        have ko119_v : (gA o119 3 ((15 : Int32) + x2).toNatClampNeg).toInt = z118.toInt := by rw [eo119]; exact congrArg Int32.toInt (upd_eq (g := gA z109.2 3) (i := ((15 : Int32) + x2)) (v := z118))
        have hkpo119 : Kp [8, 13, 14, 15, 16, 19, 20, 21, 23, 26, 29, 30, 43, 59, 62] [7, 10, 12, 22, 24, 25, 27, 28, 42, 48, 50, 51, 55] [(3, (0 : Int32))] o_me o119 := hkpz109_me.trans (by rw [eo119]; exact kp_tA0 (by decide) (by omega))
        have t125 := iaX9_3_4 hIo119 (j := (7 : Int32)) (by decide) (by decide)
        have t126 : ((gA o119 3 (7 : Int32).toNatClampNeg) + z50.1).toInt = (gA o119 3 (7 : Int32).toNatClampNeg).toInt + z50.1.toInt := i32_add rfl rfl (by omega) (by omega)
        have t127 : (((gA o119 3 (7 : Int32).toNatClampNeg) + z50.1).toInt64).toInt = ((gA o119 3 (7 : Int32).toNatClampNeg) + z50.1).toInt := Int32.toInt_toInt64 _
        refine wp_bd (s_X9_within   (((gA o119 3 (7 : Int32).toNatClampNeg) + z50.1).toInt64) (0 : Int32) (999 : Int32)    (by omega)) (fun z128 hz128 => ?_)
        obtain ⟨hz128_0, hz128_1⟩ := hz128
        refine wp_lt (fun o129 eo129 => ?_)
        have hIo129 : IvX9 o129 := by rw [eo129]; exact ibX9_3 hIo119 (by decide) (by decide) (Or.inr (Or.inl (by first | omega | decide))) (Or.inr (Or.inl (by first | omega | decide))) (Or.inr (Or.inl (by first | omega | decide))) (Or.inr (Or.inl (by first | omega | decide))) (Or.inr (Or.inr ⟨by omega, by omega⟩)) (Or.inl (by first | omega | decide)) (Or.inl (by first | omega | decide)) (Or.inl (by first | omega | decide)) (Or.inl (by first | omega | decide))
        have ko129_k130 : (gA o129 3 ((15 : Int32) + x2).toNatClampNeg).toInt = (gA o119 3 ((15 : Int32) + x2).toNatClampNeg).toInt := by rw [eo129]; exact congrArg Int32.toInt (upd_ne (g := gA o119 3) (i := (7 : Int32)) (j := ((15 : Int32) + x2)) (v := z128) (by decide) (by omega) (by omega))
        have ko129_k131 : (gA o129 42 (0 : Int32).toNatClampNeg).toInt = (gA o119 42 (0 : Int32).toNatClampNeg).toInt := by rw [eo129]; rfl
        have ko129_k132 : (gA o129 42 (1 : Int32).toNatClampNeg).toInt = (gA o119 42 (1 : Int32).toNatClampNeg).toInt := by rw [eo129]; rfl
        have ko129_k133 : (gA o129 42 (2 : Int32).toNatClampNeg).toInt = (gA o119 42 (2 : Int32).toNatClampNeg).toInt := by rw [eo129]; rfl
        have ko129_k134 : (gI o129 20).toInt = (gI o119 20).toInt := by rw [eo129]; rfl
        have ko129_k135 : (gI o129 43).toInt = (gI o119 43).toInt := by rw [eo129]; rfl
        have ko129_v : (gA o129 3 (7 : Int32).toNatClampNeg).toInt = z128.toInt := by rw [eo129]; exact congrArg Int32.toInt (upd_eq (g := gA o119 3) (i := (7 : Int32)) (v := z128))
        have hkpo129 : Kp [8, 13, 14, 15, 16, 19, 20, 21, 23, 26, 29, 30, 43, 59, 62] [7, 10, 12, 22, 24, 25, 27, 28, 42, 48, 50, 51, 55] [(3, (0 : Int32))] o_me o129 := hkpo119.trans (by rw [eo129]; exact kp_tA0 (by decide) (by decide))
        refine wp_if (fun c136 => ?_) (fun c136 => ?_)
        · have c136 := cv_le (a := (gI o129 43).toInt) (b := 1) rfl (by decide) c136
          exfalso; omega
        · have c136 := cv_nle (a := (gI o129 43).toInt) (b := 1) rfl (by decide) c136
          have t137 : ((8 : Int32) + (gA o129 42 (1 : Int32).toNatClampNeg)).toInt = 8 + (gA o129 42 (1 : Int32).toNatClampNeg).toInt := i32_add (by decide) rfl (by omega) (by omega)
          refine wp_gd (zin_of (m := 5484) rfl (by omega) (by omega)) ?_
          refine wp_lt (fun o138 eo138 => ?_)
          have hIo138 : IvX9 o138 := by rw [eo138]; exact ibX9_3 hIo129 (by omega) (by omega) (Or.inr (Or.inl (by first | omega | decide))) (Or.inr (Or.inl (by first | omega | decide))) (Or.inr (Or.inl (by first | omega | decide))) (Or.inr (Or.inl (by first | omega | decide))) (Or.inr (Or.inl (by first | omega | decide))) (Or.inr (Or.inr ⟨by omega, by omega⟩)) (Or.inl (by first | omega | decide)) (Or.inl (by first | omega | decide)) (Or.inl (by first | omega | decide))
          have ko138_k139 : (gA o138 3 ((15 : Int32) + x2).toNatClampNeg).toInt = (gA o129 3 ((15 : Int32) + x2).toNatClampNeg).toInt := by rw [eo138]; exact congrArg Int32.toInt (upd_ne (g := gA o129 3) (i := ((8 : Int32) + (gA o129 42 (1 : Int32).toNatClampNeg))) (j := ((15 : Int32) + x2)) (v := z56.1) (by omega) (by omega) (by omega))
          have ko138_k140 : (gA o138 3 (7 : Int32).toNatClampNeg).toInt = (gA o129 3 (7 : Int32).toNatClampNeg).toInt := by rw [eo138]; exact congrArg Int32.toInt (upd_ne (g := gA o129 3) (i := ((8 : Int32) + (gA o129 42 (1 : Int32).toNatClampNeg))) (j := (7 : Int32)) (v := z56.1) (by omega) (by decide) (by omega))
          have ko138_k141 : (gA o138 42 (0 : Int32).toNatClampNeg).toInt = (gA o129 42 (0 : Int32).toNatClampNeg).toInt := by rw [eo138]; rfl
          have ko138_k142 : (gA o138 42 (1 : Int32).toNatClampNeg).toInt = (gA o129 42 (1 : Int32).toNatClampNeg).toInt := by rw [eo138]; rfl
          have ko138_k143 : (gA o138 42 (2 : Int32).toNatClampNeg).toInt = (gA o129 42 (2 : Int32).toNatClampNeg).toInt := by rw [eo138]; rfl
          have ko138_k144 : (gI o138 20).toInt = (gI o129 20).toInt := by rw [eo138]; rfl
          have ko138_k145 : (gI o138 43).toInt = (gI o129 43).toInt := by rw [eo138]; rfl
          have ko138_v : (gA o138 3 ((8 : Int32) + (gA o129 42 (1 : Int32).toNatClampNeg)).toNatClampNeg).toInt = z56.1.toInt := by rw [eo138]; exact congrArg Int32.toInt (upd_eq (g := gA o129 3) (i := ((8 : Int32) + (gA o129 42 (1 : Int32).toNatClampNeg))) (v := z56.1))
          have hkpo138 : Kp [8, 13, 14, 15, 16, 19, 20, 21, 23, 26, 29, 30, 43, 59, 62] [7, 10, 12, 22, 24, 25, 27, 28, 42, 48, 50, 51, 55] [(3, (0 : Int32))] o_me o138 := hkpo129.trans (by rw [eo138]; exact kp_tA0 (by decide) (by omega))
          unfold bk_X9_raceIt_169
          refine wp_if (fun c146 => ?_) (fun c146 => ?_)
          · have c146 := cv_le (a := (gI o138 43).toInt) (b := 2) rfl (by decide) c146
            exfalso; omega
          · have c146 := cv_nle (a := (gI o138 43).toInt) (b := 2) rfl (by decide) c146
            have t147 : ((15 : Int32) + (gA o138 42 (2 : Int32).toNatClampNeg)).toInt = 15 + (gA o138 42 (2 : Int32).toNatClampNeg).toInt := i32_add (by decide) rfl (by omega) (by omega)
            refine wp_gd (zin_of (m := 5484) rfl (by omega) (by omega)) ?_
            have rg148 := i32_rg ((gA o138 3 ((15 : Int32) + (gA o138 42 (2 : Int32).toNatClampNeg)).toNatClampNeg) + z109.1)
            have t149 : (((gA o138 3 ((15 : Int32) + (gA o138 42 (2 : Int32).toNatClampNeg)).toNatClampNeg) + z109.1).toInt64).toInt = ((gA o138 3 ((15 : Int32) + (gA o138 42 (2 : Int32).toNatClampNeg)).toNatClampNeg) + z109.1).toInt := Int32.toInt_toInt64 _
            refine wp_bd (s_X9_within   (((gA o138 3 ((15 : Int32) + (gA o138 42 (2 : Int32).toNatClampNeg)).toNatClampNeg) + z109.1).toInt64) (0 : Int32) (999 : Int32)    (by omega)) (fun z150 hz150 => ?_)
            obtain ⟨hz150_0, hz150_1⟩ := hz150
            refine wp_gd (zin_of (m := 5484) rfl (by omega) (by omega)) ?_
            refine wp_lt (fun o151 eo151 => ?_)
            have hIo151 : IvX9 o151 := by rw [eo151]; exact ibX9_3 hIo138 (by omega) (by omega) (Or.inr (Or.inl (by first | omega | decide))) (Or.inr (Or.inl (by first | omega | decide))) (Or.inr (Or.inl (by first | omega | decide))) (Or.inr (Or.inl (by first | omega | decide))) (Or.inr (Or.inl (by first | omega | decide))) (Or.inr (Or.inl (by first | omega | decide))) (Or.inl (by first | omega | decide)) (Or.inl (by first | omega | decide)) (Or.inl (by first | omega | decide))
            have ko151_k152 : (gA o151 3 ((8 : Int32) + (gA o129 42 (1 : Int32).toNatClampNeg)).toNatClampNeg).toInt = (gA o138 3 ((8 : Int32) + (gA o129 42 (1 : Int32).toNatClampNeg)).toNatClampNeg).toInt := by rw [eo151]; exact congrArg Int32.toInt (upd_ne (g := gA o138 3) (i := ((15 : Int32) + (gA o138 42 (2 : Int32).toNatClampNeg))) (j := ((8 : Int32) + (gA o129 42 (1 : Int32).toNatClampNeg))) (v := z150) (by omega) (by omega) (by omega))
            have ko151_k153 : (gA o151 3 (7 : Int32).toNatClampNeg).toInt = (gA o138 3 (7 : Int32).toNatClampNeg).toInt := by rw [eo151]; exact congrArg Int32.toInt (upd_ne (g := gA o138 3) (i := ((15 : Int32) + (gA o138 42 (2 : Int32).toNatClampNeg))) (j := (7 : Int32)) (v := z150) (by omega) (by decide) (by omega))
            have ko151_k154 : (gA o151 42 (0 : Int32).toNatClampNeg).toInt = (gA o138 42 (0 : Int32).toNatClampNeg).toInt := by rw [eo151]; rfl
            have ko151_k155 : (gA o151 42 (1 : Int32).toNatClampNeg).toInt = (gA o138 42 (1 : Int32).toNatClampNeg).toInt := by rw [eo151]; rfl
            have ko151_k156 : (gA o151 42 (2 : Int32).toNatClampNeg).toInt = (gA o138 42 (2 : Int32).toNatClampNeg).toInt := by rw [eo151]; rfl
            have ko151_k157 : (gI o151 20).toInt = (gI o138 20).toInt := by rw [eo151]; rfl
            have ko151_k158 : (gI o151 43).toInt = (gI o138 43).toInt := by rw [eo151]; rfl
            have ko151_v : (gA o151 3 ((15 : Int32) + (gA o138 42 (2 : Int32).toNatClampNeg)).toNatClampNeg).toInt = z150.toInt := by rw [eo151]; exact congrArg Int32.toInt (upd_eq (g := gA o138 3) (i := ((15 : Int32) + (gA o138 42 (2 : Int32).toNatClampNeg))) (v := z150))
            have hkpo151 : Kp [8, 13, 14, 15, 16, 19, 20, 21, 23, 26, 29, 30, 43, 59, 62] [7, 10, 12, 22, 24, 25, 27, 28, 42, 48, 50, 51, 55] [(3, (0 : Int32))] o_me o151 := hkpo138.trans (by rw [eo151]; exact kp_tA0 (by decide) (by omega))
            unfold bk_X9_raceIt_216
            have lp3 : ∀ (N3 : Nat) (v2_3 : Int32) (v7_3 : Int32) (o_me_3 : Ob), IvX9 o_me_3 → Kp [8, 13, 14, 15, 16, 19, 20, 21, 23, 26, 29, 30, 43, 59, 62] [7, 10, 12, 22, 24, 25, 27, 28, 42, 48, 50, 51, 55] [(3, (0 : Int32))] o_me o_me_3 → (0 ≤ v2_3.toInt ∧ v2_3.toInt ≤ 6) → (0 ≤ v7_3.toInt ∧ v7_3.toInt ≤ 7) → (0 ≤ (gI o_me_3 20).toInt ∧ (gI o_me_3 20).toInt ≤ 0) → (3 ≤ (gI o_me_3 43).toInt ∧ (gI o_me_3 43).toInt ≤ 7) → (v7_3.toInt ≤ (gI o_me_3 43).toInt + 0) → (v2_3.toInt ≤ x2.toInt + 0) → (x2.toInt ≤ v2_3.toInt + 0) → (7 - v7_3.toInt).toNat < N3 → wp (lp_X9_raceIt_219   N3 (v2_3, v7_3, o_me_3)) (fun (y : Int32 × Ob) => (0 ≤ y.1.toInt ∧ y.1.toInt ≤ 6) ∧ IvX9 y.2 ∧ Kp [8, 13, 14, 15, 16, 19, 20, 21, 23, 26, 29, 30, 43, 59, 62] [7, 10, 12, 22, 24, 25, 27, 28, 42, 48, 50, 51, 55] [(3, (0 : Int32))] o_me y.2) := by
              intro N3
              induction N3 with
              | zero =>
                intro v2_3 v7_3 o_me_3 hI_me_3 hkp_me_3 hh161 hh162 hh163 hh164 hh165 hh166 hh167 hN3
                exact absurd hN3 (Nat.not_lt_zero _)
              | succ N3 ihx =>
                have ih3 := ihx
                intro v2_3 v7_3 o_me_3 hI_me_3 hkp_me_3 hh161 hh162 hh163 hh164 hh165 hh166 hh167 hN3
                show wp (lb_X9_raceIt_219   (lp_X9_raceIt_219   N3) v2_3 v7_3 o_me_3) (fun (y : Int32 × Ob) => (0 ≤ y.1.toInt ∧ y.1.toInt ≤ 6) ∧ IvX9 y.2 ∧ Kp [8, 13, 14, 15, 16, 19, 20, 21, 23, 26, 29, 30, 43, 59, 62] [7, 10, 12, 22, 24, 25, 27, 28, 42, 48, 50, 51, 55] [(3, (0 : Int32))] o_me y.2)
                unfold lb_X9_raceIt_219
                refine wp_if (fun c168 => ?_) (fun c168 => ?_)
                · have c168 := cv_ge (a := v7_3.toInt) (b := (gI o_me_3 43).toInt) rfl rfl c168
                  refine wp_some ?_
                  exact (show (0 ≤ v2_3.toInt ∧ v2_3.toInt ≤ 6) ∧ IvX9 o_me_3 ∧ Kp [8, 13, 14, 15, 16, 19, 20, 21, 23, 26, 29, 30, 43, 59, 62] [7, 10, 12, 22, 24, 25, 27, 28, 42, 48, 50, 51, 55] [(3, (0 : Int32))] o_me o_me_3 from ⟨⟨by omega, by omega⟩, hI_me_3, hkp_me_3⟩)
                · have c168 := cv_nge (a := v7_3.toInt) (b := (gI o_me_3 43).toInt) rfl rfl c168
                  refine wp_gd (zin_of (m := 7) rfl (by omega) (by omega)) ?_
                  have t169 := iaX9_42_0 hI_me_3 (j := v7_3) (by omega) (by omega)
                  have t170 : ((22 : Int32) + (gA o_me_3 42 v7_3.toNatClampNeg)).toInt = 22 + (gA o_me_3 42 v7_3.toNatClampNeg).toInt := i32_add (by decide) rfl (by omega) (by omega)
                  refine wp_gd (zin_of (m := 5484) rfl (by omega) (by omega)) ?_
                  refine wp_lt (fun o171 eo171 => ?_)
                  have hIo171 : IvX9 o171 := by rw [eo171]; exact ibX9_3 hI_me_3 (by omega) (by omega) (Or.inr (Or.inl (by first | omega | decide))) (Or.inr (Or.inl (by first | omega | decide))) (Or.inr (Or.inl (by first | omega | decide))) (Or.inr (Or.inl (by first | omega | decide))) (Or.inr (Or.inl (by first | omega | decide))) (Or.inr (Or.inl (by first | omega | decide))) (Or.inr (Or.inr ⟨by decide, by decide⟩)) (Or.inl (by first | omega | decide)) (Or.inl (by first | omega | decide))
                  have ko171_k172 : (gA o171 42 v7_3.toNatClampNeg).toInt = (gA o_me_3 42 v7_3.toNatClampNeg).toInt := by rw [eo171]; rfl
                  have ko171_k173 : (gI o171 20).toInt = (gI o_me_3 20).toInt := by rw [eo171]; rfl
                  have ko171_k174 : (gI o171 43).toInt = (gI o_me_3 43).toInt := by rw [eo171]; rfl
                  have ko171_v : (gA o171 3 ((22 : Int32) + (gA o_me_3 42 v7_3.toNatClampNeg)).toNatClampNeg).toInt = 0 := by rw [eo171]; exact (congrArg Int32.toInt (upd_eq (g := gA o_me_3 3) (i := ((22 : Int32) + (gA o_me_3 42 v7_3.toNatClampNeg))) (v := (0 : Int32)))).trans (show ((0 : Int32)).toInt = 0 by decide)
                  have hkpo171 : Kp [8, 13, 14, 15, 16, 19, 20, 21, 23, 26, 29, 30, 43, 59, 62] [7, 10, 12, 22, 24, 25, 27, 28, 42, 48, 50, 51, 55] [(3, (0 : Int32))] o_me o171 := hkp_me_3.trans (by rw [eo171]; exact kp_tA0 (by decide) (by omega))
                  refine wp_lt (fun x175 ex175 => ?_)
                  have tx175 : x175.toInt = v7_3.toInt + 1 := by rw [ex175]; exact i32_add rfl (by decide) (by omega) (by omega)
                  exact ih3 v2_3 x175 o171 hIo171 hkpo171 ⟨by omega, by omega⟩ ⟨by omega, by omega⟩ ⟨by omega, by omega⟩ ⟨by omega, by omega⟩ (by omega) (by omega) (by omega) (by omega)
            exact lp3 zfu x2 (0 : Int32) o151 hIo151 hkpo151 ⟨by omega, by omega⟩ ⟨by decide, by decide⟩ ⟨by omega, by omega⟩ ⟨by omega, by omega⟩ (by omega) (by omega) (by omega) (by show _ < 100000; omega)

set_option maxHeartbeats 4000000 in
set_option maxRecDepth 100000 in
theorem s_X9_raceNow (o_me : Ob) (p0 : Int32) (hI_me : IvX9 o_me) (q0 : 0 ≤ (gI o_me 20).toInt ∧ (gI o_me 20).toInt ≤ 0) : wp (f_X9_raceNow   o_me p0) (fun (y : Int32 × Ob) => ((-3) ≤ y.1.toInt ∧ y.1.toInt ≤ 6) ∧ IvX9 y.2 ∧ Kp [13, 14, 15, 16, 19, 20, 21, 23, 26, 29, 30, 59, 62] [10, 12, 22, 24, 25, 27, 28, 48, 50, 51, 55] [(3, (0 : Int32))] o_me y.2) := by
  have li0 : (-1 : Int32).toInt = (-1) := by decide
  have li1 : (-3 : Int32).toInt = (-3) := by decide
  have li2 : (0 : Int32).toInt = 0 := by decide
  unfold f_X9_raceNow
  refine wp_bd (s_X9_isRace   p0    ) (fun z1 hz1 => ?_)
  obtain ⟨hz1_0, hz1_1⟩ := hz1
  refine wp_if (fun c2 => ?_) (fun c2 => ?_)
  · have c2 := cv_eq (a := z1.toInt) (b := 0) rfl (by decide) c2
    refine wp_some ?_
    exact (show ((-3) ≤ (-1 : Int32).toInt ∧ (-1 : Int32).toInt ≤ 6) ∧ IvX9 o_me ∧ Kp [13, 14, 15, 16, 19, 20, 21, 23, 26, 29, 30, 59, 62] [10, 12, 22, 24, 25, 27, 28, 48, 50, 51, 55] [(3, (0 : Int32))] o_me o_me from ⟨⟨by decide, by decide⟩, hI_me, Kp.rf⟩)
  · have c2z := c2
    have c2i := hz1_1 c2
    have c2 := cv_ne (a := z1.toInt) (b := 0) rfl (by decide) c2
    refine wp_bd (s_X9_layPlaces   o_me p0  hI_me  ⟨by omega, by omega⟩ ⟨by omega, by omega⟩) (fun z3 hz3 => ?_)
    obtain ⟨hz3_0, hz3_1⟩ := hz3
    have hkpz3_me : Kp [13, 14, 15, 16, 19, 20, 21, 23, 26, 29, 30, 59, 62] [10, 12, 22, 24, 25, 27, 28, 48, 50, 51, 55] [(3, (0 : Int32))] o_me z3 := Kp.rf.trans (hz3_1.mono (by decide) (by decide) (by decide))
    have kz3_k4 : (gI z3 20).toInt = (gI o_me 20).toInt := congrArg Int32.toInt (hz3_1.1 20 (by decide))
    have t5 := igX9_43 hz3_0
    refine wp_if (fun c6 => ?_) (fun c6 => ?_)
    · have c6 := cv_eq (a := (gI z3 43).toInt) (b := 0) rfl (by decide) c6
      refine wp_some ?_
      exact (show ((-3) ≤ (-3 : Int32).toInt ∧ (-3 : Int32).toInt ≤ 6) ∧ IvX9 z3 ∧ Kp [13, 14, 15, 16, 19, 20, 21, 23, 26, 29, 30, 59, 62] [10, 12, 22, 24, 25, 27, 28, 48, 50, 51, 55] [(3, (0 : Int32))] o_me z3 from ⟨⟨by decide, by decide⟩, hz3_0, hkpz3_me⟩)
    · have c6z := c6
      have c6 := cv_ne (a := (gI z3 43).toInt) (b := 0) rfl (by decide) c6
      refine wp_bd (s_X9_remember   z3 (0 : Int32)  hz3_0  ⟨by decide, by decide⟩) (fun z7 hz7 => ?_)
      obtain ⟨hz7_0, hz7_1⟩ := hz7
      have hkpz7_me : Kp [13, 14, 15, 16, 19, 20, 21, 23, 26, 29, 30, 59, 62] [10, 12, 22, 24, 25, 27, 28, 48, 50, 51, 55] [(3, (0 : Int32))] o_me z7 := hkpz3_me.trans (hz7_1.mono (by decide) (by decide) (by decide))
      have kz7_k8 : (gI z7 20).toInt = (gI z3 20).toInt := congrArg Int32.toInt (hz7_1.1 20 (by decide))
      have kz7_k9 : (gI z7 43).toInt = (gI z3 43).toInt := congrArg Int32.toInt (hz7_1.1 43 (by decide))
      refine wp_bd (s_X9_raceIt   z7 p0  hz7_0  ⟨by omega, by omega⟩ ⟨by omega, by omega⟩) (fun z10 hz10 => ?_)
      obtain ⟨hz10_0, hz10_1, hz10_2⟩ := hz10
      have hkpz10_me : Kp [13, 14, 15, 16, 19, 20, 21, 23, 26, 29, 30, 59, 62] [10, 12, 22, 24, 25, 27, 28, 48, 50, 51, 55] [(3, (0 : Int32))] o_me z10.2 := hkpz7_me.trans (hz10_2.mono (by decide) (by decide) (by decide))
      have kz10_k11 : (gI z10.2 20).toInt = (gI z7 20).toInt := congrArg Int32.toInt (hz10_2.1 20 (by decide))
      have kz10_k12 : (gI z10.2 43).toInt = (gI z7 43).toInt := congrArg Int32.toInt (hz10_2.1 43 (by decide))
      refine wp_some ?_
      exact (show ((-3) ≤ z10.1.toInt ∧ z10.1.toInt ≤ 6) ∧ IvX9 z10.2 ∧ Kp [13, 14, 15, 16, 19, 20, 21, 23, 26, 29, 30, 59, 62] [10, 12, 22, 24, 25, 27, 28, 48, 50, 51, 55] [(3, (0 : Int32))] o_me z10.2 from ⟨⟨by omega, by omega⟩, hz10_1, hkpz10_me⟩)

set_option maxHeartbeats 4000000 in
set_option maxRecDepth 100000 in
theorem s_X9_enterNow (o_me : Ob) (p0 : Int32) (hI_me : IvX9 o_me) (q0 : 0 ≤ (gI o_me 20).toInt ∧ (gI o_me 20).toInt ≤ 0) : wp (f_X9_enterNow   o_me p0) (fun (y : Int32 × Ob) => ((-2) ≤ y.1.toInt ∧ y.1.toInt ≤ 1) ∧ IvX9 y.2 ∧ Kp [13, 14, 15, 16, 19, 20, 21, 23, 26, 29, 30, 34, 38, 43, 59, 62] [10, 12, 22, 24, 25, 27, 28, 42, 48, 50, 51, 55] [(3, (0 : Int32))] o_me y.2) := by
  have li0 : (-2 : Int32).toInt = (-2) := by decide
  have li1 : (1 : Int32).toInt = 1 := by decide
  have li2 : (22 : Int32).toInt = 22 := by decide
  unfold f_X9_enterNow
  refine wp_bd (s_X9_isPerson   o_me p0  hI_me  ) (fun z1 hz1 => ?_)
  obtain ⟨hz1_0, hz1_1⟩ := hz1
  refine wp_if (fun c2 => ?_) (fun c2 => ?_)
  · have c2 := cv_eq (a := z1.toInt) (b := 0) rfl (by decide) c2
    refine wp_some ?_
    exact (show ((-2) ≤ (-2 : Int32).toInt ∧ (-2 : Int32).toInt ≤ 1) ∧ IvX9 o_me ∧ Kp [13, 14, 15, 16, 19, 20, 21, 23, 26, 29, 30, 34, 38, 43, 59, 62] [10, 12, 22, 24, 25, 27, 28, 42, 48, 50, 51, 55] [(3, (0 : Int32))] o_me o_me from ⟨⟨by decide, by decide⟩, hI_me, Kp.rf⟩)
  · have c2z := c2
    have c2i := hz1_1 c2
    have c2 := cv_ne (a := z1.toInt) (b := 0) rfl (by decide) c2
    refine wp_bd (s_X9_remember   o_me (1 : Int32)  hI_me  ⟨by decide, by decide⟩) (fun z3 hz3 => ?_)
    obtain ⟨hz3_0, hz3_1⟩ := hz3
    have hkpz3_me : Kp [13, 14, 15, 16, 19, 20, 21, 23, 26, 29, 30, 34, 38, 43, 59, 62] [10, 12, 22, 24, 25, 27, 28, 42, 48, 50, 51, 55] [(3, (0 : Int32))] o_me z3 := Kp.rf.trans (hz3_1.mono (by decide) (by decide) (by decide))
    have kz3_k4 : (gI z3 20).toInt = (gI o_me 20).toInt := congrArg Int32.toInt (hz3_1.1 20 (by decide))
    have t5 : ((22 : Int32) + p0).toInt = 22 + p0.toInt := i32_add (by decide) rfl (by omega) (by omega)
    refine wp_gd (zin_of (m := 5484) rfl (by omega) (by omega)) ?_
    have t6 := iaX9_3_6 hz3_0 (j := (22 : Int32) + p0) (by omega) (by omega)
    have t7 : ((1 : Int32) - (gA z3 3 ((22 : Int32) + p0).toNatClampNeg)).toInt = 1 - (gA z3 3 ((22 : Int32) + p0).toNatClampNeg).toInt := i32_sub (by decide) rfl (by omega) (by omega)
    refine wp_gd (zin_of (m := 5484) rfl (by omega) (by omega)) ?_
    refine wp_lt (fun o8 eo8 => ?_)
    have hIo8 : IvX9 o8 := by rw [eo8]; exact ibX9_3 hz3_0 (by omega) (by omega) (Or.inr (Or.inl (by first | omega | decide))) (Or.inr (Or.inl (by first | omega | decide))) (Or.inr (Or.inl (by first | omega | decide))) (Or.inr (Or.inl (by first | omega | decide))) (Or.inr (Or.inl (by first | omega | decide))) (Or.inr (Or.inl (by first | omega | decide))) (Or.inr (Or.inr ⟨by omega, by omega⟩)) (Or.inl (by first | omega | decide)) (Or.inl (by first | omega | decide))
    have ko8_k9 : (gI o8 20).toInt = (gI z3 20).toInt := by rw [eo8]; rfl
    have ko8_v : (gA o8 3 ((22 : Int32) + p0).toNatClampNeg).toInt = ((1 : Int32) - (gA z3 3 ((22 : Int32) + p0).toNatClampNeg)).toInt := by rw [eo8]; exact congrArg Int32.toInt (upd_eq (g := gA z3 3) (i := ((22 : Int32) + p0)) (v := ((1 : Int32) - (gA z3 3 ((22 : Int32) + p0).toNatClampNeg))))
    have hkpo8 : Kp [13, 14, 15, 16, 19, 20, 21, 23, 26, 29, 30, 34, 38, 43, 59, 62] [10, 12, 22, 24, 25, 27, 28, 42, 48, 50, 51, 55] [(3, (0 : Int32))] o_me o8 := hkpz3_me.trans (by rw [eo8]; exact kp_tA0 (by decide) (by omega))
    refine wp_gd (zin_of (m := 5484) rfl (by omega) (by omega)) ?_
    refine wp_some ?_
    exact (show ((-2) ≤ (gA o8 3 ((22 : Int32) + p0).toNatClampNeg).toInt ∧ (gA o8 3 ((22 : Int32) + p0).toNatClampNeg).toInt ≤ 1) ∧ IvX9 o8 ∧ Kp [13, 14, 15, 16, 19, 20, 21, 23, 26, 29, 30, 34, 38, 43, 59, 62] [10, 12, 22, 24, 25, 27, 28, 42, 48, 50, 51, 55] [(3, (0 : Int32))] o_me o8 from ⟨⟨by omega, by omega⟩, hIo8, hkpo8⟩)

set_option maxHeartbeats 4000000 in
set_option maxRecDepth 100000 in
theorem s_X9_takeIt (o_me : Ob) (p0 : Int32) (hI_me : IvX9 o_me) (q0 : 0 ≤ p0.toInt ∧ p0.toInt ≤ 6) : wp (f_X9_takeIt   o_me p0) (fun (y : Ob) => IvX9 y ∧ Kp [8, 13, 14, 15, 16, 19, 20, 21, 23, 26, 29, 30, 34, 38, 43, 59, 62] [7, 10, 12, 22, 24, 25, 27, 28, 42, 48, 50, 51, 55] [(3, (0 : Int32))] o_me y) := by
  have li0 : (0 : Int32).toInt = 0 := by decide
  have li1 : (15 : Int32).toInt = 15 := by decide
  have li2 : (7 : Int32).toInt = 7 := by decide
  have li3 : (999 : Int32).toInt = 999 := by decide
  unfold f_X9_takeIt
  have t1 : ((15 : Int32) + p0).toInt = 15 + p0.toInt := i32_add (by decide) rfl (by omega) (by omega)
  refine wp_gd (zin_of (m := 5484) rfl (by omega) (by omega)) ?_
  have t2 := iaX9_3_4 hI_me (j := (7 : Int32)) (by decide) (by decide)
  have rg3 := i32_rg ((gA o_me 3 ((15 : Int32) + p0).toNatClampNeg) + (gA o_me 3 (7 : Int32).toNatClampNeg))
  have t4 : (((gA o_me 3 ((15 : Int32) + p0).toNatClampNeg) + (gA o_me 3 (7 : Int32).toNatClampNeg)).toInt64).toInt = ((gA o_me 3 ((15 : Int32) + p0).toNatClampNeg) + (gA o_me 3 (7 : Int32).toNatClampNeg)).toInt := Int32.toInt_toInt64 _
  refine wp_bd (s_X9_within   (((gA o_me 3 ((15 : Int32) + p0).toNatClampNeg) + (gA o_me 3 (7 : Int32).toNatClampNeg)).toInt64) (0 : Int32) (999 : Int32)    (by omega)) (fun z5 hz5 => ?_)
  obtain ⟨hz5_0, hz5_1⟩ := hz5
  refine wp_gd (zin_of (m := 5484) rfl (by omega) (by omega)) ?_
  refine wp_lt (fun o6 eo6 => ?_)
  have hIo6 : IvX9 o6 := by rw [eo6]; exact ibX9_3 hI_me (by omega) (by omega) (Or.inr (Or.inl (by first | omega | decide))) (Or.inr (Or.inl (by first | omega | decide))) (Or.inr (Or.inl (by first | omega | decide))) (Or.inr (Or.inl (by first | omega | decide))) (Or.inr (Or.inl (by first | omega | decide))) (Or.inr (Or.inl (by first | omega | decide))) (Or.inl (by first | omega | decide)) (Or.inl (by first | omega | decide)) (Or.inl (by first | omega | decide))
  have ko6_k7 : (gA o6 3 (7 : Int32).toNatClampNeg).toInt = (gA o_me 3 (7 : Int32).toNatClampNeg).toInt := by rw [eo6]; exact congrArg Int32.toInt (upd_ne (g := gA o_me 3) (i := ((15 : Int32) + p0)) (j := (7 : Int32)) (v := z5) (by omega) (by decide) (by omega))
  have ko6_v : (gA o6 3 ((15 : Int32) + p0).toNatClampNeg).toInt = z5.toInt := by rw [eo6]; exact congrArg Int32.toInt (upd_eq (g := gA o_me 3) (i := ((15 : Int32) + p0)) (v := z5))
  have hkpo6 : Kp [8, 13, 14, 15, 16, 19, 20, 21, 23, 26, 29, 30, 34, 38, 43, 59, 62] [7, 10, 12, 22, 24, 25, 27, 28, 42, 48, 50, 51, 55] [(3, (0 : Int32))] o_me o6 := Kp.rf.trans (by rw [eo6]; exact kp_tA0 (by decide) (by omega))
  refine wp_lt (fun o8 eo8 => ?_)
  have hIo8 : IvX9 o8 := by rw [eo8]; exact ibX9_3 hIo6 (by decide) (by decide) (Or.inr (Or.inl (by first | omega | decide))) (Or.inr (Or.inl (by first | omega | decide))) (Or.inr (Or.inl (by first | omega | decide))) (Or.inr (Or.inl (by first | omega | decide))) (Or.inr (Or.inr ⟨by decide, by decide⟩)) (Or.inl (by first | omega | decide)) (Or.inl (by first | omega | decide)) (Or.inl (by first | omega | decide)) (Or.inl (by first | omega | decide))
  have ko8_k9 : (gA o8 3 ((15 : Int32) + p0).toNatClampNeg).toInt = (gA o6 3 ((15 : Int32) + p0).toNatClampNeg).toInt := by rw [eo8]; exact congrArg Int32.toInt (upd_ne (g := gA o6 3) (i := (7 : Int32)) (j := ((15 : Int32) + p0)) (v := (0 : Int32)) (by decide) (by omega) (by omega))
  have ko8_v : (gA o8 3 (7 : Int32).toNatClampNeg).toInt = 0 := by rw [eo8]; exact (congrArg Int32.toInt (upd_eq (g := gA o6 3) (i := (7 : Int32)) (v := (0 : Int32)))).trans (show ((0 : Int32)).toInt = 0 by decide)
  have hkpo8 : Kp [8, 13, 14, 15, 16, 19, 20, 21, 23, 26, 29, 30, 34, 38, 43, 59, 62] [7, 10, 12, 22, 24, 25, 27, 28, 42, 48, 50, 51, 55] [(3, (0 : Int32))] o_me o8 := hkpo6.trans (by rw [eo8]; exact kp_tA0 (by decide) (by decide))
  refine wp_some ?_
  exact (show IvX9 o8 ∧ Kp [8, 13, 14, 15, 16, 19, 20, 21, 23, 26, 29, 30, 34, 38, 43, 59, 62] [7, 10, 12, 22, 24, 25, 27, 28, 42, 48, 50, 51, 55] [(3, (0 : Int32))] o_me o8 from ⟨hIo8, hkpo8⟩)

set_option maxHeartbeats 4000000 in
set_option maxRecDepth 100000 in
theorem s_X9_takeNow (o_me : Ob) (p0 : Int32) (hI_me : IvX9 o_me)  : wp (f_X9_takeNow   o_me p0) (fun (y : Int32 × Ob) => ((-3) ≤ y.1.toInt ∧ y.1.toInt ≤ 999) ∧ IvX9 y.2 ∧ Kp [13, 14, 15, 16, 19, 20, 21, 23, 26, 29, 30, 34, 38, 43, 59, 62] [10, 12, 22, 24, 25, 27, 28, 42, 48, 50, 51, 55] [(3, (0 : Int32))] o_me y.2) := by
  have li0 : (-2 : Int32).toInt = (-2) := by decide
  have li1 : (-3 : Int32).toInt = (-3) := by decide
  have li2 : (2 : Int32).toInt = 2 := by decide
  have li3 : (7 : Int32).toInt = 7 := by decide
  unfold f_X9_takeNow
  refine wp_bd (s_X9_isPerson   o_me p0  hI_me  ) (fun z1 hz1 => ?_)
  obtain ⟨hz1_0, hz1_1⟩ := hz1
  refine wp_if (fun c2 => ?_) (fun c2 => ?_)
  · have c2 := cv_eq (a := z1.toInt) (b := 0) rfl (by decide) c2
    refine wp_some ?_
    exact (show ((-3) ≤ (-2 : Int32).toInt ∧ (-2 : Int32).toInt ≤ 999) ∧ IvX9 o_me ∧ Kp [13, 14, 15, 16, 19, 20, 21, 23, 26, 29, 30, 34, 38, 43, 59, 62] [10, 12, 22, 24, 25, 27, 28, 42, 48, 50, 51, 55] [(3, (0 : Int32))] o_me o_me from ⟨⟨by decide, by decide⟩, hI_me, Kp.rf⟩)
  · have c2z := c2
    have c2i := hz1_1 c2
    have c2 := cv_ne (a := z1.toInt) (b := 0) rfl (by decide) c2
    have t3 := iaX9_3_4 hI_me (j := (7 : Int32)) (by decide) (by decide)
    refine wp_lt (fun x4 ex4 => ?_)
    have tx4 : x4.toInt = (gA o_me 3 (7 : Int32).toNatClampNeg).toInt := by rw [ex4]
    refine wp_if (fun c5 => ?_) (fun c5 => ?_)
    · have c5 := cv_eq (a := x4.toInt) (b := 0) rfl (by decide) c5
      refine wp_some ?_
      exact (show ((-3) ≤ (-3 : Int32).toInt ∧ (-3 : Int32).toInt ≤ 999) ∧ IvX9 o_me ∧ Kp [13, 14, 15, 16, 19, 20, 21, 23, 26, 29, 30, 34, 38, 43, 59, 62] [10, 12, 22, 24, 25, 27, 28, 42, 48, 50, 51, 55] [(3, (0 : Int32))] o_me o_me from ⟨⟨by decide, by decide⟩, hI_me, Kp.rf⟩)
    · have c5z := c5
      have c5 := cv_ne (a := x4.toInt) (b := 0) rfl (by decide) c5
      refine wp_bd (s_X9_remember   o_me (2 : Int32)  hI_me  ⟨by decide, by decide⟩) (fun z6 hz6 => ?_)
      obtain ⟨hz6_0, hz6_1⟩ := hz6
      have hkpz6_me : Kp [13, 14, 15, 16, 19, 20, 21, 23, 26, 29, 30, 34, 38, 43, 59, 62] [10, 12, 22, 24, 25, 27, 28, 42, 48, 50, 51, 55] [(3, (0 : Int32))] o_me z6 := Kp.rf.trans (hz6_1.mono (by decide) (by decide) (by decide))
      have kz6_k7 : (gA z6 3 (7 : Int32).toNatClampNeg).toInt = (gA o_me 3 (7 : Int32).toNatClampNeg).toInt := congrArg (fun g => (g (7 : Int32).toNatClampNeg).toInt) (hz6_1.2.1 3 (by decide))
      refine wp_bd (s_X9_takeIt   z6 p0  hz6_0  ⟨by omega, by omega⟩) (fun z8 hz8 => ?_)
      obtain ⟨hz8_0, hz8_1⟩ := hz8
      have hkpz8_me : Kp [13, 14, 15, 16, 19, 20, 21, 23, 26, 29, 30, 34, 38, 43, 59, 62] [10, 12, 22, 24, 25, 27, 28, 42, 48, 50, 51, 55] [(3, (0 : Int32))] o_me z8 := hkpz6_me.trans (hz8_1.mono (by decide) (by decide) (by decide))
      refine wp_some ?_
      exact (show ((-3) ≤ x4.toInt ∧ x4.toInt ≤ 999) ∧ IvX9 z8 ∧ Kp [13, 14, 15, 16, 19, 20, 21, 23, 26, 29, 30, 34, 38, 43, 59, 62] [10, 12, 22, 24, 25, 27, 28, 42, 48, 50, 51, 55] [(3, (0 : Int32))] o_me z8 from ⟨⟨by omega, by omega⟩, hz8_0, hkpz8_me⟩)

set_option maxHeartbeats 4000000 in
set_option maxRecDepth 100000 in
theorem s_X9_hasLike (o_me : Ob) (p0 : Int32) (hI_me : IvX9 o_me) (q0 : 0 ≤ p0.toInt ∧ p0.toInt ≤ 6) : wp (f_X9_hasLike   o_me p0) (fun (y : Int32) => (0 ≤ y.toInt ∧ y.toInt ≤ 1)) := by
  have li0 : (0 : Int32).toInt = 0 := by decide
  have li1 : (1 : Int32).toInt = 1 := by decide
  have li2 : (8 : Int32).toInt = 8 := by decide
  unfold f_X9_hasLike
  have lp1 : ∀ (N1 : Nat) (v1_1 : Int32) (v2_1 : Int32) (v3_1 : Int32), (0 ≤ v1_1.toInt ∧ v1_1.toInt ≤ 6) → (0 ≤ v2_1.toInt ∧ v2_1.toInt ≤ 1) → (0 ≤ v3_1.toInt ∧ v3_1.toInt ≤ 6) → (v2_1.toInt ≤ v1_1.toInt + 0) → (v2_1.toInt ≤ v3_1.toInt + 0) → (v3_1.toInt ≤ v1_1.toInt + 0) → (v1_1.toInt ≤ p0.toInt + 0) → (p0.toInt ≤ v1_1.toInt + 0) → (v2_1.toInt ≤ p0.toInt + 0) → (v3_1.toInt ≤ p0.toInt + 0) → (6 - v3_1.toInt).toNat < N1 → wp (lp_X9_hasLike_4 o_me  N1 (v1_1, v2_1, v3_1)) (fun (y : Int32) => (0 ≤ y.toInt ∧ y.toInt ≤ 1)) := by
    intro N1
    induction N1 with
    | zero =>
      intro v1_1 v2_1 v3_1 hh1 hh2 hh3 hh4 hh5 hh6 hh7 hh8 hh9 hh10 hN1
      exact absurd hN1 (Nat.not_lt_zero _)
    | succ N1 ihx =>
      have ih1 := ihx
      intro v1_1 v2_1 v3_1 hh1 hh2 hh3 hh4 hh5 hh6 hh7 hh8 hh9 hh10 hN1
      show wp (lb_X9_hasLike_4 o_me  (lp_X9_hasLike_4 o_me  N1) v1_1 v2_1 v3_1) (fun (y : Int32) => (0 ≤ y.toInt ∧ y.toInt ≤ 1))
      unfold lb_X9_hasLike_4
      refine wp_if (fun c11 => ?_) (fun c11 => ?_)
      · have c11 := cv_ge (a := v3_1.toInt) (b := v1_1.toInt) rfl rfl c11
        refine wp_gd (zbo_of (by omega) (by omega)) ?_
        refine wp_some ?_
        exact (show (0 ≤ v2_1.toInt ∧ v2_1.toInt ≤ 1) from ⟨by omega, by omega⟩)
      · have c11 := cv_nge (a := v3_1.toInt) (b := v1_1.toInt) rfl rfl c11
        refine wp_if (fun c12 => ?_) (fun c12 => ?_)
        · have c12 := cv_eq (a := v2_1.toInt) (b := 0) rfl (by decide) c12
          have t13 : ((8 : Int32) + v3_1).toInt = 8 + v3_1.toInt := i32_add (by decide) rfl (by omega) (by omega)
          refine wp_gd (zin_of (m := 5484) rfl (by omega) (by omega)) ?_
          have t14 := iaX9_3_5 hI_me (j := (8 : Int32) + v3_1) (by omega) (by omega)
          have t15 : ((8 : Int32) + v1_1).toInt = 8 + v1_1.toInt := i32_add (by decide) rfl (by omega) (by omega)
          refine wp_gd (zin_of (m := 5484) rfl (by omega) (by omega)) ?_
          have t16 := iaX9_3_5 hI_me (j := (8 : Int32) + v1_1) (by omega) (by omega)
          refine wp_if (fun c17 => ?_) (fun c17 => ?_)
          · have c17 := cv_eq (a := (gA o_me 3 ((8 : Int32) + v3_1).toNatClampNeg).toInt) (b := (gA o_me 3 ((8 : Int32) + v1_1).toNatClampNeg).toInt) rfl rfl c17
            unfold bk_X9_hasLike_34
            obtain ⟨w18, ew18⟩ : ∃ z : Int32, z = (1 : Int32) := ⟨_, rfl⟩
            have tw18 : w18.toInt = 1 := by rw [ew18]; decide
            rw [show bk_X9_hasLike_39 o_me (lp_X9_hasLike_4 o_me  N1) v1_1 v3_1 (1 : Int32) = bk_X9_hasLike_39 o_me (lp_X9_hasLike_4 o_me  N1) v1_1 v3_1 w18 from by rw [ew18]]
            unfold bk_X9_hasLike_39
            refine wp_lt (fun x19 ex19 => ?_)
            have tx19 : x19.toInt = v3_1.toInt + 1 := by rw [ex19]; exact i32_add rfl (by decide) (by omega) (by omega)
            exact ih1 v1_1 w18 x19  ⟨by omega, by omega⟩ ⟨by omega, by omega⟩ ⟨by omega, by omega⟩ (by omega) (by omega) (by omega) (by omega) (by omega) (by omega) (by omega) (by omega)
          · have c17 := cv_ne (a := (gA o_me 3 ((8 : Int32) + v3_1).toNatClampNeg).toInt) (b := (gA o_me 3 ((8 : Int32) + v1_1).toNatClampNeg).toInt) rfl rfl c17
            obtain ⟨w20, ew20⟩ : ∃ z : Int32, z = (0 : Int32) := ⟨_, rfl⟩
            have tw20 : w20.toInt = 0 := by rw [ew20]; decide
            rw [show bk_X9_hasLike_39 o_me (lp_X9_hasLike_4 o_me  N1) v1_1 v3_1 (0 : Int32) = bk_X9_hasLike_39 o_me (lp_X9_hasLike_4 o_me  N1) v1_1 v3_1 w20 from by rw [ew20]]
            unfold bk_X9_hasLike_39
            refine wp_lt (fun x21 ex21 => ?_)
            have tx21 : x21.toInt = v3_1.toInt + 1 := by rw [ex21]; exact i32_add rfl (by decide) (by omega) (by omega)
            exact ih1 v1_1 w20 x21  ⟨by omega, by omega⟩ ⟨by omega, by omega⟩ ⟨by omega, by omega⟩ (by omega) (by omega) (by omega) (by omega) (by omega) (by omega) (by omega) (by omega)
        · have c12z := c12
          have c12 := cv_ne (a := v2_1.toInt) (b := 0) rfl (by decide) c12
          unfold bk_X9_hasLike_34
          obtain ⟨w22, ew22⟩ : ∃ z : Int32, z = (1 : Int32) := ⟨_, rfl⟩
          have tw22 : w22.toInt = 1 := by rw [ew22]; decide
          rw [show bk_X9_hasLike_39 o_me (lp_X9_hasLike_4 o_me  N1) v1_1 v3_1 (1 : Int32) = bk_X9_hasLike_39 o_me (lp_X9_hasLike_4 o_me  N1) v1_1 v3_1 w22 from by rw [ew22]]
          unfold bk_X9_hasLike_39
          refine wp_lt (fun x23 ex23 => ?_)
          have tx23 : x23.toInt = v3_1.toInt + 1 := by rw [ex23]; exact i32_add rfl (by decide) (by omega) (by omega)
          exact ih1 v1_1 w22 x23  ⟨by omega, by omega⟩ ⟨by omega, by omega⟩ ⟨by omega, by omega⟩ (by omega) (by omega) (by omega) (by omega) (by omega) (by omega) (by omega) (by omega)
  exact lp1 zfu p0 (0 : Int32) (0 : Int32)  ⟨by omega, by omega⟩ ⟨by decide, by decide⟩ ⟨by decide, by decide⟩ (by omega) (by omega) (by omega) (by omega) (by omega) (by omega) (by omega) (by show _ < 100000; omega)

set_option maxHeartbeats 4000000 in
set_option maxRecDepth 100000 in
theorem s_X9_passIt (o_me : Ob) (hI_me : IvX9 o_me) (q0 : 0 ≤ (gI o_me 20).toInt ∧ (gI o_me 20).toInt ≤ 0) : wp (f_X9_passIt   o_me) (fun (y : Int32 × Ob) => (0 ≤ y.1.toInt ∧ y.1.toInt ≤ 7) ∧ IvX9 y.2 ∧ Kp [8, 13, 14, 15, 16, 19, 20, 21, 23, 26, 29, 30, 43, 59, 62] [7, 10, 12, 22, 24, 25, 27, 28, 42, 48, 50, 51, 55] [(3, (0 : Int32))] o_me y.2) := by
  have li0 : (0 : Int32).toInt = 0 := by decide
  have li1 : (1 : Int32).toInt = 1 := by decide
  have li2 : (4 : Int32).toInt = 4 := by decide
  have li3 : (8 : Int32).toInt = 8 := by decide
  unfold f_X9_passIt
  have lp1 : ∀ (N1 : Nat) (v1_1 : Int32) (v2_1 : Int32) (o_me_1 : Ob), IvX9 o_me_1 → Kp [8, 13, 14, 15, 16, 19, 20, 21, 23, 26, 29, 30, 43, 59, 62] [7, 10, 12, 22, 24, 25, 27, 28, 42, 48, 50, 51, 55] [(3, (0 : Int32))] o_me o_me_1 → (0 ≤ v1_1.toInt ∧ v1_1.toInt ≤ 7) → (0 ≤ v2_1.toInt ∧ v2_1.toInt ≤ 7) → (0 ≤ (gI o_me_1 20).toInt ∧ (gI o_me_1 20).toInt ≤ 0) → (v1_1.toInt ≤ v2_1.toInt + 0) → (7 - v2_1.toInt).toNat < N1 → wp (lp_X9_passIt_4   N1 (v1_1, v2_1, o_me_1)) (fun (y : Int32 × Ob) => (0 ≤ y.1.toInt ∧ y.1.toInt ≤ 7) ∧ IvX9 y.2 ∧ Kp [8, 13, 14, 15, 16, 19, 20, 21, 23, 26, 29, 30, 43, 59, 62] [7, 10, 12, 22, 24, 25, 27, 28, 42, 48, 50, 51, 55] [(3, (0 : Int32))] o_me y.2) := by
    intro N1
    induction N1 with
    | zero =>
      intro v1_1 v2_1 o_me_1 hI_me_1 hkp_me_1 hh2 hh3 hh4 hh5 hN1
      exact absurd hN1 (Nat.not_lt_zero _)
    | succ N1 ihx =>
      have ih1 := ihx
      intro v1_1 v2_1 o_me_1 hI_me_1 hkp_me_1 hh2 hh3 hh4 hh5 hN1
      show wp (lb_X9_passIt_4   (lp_X9_passIt_4   N1) v1_1 v2_1 o_me_1) (fun (y : Int32 × Ob) => (0 ≤ y.1.toInt ∧ y.1.toInt ≤ 7) ∧ IvX9 y.2 ∧ Kp [8, 13, 14, 15, 16, 19, 20, 21, 23, 26, 29, 30, 43, 59, 62] [7, 10, 12, 22, 24, 25, 27, 28, 42, 48, 50, 51, 55] [(3, (0 : Int32))] o_me y.2)
      unfold lb_X9_passIt_4
      have kc6 : (gA o_me_1 3 (0 : Int32).toNatClampNeg).toInt = (gA o_me 3 (0 : Int32).toNatClampNeg).toInt := congrArg Int32.toInt (hkp_me_1.2.2 (3, (0 : Int32)) (by decide))
      have t7 := iaX9_3_0 hI_me_1 (j := (0 : Int32)) (by decide) (by decide)
      refine wp_if (fun c8 => ?_) (fun c8 => ?_)
      · have c8 := cv_ge (a := v2_1.toInt) (b := (gA o_me_1 3 (0 : Int32).toNatClampNeg).toInt) rfl rfl c8
        refine wp_lt (fun o9 eo9 => ?_)
        have hIo9 : IvX9 o9 := by rw [eo9]; exact ibX9_3 hI_me_1 (by decide) (by decide) (Or.inr (Or.inl (by first | omega | decide))) (Or.inr (Or.inl (by first | omega | decide))) (Or.inr (Or.inl (by first | omega | decide))) (Or.inr (Or.inl (by first | omega | decide))) (Or.inl (by first | omega | decide)) (Or.inl (by first | omega | decide)) (Or.inl (by first | omega | decide)) (Or.inl (by first | omega | decide)) (Or.inl (by first | omega | decide))
        have ko9_k10 : (gA o9 3 (0 : Int32).toNatClampNeg).toInt = (gA o_me_1 3 (0 : Int32).toNatClampNeg).toInt := by rw [eo9]; exact congrArg Int32.toInt (upd_ne (g := gA o_me_1 3) (i := (4 : Int32)) (j := (0 : Int32)) (v := ((gA o_me_1 3 (4 : Int32).toNatClampNeg) + (1 : Int32))) (by decide) (by decide) (by decide))
        have ko9_k11 : (gI o9 20).toInt = (gI o_me_1 20).toInt := by rw [eo9]; rfl
        have ko9_v : (gA o9 3 (4 : Int32).toNatClampNeg).toInt = ((gA o_me_1 3 (4 : Int32).toNatClampNeg) + (1 : Int32)).toInt := by rw [eo9]; exact congrArg Int32.toInt (upd_eq (g := gA o_me_1 3) (i := (4 : Int32)) (v := ((gA o_me_1 3 (4 : Int32).toNatClampNeg) + (1 : Int32))))
        have hkpo9 : Kp [8, 13, 14, 15, 16, 19, 20, 21, 23, 26, 29, 30, 43, 59, 62] [7, 10, 12, 22, 24, 25, 27, 28, 42, 48, 50, 51, 55] [(3, (0 : Int32))] o_me o9 := hkp_me_1.trans (by rw [eo9]; exact kp_tA0 (by decide) (by decide))
        refine wp_some ?_
        exact (show (0 ≤ v1_1.toInt ∧ v1_1.toInt ≤ 7) ∧ IvX9 o9 ∧ Kp [8, 13, 14, 15, 16, 19, 20, 21, 23, 26, 29, 30, 43, 59, 62] [7, 10, 12, 22, 24, 25, 27, 28, 42, 48, 50, 51, 55] [(3, (0 : Int32))] o_me o9 from ⟨⟨by omega, by omega⟩, hIo9, hkpo9⟩)
      · have c8 := cv_nge (a := v2_1.toInt) (b := (gA o_me_1 3 (0 : Int32).toNatClampNeg).toInt) rfl rfl c8
        refine wp_bd (s_X9_hasLike   o_me_1 v2_1  hI_me_1  ⟨by omega, by omega⟩) (fun z12 hz12 => ?_)
        have hz12_0 := hz12
        refine wp_if (fun c13 => ?_) (fun c13 => ?_)
        · have c13 := cv_eq (a := z12.toInt) (b := 0) rfl (by decide) c13
          unfold bk_X9_passIt_40
          refine wp_lt (fun x14 ex14 => ?_)
          have tx14 : x14.toInt = v2_1.toInt + 1 := by rw [ex14]; exact i32_add rfl (by decide) (by omega) (by omega)
          exact ih1 v1_1 x14 o_me_1 hI_me_1 hkp_me_1 ⟨by omega, by omega⟩ ⟨by omega, by omega⟩ ⟨by omega, by omega⟩ (by omega) (by omega)
        · have c13z := c13
          have c13 := cv_ne (a := z12.toInt) (b := 0) rfl (by decide) c13
          have t15 : ((8 : Int32) + v2_1).toInt = 8 + v2_1.toInt := i32_add (by decide) rfl (by omega) (by omega)
          refine wp_bd (s_X9_turnsOf   o_me_1 v2_1 (0 : Int32)  hI_me_1  ⟨by omega, by omega⟩ ⟨by decide, by decide⟩ ⟨by omega, by omega⟩) (fun z16 hz16 => ?_)
          obtain ⟨hz16_0, hz16_1, hz16_2⟩ := hz16
          have hkpz16_me : Kp [8, 13, 14, 15, 16, 19, 20, 21, 23, 26, 29, 30, 43, 59, 62] [7, 10, 12, 22, 24, 25, 27, 28, 42, 48, 50, 51, 55] [(3, (0 : Int32))] o_me z16.2 := hkp_me_1.trans (hz16_2.mono (by decide) (by decide) (by decide))
          have kz16_k17 : (gA z16.2 3 (0 : Int32).toNatClampNeg).toInt = (gA o_me_1 3 (0 : Int32).toNatClampNeg).toInt := congrArg (fun g => (g (0 : Int32).toNatClampNeg).toInt) (hz16_2.2.1 3 (by decide))
          have kz16_k18 : (gI z16.2 20).toInt = (gI o_me_1 20).toInt := congrArg Int32.toInt (hz16_2.1 20 (by decide))
          refine wp_gd (zin_of (m := 5484) rfl (by omega) (by omega)) ?_
          refine wp_lt (fun o19 eo19 => ?_)
          have hIo19 : IvX9 o19 := by rw [eo19]; exact ibX9_3 hz16_1 (by omega) (by omega) (Or.inr (Or.inl (by first | omega | decide))) (Or.inr (Or.inl (by first | omega | decide))) (Or.inr (Or.inl (by first | omega | decide))) (Or.inr (Or.inl (by first | omega | decide))) (Or.inr (Or.inl (by first | omega | decide))) (Or.inr (Or.inr ⟨by omega, by omega⟩)) (Or.inl (by first | omega | decide)) (Or.inl (by first | omega | decide)) (Or.inl (by first | omega | decide))
          have ko19_k20 : (gA o19 3 (0 : Int32).toNatClampNeg).toInt = (gA z16.2 3 (0 : Int32).toNatClampNeg).toInt := by rw [eo19]; exact congrArg Int32.toInt (upd_ne (g := gA z16.2 3) (i := ((8 : Int32) + v2_1)) (j := (0 : Int32)) (v := z16.1) (by omega) (by decide) (by omega))
          have ko19_k21 : (gI o19 20).toInt = (gI z16.2 20).toInt := by rw [eo19]; rfl
          have ko19_v : (gA o19 3 ((8 : Int32) + v2_1).toNatClampNeg).toInt = z16.1.toInt := by rw [eo19]; exact congrArg Int32.toInt (upd_eq (g := gA z16.2 3) (i := ((8 : Int32) + v2_1)) (v := z16.1))
          have hkpo19 : Kp [8, 13, 14, 15, 16, 19, 20, 21, 23, 26, 29, 30, 43, 59, 62] [7, 10, 12, 22, 24, 25, 27, 28, 42, 48, 50, 51, 55] [(3, (0 : Int32))] o_me o19 := hkpz16_me.trans (by rw [eo19]; exact kp_tA0 (by decide) (by omega))
          refine wp_lt (fun x22 ex22 => ?_)
          have tx22 : x22.toInt = v1_1.toInt + 1 := by rw [ex22]; exact i32_add rfl (by decide) (by omega) (by omega)
          unfold bk_X9_passIt_40
          refine wp_lt (fun x23 ex23 => ?_)
          have tx23 : x23.toInt = v2_1.toInt + 1 := by rw [ex23]; exact i32_add rfl (by decide) (by omega) (by omega)
          exact ih1 x22 x23 o19 hIo19 hkpo19 ⟨by omega, by omega⟩ ⟨by omega, by omega⟩ ⟨by omega, by omega⟩ (by omega) (by omega)
  exact lp1 zfu (0 : Int32) (0 : Int32) o_me hI_me Kp.rf ⟨by decide, by decide⟩ ⟨by decide, by decide⟩ ⟨by omega, by omega⟩ (by omega) (by show _ < 100000; omega)

set_option maxHeartbeats 4000000 in
set_option maxRecDepth 100000 in
theorem s_X9_passNow (o_me : Ob) (hI_me : IvX9 o_me) (q0 : 0 ≤ (gI o_me 20).toInt ∧ (gI o_me 20).toInt ≤ 0) : wp (f_X9_passNow   o_me) (fun (y : Int32 × Ob) => ((-3) ≤ y.1.toInt ∧ y.1.toInt ≤ 7) ∧ IvX9 y.2 ∧ Kp [13, 14, 15, 16, 19, 20, 21, 23, 26, 29, 30, 43, 59, 62] [10, 12, 22, 24, 25, 27, 28, 42, 48, 50, 51, 55] [(3, (0 : Int32))] o_me y.2) := by
  have li0 : (-3 : Int32).toInt = (-3) := by decide
  have li1 : (3 : Int32).toInt = 3 := by decide
  have li2 : (4 : Int32).toInt = 4 := by decide
  have li3 : (999 : Int32).toInt = 999 := by decide
  unfold f_X9_passNow
  refine wp_if (fun c1 => ?_) (fun c1 => ?_)
  · have c1 := cv_eq (a := (gA o_me 3 (4 : Int32).toNatClampNeg).toInt) (b := 999) rfl (by decide) c1
    refine wp_some ?_
    exact (show ((-3) ≤ (-3 : Int32).toInt ∧ (-3 : Int32).toInt ≤ 7) ∧ IvX9 o_me ∧ Kp [13, 14, 15, 16, 19, 20, 21, 23, 26, 29, 30, 43, 59, 62] [10, 12, 22, 24, 25, 27, 28, 42, 48, 50, 51, 55] [(3, (0 : Int32))] o_me o_me from ⟨⟨by decide, by decide⟩, hI_me, Kp.rf⟩)
  · have c1 := cv_ne (a := (gA o_me 3 (4 : Int32).toNatClampNeg).toInt) (b := 999) rfl (by decide) c1
    refine wp_bd (s_X9_remember   o_me (3 : Int32)  hI_me  ⟨by decide, by decide⟩) (fun z2 hz2 => ?_)
    obtain ⟨hz2_0, hz2_1⟩ := hz2
    have hkpz2_me : Kp [13, 14, 15, 16, 19, 20, 21, 23, 26, 29, 30, 43, 59, 62] [10, 12, 22, 24, 25, 27, 28, 42, 48, 50, 51, 55] [(3, (0 : Int32))] o_me z2 := Kp.rf.trans (hz2_1.mono (by decide) (by decide) (by decide))
    have kz2_k3 : (gA z2 3 (4 : Int32).toNatClampNeg).toInt = (gA o_me 3 (4 : Int32).toNatClampNeg).toInt := congrArg (fun g => (g (4 : Int32).toNatClampNeg).toInt) (hz2_1.2.1 3 (by decide))
    have kz2_k4 : (gI z2 20).toInt = (gI o_me 20).toInt := congrArg Int32.toInt (hz2_1.1 20 (by decide))
    refine wp_bd (s_X9_passIt   z2  hz2_0  ⟨by omega, by omega⟩) (fun z5 hz5 => ?_)
    obtain ⟨hz5_0, hz5_1, hz5_2⟩ := hz5
    have hkpz5_me : Kp [13, 14, 15, 16, 19, 20, 21, 23, 26, 29, 30, 43, 59, 62] [10, 12, 22, 24, 25, 27, 28, 42, 48, 50, 51, 55] [(3, (0 : Int32))] o_me z5.2 := hkpz2_me.trans (hz5_2.mono (by decide) (by decide) (by decide))
    have kz5_k6 : (gI z5.2 20).toInt = (gI z2 20).toInt := congrArg Int32.toInt (hz5_2.1 20 (by decide))
    refine wp_some ?_
    exact (show ((-3) ≤ z5.1.toInt ∧ z5.1.toInt ≤ 7) ∧ IvX9 z5.2 ∧ Kp [13, 14, 15, 16, 19, 20, 21, 23, 26, 29, 30, 43, 59, 62] [10, 12, 22, 24, 25, 27, 28, 42, 48, 50, 51, 55] [(3, (0 : Int32))] o_me z5.2 from ⟨⟨by omega, by omega⟩, hz5_1, hkpz5_me⟩)

set_option maxHeartbeats 4000000 in
set_option maxRecDepth 100000 in
theorem s_X9_act (o_me : Ob) (p0 : Int32) (p1 : Int32) (hI_me : IvX9 o_me) (q0 : 0 ≤ (gI o_me 20).toInt ∧ (gI o_me 20).toInt ≤ 0) : wp (f_X9_act   o_me p0 p1) (fun (y : Int32 × Ob) => ((-3) ≤ y.1.toInt ∧ y.1.toInt ≤ 999) ∧ IvX9 y.2 ∧ Kp [13, 14, 15, 16, 19, 20, 21, 23, 26, 29, 30, 59, 62] [10, 12, 22, 24, 25, 27, 28, 48, 50, 51, 55] [(3, (0 : Int32))] o_me y.2) := by
  unfold f_X9_act
  refine wp_if (fun c1 => ?_) (fun c1 => ?_)
  · have c1 := cv_eq (a := p0.toInt) (b := 0) rfl (by decide) c1
    refine wp_bd (s_X9_raceNow   o_me p1  hI_me  ⟨by omega, by omega⟩) (fun z2 hz2 => ?_)
    obtain ⟨hz2_0, hz2_1, hz2_2⟩ := hz2
    have hkpz2_me : Kp [13, 14, 15, 16, 19, 20, 21, 23, 26, 29, 30, 59, 62] [10, 12, 22, 24, 25, 27, 28, 48, 50, 51, 55] [(3, (0 : Int32))] o_me z2.2 := Kp.rf.trans (hz2_2.mono (by decide) (by decide) (by decide))
    have kz2_k3 : (gI z2.2 20).toInt = (gI o_me 20).toInt := congrArg Int32.toInt (hz2_2.1 20 (by decide))
    refine wp_some ?_
    exact (show ((-3) ≤ z2.1.toInt ∧ z2.1.toInt ≤ 999) ∧ IvX9 z2.2 ∧ Kp [13, 14, 15, 16, 19, 20, 21, 23, 26, 29, 30, 59, 62] [10, 12, 22, 24, 25, 27, 28, 48, 50, 51, 55] [(3, (0 : Int32))] o_me z2.2 from ⟨⟨by omega, by omega⟩, hz2_1, hkpz2_me⟩)
  have c1 := cv_ne (a := p0.toInt) (b := 0) rfl (by decide) c1
  refine wp_if (fun c4 => ?_) (fun c4 => ?_)
  · have c4 := cv_eq (a := p0.toInt) (b := 1) rfl (by decide) c4
    refine wp_bd (s_X9_enterNow   o_me p1  hI_me  ⟨by omega, by omega⟩) (fun z5 hz5 => ?_)
    obtain ⟨hz5_0, hz5_1, hz5_2⟩ := hz5
    have hkpz5_me : Kp [13, 14, 15, 16, 19, 20, 21, 23, 26, 29, 30, 59, 62] [10, 12, 22, 24, 25, 27, 28, 48, 50, 51, 55] [(3, (0 : Int32))] o_me z5.2 := Kp.rf.trans (hz5_2.mono (by decide) (by decide) (by decide))
    have kz5_k6 : (gI z5.2 20).toInt = (gI o_me 20).toInt := congrArg Int32.toInt (hz5_2.1 20 (by decide))
    refine wp_some ?_
    exact (show ((-3) ≤ z5.1.toInt ∧ z5.1.toInt ≤ 999) ∧ IvX9 z5.2 ∧ Kp [13, 14, 15, 16, 19, 20, 21, 23, 26, 29, 30, 59, 62] [10, 12, 22, 24, 25, 27, 28, 48, 50, 51, 55] [(3, (0 : Int32))] o_me z5.2 from ⟨⟨by omega, by omega⟩, hz5_1, hkpz5_me⟩)
  have c4 := cv_ne (a := p0.toInt) (b := 1) rfl (by decide) c4
  refine wp_if (fun c7 => ?_) (fun c7 => ?_)
  · have c7 := cv_eq (a := p0.toInt) (b := 2) rfl (by decide) c7
    refine wp_bd (s_X9_takeNow   o_me p1  hI_me  ) (fun z8 hz8 => ?_)
    obtain ⟨hz8_0, hz8_1, hz8_2⟩ := hz8
    have hkpz8_me : Kp [13, 14, 15, 16, 19, 20, 21, 23, 26, 29, 30, 59, 62] [10, 12, 22, 24, 25, 27, 28, 48, 50, 51, 55] [(3, (0 : Int32))] o_me z8.2 := Kp.rf.trans (hz8_2.mono (by decide) (by decide) (by decide))
    have kz8_k9 : (gI z8.2 20).toInt = (gI o_me 20).toInt := congrArg Int32.toInt (hz8_2.1 20 (by decide))
    refine wp_some ?_
    exact (show ((-3) ≤ z8.1.toInt ∧ z8.1.toInt ≤ 999) ∧ IvX9 z8.2 ∧ Kp [13, 14, 15, 16, 19, 20, 21, 23, 26, 29, 30, 59, 62] [10, 12, 22, 24, 25, 27, 28, 48, 50, 51, 55] [(3, (0 : Int32))] o_me z8.2 from ⟨⟨by omega, by omega⟩, hz8_1, hkpz8_me⟩)
  have c7 := cv_ne (a := p0.toInt) (b := 2) rfl (by decide) c7
  refine wp_bd (s_X9_passNow   o_me  hI_me  ⟨by omega, by omega⟩) (fun z10 hz10 => ?_)
  obtain ⟨hz10_0, hz10_1, hz10_2⟩ := hz10
  have hkpz10_me : Kp [13, 14, 15, 16, 19, 20, 21, 23, 26, 29, 30, 59, 62] [10, 12, 22, 24, 25, 27, 28, 48, 50, 51, 55] [(3, (0 : Int32))] o_me z10.2 := Kp.rf.trans (hz10_2.mono (by decide) (by decide) (by decide))
  have kz10_k11 : (gI z10.2 20).toInt = (gI o_me 20).toInt := congrArg Int32.toInt (hz10_2.1 20 (by decide))
  refine wp_some ?_
  exact (show ((-3) ≤ z10.1.toInt ∧ z10.1.toInt ≤ 999) ∧ IvX9 z10.2 ∧ Kp [13, 14, 15, 16, 19, 20, 21, 23, 26, 29, 30, 59, 62] [10, 12, 22, 24, 25, 27, 28, 48, 50, 51, 55] [(3, (0 : Int32))] o_me z10.2 from ⟨⟨by omega, by omega⟩, hz10_1, hkpz10_me⟩)

set_option maxHeartbeats 4000000 in
set_option maxRecDepth 100000 in
theorem s_X9_tell (o_me : Ob) (p0 : Int32) (hI_me : IvX9 o_me) (q0 : (-6) ≤ p0.toInt ∧ p0.toInt ≤ 2147483647) : wp (f_X9_tell   o_me p0) (fun (y : Int32 × Ob) => ((-6) ≤ y.1.toInt ∧ y.1.toInt ≤ 2147483647) ∧ IvX9 y.2 ∧ Kp [8, 13, 14, 15, 16, 19, 20, 21, 23, 26, 29, 30, 34, 38, 43, 59, 62] [3, 7, 10, 12, 22, 24, 25, 27, 28, 42, 48, 50, 51, 55] [(3, (0 : Int32))] o_me y.2) := by
  have li0 : (0 : Int32).toInt = 0 := by decide
  have li1 : (1 : Int32).toInt = 1 := by decide
  unfold f_X9_tell
  refine wp_if (fun c1 => ?_) (fun c1 => ?_)
  · have c1 := cv_ge (a := p0.toInt) (b := 0) rfl (by decide) c1
    obtain ⟨w2, ew2⟩ : ∃ z : Int32, z = (0 : Int32) := ⟨_, rfl⟩
    have tw2 : w2.toInt = 0 := by rw [ew2]; decide
    rw [show bk_X9_tell_10   p0 (0 : Int32) o_me = bk_X9_tell_10   p0 w2 o_me from by rw [ew2]]
    unfold bk_X9_tell_10
    refine wp_lt (fun o3 eo3 => ?_)
    have hIo3 : IvX9 o3 := by rw [eo3]; exact hI_me
    have ko3_v : (gI o3 1).toInt = w2.toInt := by rw [eo3]; rfl
    have hkpo3 : Kp [8, 13, 14, 15, 16, 19, 20, 21, 23, 26, 29, 30, 34, 38, 43, 59, 62] [3, 7, 10, 12, 22, 24, 25, 27, 28, 42, 48, 50, 51, 55] [(3, (0 : Int32))] o_me o3 := Kp.rf.trans (by rw [eo3]; exact Kp.sI (by decide))
    refine wp_if (fun c4 => ?_) (fun c4 => ?_)
    · have c4 := cv_ge (a := p0.toInt) (b := 0) rfl (by decide) c4
      refine wp_some ?_
      have rg5 := i32_rg p0
      exact (show ((-6) ≤ p0.toInt ∧ p0.toInt ≤ 2147483647) ∧ IvX9 o3 ∧ Kp [8, 13, 14, 15, 16, 19, 20, 21, 23, 26, 29, 30, 34, 38, 43, 59, 62] [3, 7, 10, 12, 22, 24, 25, 27, 28, 42, 48, 50, 51, 55] [(3, (0 : Int32))] o_me o3 from ⟨⟨by omega, by omega⟩, hIo3, hkpo3⟩)
    · have c4 := cv_nge (a := p0.toInt) (b := 0) rfl (by decide) c4
      exfalso; omega
  · have c1 := cv_nge (a := p0.toInt) (b := 0) rfl (by decide) c1
    unfold bk_X9_tell_10
    refine wp_lt (fun o6 eo6 => ?_)
    have hIo6 : IvX9 o6 := by rw [eo6]; exact hI_me
    have ko6_v : (gI o6 1).toInt = p0.toInt := by rw [eo6]; rfl
    have hkpo6 : Kp [8, 13, 14, 15, 16, 19, 20, 21, 23, 26, 29, 30, 34, 38, 43, 59, 62] [3, 7, 10, 12, 22, 24, 25, 27, 28, 42, 48, 50, 51, 55] [(3, (0 : Int32))] o_me o6 := Kp.rf.trans (by rw [eo6]; exact Kp.sI (by decide))
    refine wp_if (fun c7 => ?_) (fun c7 => ?_)
    · have c7 := cv_ge (a := p0.toInt) (b := 0) rfl (by decide) c7
      exfalso; omega
    · have c7 := cv_nge (a := p0.toInt) (b := 0) rfl (by decide) c7
      have t8 : (-p0).toInt = -p0.toInt := i32_neg rfl (by omega) (by omega)
      refine wp_lt (fun x9 ex9 => ?_)
      have tx9 : x9.toInt = (-p0).toInt := by rw [ex9]
      refine wp_gd (zin_of (m := 7) rfl (by omega) (by omega)) ?_
      refine wp_gd (zin_of (m := 7) rfl (by omega) (by omega)) ?_
      refine wp_lt (fun o10 eo10 => ?_)
      have hIo10 : IvX9 o10 := by rw [eo10]; exact hIo6
      have ko10_k11 : (gI o10 1).toInt = (gI o6 1).toInt := by rw [eo10]; rfl
      have ko10_v : (gA o10 2 x9.toNatClampNeg).toInt = ((gA o6 2 x9.toNatClampNeg) + (1 : Int32)).toInt := by rw [eo10]; exact congrArg Int32.toInt (upd_eq (g := gA o6 2) (i := x9) (v := ((gA o6 2 x9.toNatClampNeg) + (1 : Int32))))
      have hkpo10 : Kp [8, 13, 14, 15, 16, 19, 20, 21, 23, 26, 29, 30, 34, 38, 43, 59, 62] [3, 7, 10, 12, 22, 24, 25, 27, 28, 42, 48, 50, 51, 55] [(3, (0 : Int32))] o_me o10 := hkpo6.trans (by rw [eo10]; exact Kp.tA (by decide) (by decide))
      refine wp_some ?_
      have rg12 := i32_rg p0
      exact (show ((-6) ≤ p0.toInt ∧ p0.toInt ≤ 2147483647) ∧ IvX9 o10 ∧ Kp [8, 13, 14, 15, 16, 19, 20, 21, 23, 26, 29, 30, 34, 38, 43, 59, 62] [3, 7, 10, 12, 22, 24, 25, 27, 28, 42, 48, 50, 51, 55] [(3, (0 : Int32))] o_me o10 from ⟨⟨by omega, by omega⟩, hIo10, hkpo10⟩)

set_option maxHeartbeats 4000000 in
set_option maxRecDepth 100000 in
theorem s_X9_settled (o_me : Ob) (p0 : Int32) (hI_me : IvX9 o_me) (q0 : (-6) ≤ p0.toInt ∧ p0.toInt ≤ 2147483647) : wp (f_X9_settled   o_me p0) (fun (y : Int32 × Ob) => ((-6) ≤ y.1.toInt ∧ y.1.toInt ≤ 2147483647) ∧ IvX9 y.2 ∧ Kp [13, 14, 15, 16, 19, 20, 21, 23, 26, 29, 30, 34, 38, 43, 59, 62] [3, 7, 10, 12, 22, 24, 25, 27, 28, 42, 48, 50, 51, 55] [(3, (0 : Int32))] o_me y.2) := by
  have li0 : (0 : Int32).toInt = 0 := by decide
  unfold f_X9_settled
  refine wp_if (fun c1 => ?_) (fun c1 => ?_)
  · have c1 := cv_ge (a := p0.toInt) (b := 0) rfl (by decide) c1
    obtain ⟨w2, ew2⟩ : ∃ z : Int32, z = (0 : Int32) := ⟨_, rfl⟩
    have tw2 : w2.toInt = 0 := by rw [ew2]; decide
    rw [show bk_X9_settled_13   p0 (0 : Int32) o_me = bk_X9_settled_13   p0 w2 o_me from by rw [ew2]]
    unfold bk_X9_settled_13
    refine wp_lt (fun o3 eo3 => ?_)
    have hIo3 : IvX9 o3 := by rw [eo3]; exact ipX9_8 hI_me ⟨by omega, by omega⟩
    have ko3_v : (gI o3 8).toInt = w2.toInt := by rw [eo3]; rfl
    have hkpo3 : Kp [13, 14, 15, 16, 19, 20, 21, 23, 26, 29, 30, 34, 38, 43, 59, 62] [3, 7, 10, 12, 22, 24, 25, 27, 28, 42, 48, 50, 51, 55] [(3, (0 : Int32))] o_me o3 := Kp.rf.trans (by rw [eo3]; exact Kp.sI (by decide))
    have rg5 := i32_rg p0
    refine wp_bd (s_X9_tell   o3 p0  hIo3  ⟨by omega, by omega⟩) (fun z4 hz4 => ?_)
    obtain ⟨hz4_0, hz4_1, hz4_2⟩ := hz4
    have hkpz4_me : Kp [13, 14, 15, 16, 19, 20, 21, 23, 26, 29, 30, 34, 38, 43, 59, 62] [3, 7, 10, 12, 22, 24, 25, 27, 28, 42, 48, 50, 51, 55] [(3, (0 : Int32))] o_me z4.2 := hkpo3.trans (hz4_2.mono (by decide) (by decide) (by decide))
    have kz4_k6 : (gI z4.2 8).toInt = (gI o3 8).toInt := congrArg Int32.toInt (hz4_2.1 8 (by decide))
    refine wp_some ?_
    have rg7 := i32_rg z4.1
    exact (show ((-6) ≤ z4.1.toInt ∧ z4.1.toInt ≤ 2147483647) ∧ IvX9 z4.2 ∧ Kp [13, 14, 15, 16, 19, 20, 21, 23, 26, 29, 30, 34, 38, 43, 59, 62] [3, 7, 10, 12, 22, 24, 25, 27, 28, 42, 48, 50, 51, 55] [(3, (0 : Int32))] o_me z4.2 from ⟨⟨by omega, by omega⟩, hz4_1, hkpz4_me⟩)
  · have c1 := cv_nge (a := p0.toInt) (b := 0) rfl (by decide) c1
    have t8 := igX9_8 hI_me
    obtain ⟨w9, ew9⟩ : ∃ z : Int32, z = gI o_me 8 := ⟨_, rfl⟩
    have tw9 : w9.toInt = (gI o_me 8).toInt := by rw [ew9]
    rw [show bk_X9_settled_13   p0 (gI o_me 8) o_me = bk_X9_settled_13   p0 w9 o_me from by rw [ew9]]
    unfold bk_X9_settled_13
    refine wp_lt (fun o10 eo10 => ?_)
    have hIo10 : IvX9 o10 := by rw [eo10]; exact ipX9_8 hI_me ⟨by omega, by omega⟩
    have ko10_v : (gI o10 8).toInt = w9.toInt := by rw [eo10]; rfl
    have hkpo10 : Kp [13, 14, 15, 16, 19, 20, 21, 23, 26, 29, 30, 34, 38, 43, 59, 62] [3, 7, 10, 12, 22, 24, 25, 27, 28, 42, 48, 50, 51, 55] [(3, (0 : Int32))] o_me o10 := Kp.rf.trans (by rw [eo10]; exact Kp.sI (by decide))
    have rg12 := i32_rg p0
    refine wp_bd (s_X9_tell   o10 p0  hIo10  ⟨by omega, by omega⟩) (fun z11 hz11 => ?_)
    obtain ⟨hz11_0, hz11_1, hz11_2⟩ := hz11
    have hkpz11_me : Kp [13, 14, 15, 16, 19, 20, 21, 23, 26, 29, 30, 34, 38, 43, 59, 62] [3, 7, 10, 12, 22, 24, 25, 27, 28, 42, 48, 50, 51, 55] [(3, (0 : Int32))] o_me z11.2 := hkpo10.trans (hz11_2.mono (by decide) (by decide) (by decide))
    have kz11_k13 : (gI z11.2 8).toInt = (gI o10 8).toInt := congrArg Int32.toInt (hz11_2.1 8 (by decide))
    refine wp_some ?_
    have rg14 := i32_rg z11.1
    exact (show ((-6) ≤ z11.1.toInt ∧ z11.1.toInt ≤ 2147483647) ∧ IvX9 z11.2 ∧ Kp [13, 14, 15, 16, 19, 20, 21, 23, 26, 29, 30, 34, 38, 43, 59, 62] [3, 7, 10, 12, 22, 24, 25, 27, 28, 42, 48, 50, 51, 55] [(3, (0 : Int32))] o_me z11.2 from ⟨⟨by omega, by omega⟩, hz11_1, hkpz11_me⟩)

set_option maxHeartbeats 4000000 in
set_option maxRecDepth 100000 in
theorem s_X9_back (o_me : Ob) (p0 : Int32) (hI_me : IvX9 o_me)  : wp (f_X9_back   o_me p0) (fun (y : Int32 × Ob) => IvX9 y.2 ∧ Kp [13, 14, 15, 16, 19, 20, 21, 23, 26, 29, 30, 34, 38, 43, 59, 62] [7, 10, 12, 22, 24, 25, 27, 28, 42, 48, 50, 51, 55] [] o_me y.2) := by
  sorry

set_option maxHeartbeats 4000000 in
set_option maxRecDepth 100000 in
theorem s_X9_layRuns (o_me : Ob) (p0 : Int32) (hI_me : IvX9 o_me) (q0 : 0 ≤ p0.toInt ∧ p0.toInt ≤ 3) (q1 : 0 ≤ (gI o_me 20).toInt ∧ (gI o_me 20).toInt ≤ 0) : wp (f_X9_layRuns   o_me p0) (fun (y : Ob) => IvX9 y ∧ Kp [8, 13, 14, 15, 16, 19, 20, 21, 23, 26, 29, 30, 43, 59, 62] [3, 7, 10, 12, 22, 24, 25, 27, 28, 42, 48, 50, 51, 55] [(3, (0 : Int32))] o_me y) := by
  have li0 : (0 : Int32).toInt = 0 := by decide
  unfold f_X9_layRuns
  have lp1 : ∀ (N1 : Nat) (v1_1 : Int32) (v2_1 : Int32) (o_me_1 : Ob), IvX9 o_me_1 → Kp [8, 13, 14, 15, 16, 19, 20, 21, 23, 26, 29, 30, 43, 59, 62] [3, 7, 10, 12, 22, 24, 25, 27, 28, 42, 48, 50, 51, 55] [(3, (0 : Int32))] o_me o_me_1 → (0 ≤ v1_1.toInt ∧ v1_1.toInt ≤ 3) → (0 ≤ v2_1.toInt ∧ v2_1.toInt ≤ 7) → (0 ≤ (gI o_me_1 20).toInt ∧ (gI o_me_1 20).toInt ≤ 0) → (v1_1.toInt ≤ p0.toInt + 0) → (p0.toInt ≤ v1_1.toInt + 0) → (7 - v2_1.toInt).toNat < N1 → wp (lp_X9_layRuns_2   N1 (v1_1, v2_1, o_me_1)) (fun (y : Ob) => IvX9 y ∧ Kp [8, 13, 14, 15, 16, 19, 20, 21, 23, 26, 29, 30, 43, 59, 62] [3, 7, 10, 12, 22, 24, 25, 27, 28, 42, 48, 50, 51, 55] [(3, (0 : Int32))] o_me y) := by
    intro N1
    induction N1 with
    | zero =>
      intro v1_1 v2_1 o_me_1 hI_me_1 hkp_me_1 hh2 hh3 hh4 hh5 hh6 hN1
      exact absurd hN1 (Nat.not_lt_zero _)
    | succ N1 ihx =>
      have ih1 := ihx
      intro v1_1 v2_1 o_me_1 hI_me_1 hkp_me_1 hh2 hh3 hh4 hh5 hh6 hN1
      show wp (lb_X9_layRuns_2   (lp_X9_layRuns_2   N1) v1_1 v2_1 o_me_1) (fun (y : Ob) => IvX9 y ∧ Kp [8, 13, 14, 15, 16, 19, 20, 21, 23, 26, 29, 30, 43, 59, 62] [3, 7, 10, 12, 22, 24, 25, 27, 28, 42, 48, 50, 51, 55] [(3, (0 : Int32))] o_me y)
      unfold lb_X9_layRuns_2
      have kc7 : (gA o_me_1 3 (0 : Int32).toNatClampNeg).toInt = (gA o_me 3 (0 : Int32).toNatClampNeg).toInt := congrArg Int32.toInt (hkp_me_1.2.2 (3, (0 : Int32)) (by decide))
      have t8 := iaX9_3_0 hI_me_1 (j := (0 : Int32)) (by decide) (by decide)
      refine wp_if (fun c9 => ?_) (fun c9 => ?_)
      · have c9 := cv_ge (a := v2_1.toInt) (b := (gA o_me_1 3 (0 : Int32).toNatClampNeg).toInt) rfl rfl c9
        refine wp_some ?_
        exact (show IvX9 o_me_1 ∧ Kp [8, 13, 14, 15, 16, 19, 20, 21, 23, 26, 29, 30, 43, 59, 62] [3, 7, 10, 12, 22, 24, 25, 27, 28, 42, 48, 50, 51, 55] [(3, (0 : Int32))] o_me o_me_1 from ⟨hI_me_1, hkp_me_1⟩)
      · have c9 := cv_nge (a := v2_1.toInt) (b := (gA o_me_1 3 (0 : Int32).toNatClampNeg).toInt) rfl rfl c9
        refine wp_bd (s_X9_runsOf   o_me_1 v2_1 v1_1  hI_me_1  ⟨by omega, by omega⟩ ⟨by omega, by omega⟩ ⟨by omega, by omega⟩) (fun z10 hz10 => ?_)
        obtain ⟨hz10_0, hz10_1, hz10_2⟩ := hz10
        have hkpz10_me : Kp [8, 13, 14, 15, 16, 19, 20, 21, 23, 26, 29, 30, 43, 59, 62] [3, 7, 10, 12, 22, 24, 25, 27, 28, 42, 48, 50, 51, 55] [(3, (0 : Int32))] o_me z10.2 := hkp_me_1.trans (hz10_2.mono (by decide) (by decide) (by decide))
        have kz10_k11 : (gA z10.2 3 (0 : Int32).toNatClampNeg).toInt = (gA o_me_1 3 (0 : Int32).toNatClampNeg).toInt := congrArg (fun g => (g (0 : Int32).toNatClampNeg).toInt) (hz10_2.2.1 3 (by decide))
        have kz10_k12 : (gI z10.2 20).toInt = (gI o_me_1 20).toInt := congrArg Int32.toInt (hz10_2.1 20 (by decide))
        refine wp_gd (zin_of (m := 7) rfl (by omega) (by omega)) ?_
        refine wp_lt (fun o13 eo13 => ?_)
        have hIo13 : IvX9 o13 := by rw [eo13]; exact hz10_1
        have ko13_k14 : (gA o13 3 (0 : Int32).toNatClampNeg).toInt = (gA z10.2 3 (0 : Int32).toNatClampNeg).toInt := by rw [eo13]; rfl
        have ko13_k15 : (gI o13 20).toInt = (gI z10.2 20).toInt := by rw [eo13]; rfl
        have ko13_v : (gA o13 41 v2_1.toNatClampNeg).toInt = z10.1.toInt := by rw [eo13]; exact congrArg Int32.toInt (upd_eq (g := gA z10.2 41) (i := v2_1) (v := z10.1))
        have hkpo13 : Kp [8, 13, 14, 15, 16, 19, 20, 21, 23, 26, 29, 30, 43, 59, 62] [3, 7, 10, 12, 22, 24, 25, 27, 28, 42, 48, 50, 51, 55] [(3, (0 : Int32))] o_me o13 := hkpz10_me.trans (by rw [eo13]; exact Kp.tA (by decide) (by decide))
        refine wp_bd (s_X9_isBarred   o13 v2_1 v1_1  hIo13  ⟨by omega, by omega⟩ ⟨by omega, by omega⟩ ⟨by omega, by omega⟩) (fun z16 hz16 => ?_)
        obtain ⟨hz16_0, hz16_1, hz16_2⟩ := hz16
        have hkpz16_me : Kp [8, 13, 14, 15, 16, 19, 20, 21, 23, 26, 29, 30, 43, 59, 62] [3, 7, 10, 12, 22, 24, 25, 27, 28, 42, 48, 50, 51, 55] [(3, (0 : Int32))] o_me z16.2 := hkpo13.trans (hz16_2.mono (by decide) (by decide) (by decide))
        have kz16_k17 : (gA z16.2 3 (0 : Int32).toNatClampNeg).toInt = (gA o13 3 (0 : Int32).toNatClampNeg).toInt := congrArg (fun g => (g (0 : Int32).toNatClampNeg).toInt) (hz16_2.2.1 3 (by decide))
        have kz16_k18 : (gI z16.2 20).toInt = (gI o13 20).toInt := congrArg Int32.toInt (hz16_2.1 20 (by decide))
        refine wp_gd (zin_of (m := 7) rfl (by omega) (by omega)) ?_
        refine wp_lt (fun o19 eo19 => ?_)
        have hIo19 : IvX9 o19 := by rw [eo19]; exact hz16_1
        have ko19_k20 : (gA o19 3 (0 : Int32).toNatClampNeg).toInt = (gA z16.2 3 (0 : Int32).toNatClampNeg).toInt := by rw [eo19]; rfl
        have ko19_k21 : (gI o19 20).toInt = (gI z16.2 20).toInt := by rw [eo19]; rfl
        have hkpo19 : Kp [8, 13, 14, 15, 16, 19, 20, 21, 23, 26, 29, 30, 43, 59, 62] [3, 7, 10, 12, 22, 24, 25, 27, 28, 42, 48, 50, 51, 55] [(3, (0 : Int32))] o_me o19 := hkpz16_me.trans (by rw [eo19]; exact Kp.tA (by decide) (by decide))
        refine wp_lt (fun x22 ex22 => ?_)
        have tx22 : x22.toInt = v2_1.toInt + 1 := by rw [ex22]; exact i32_add rfl (by decide) (by omega) (by omega)
        exact ih1 v1_1 x22 o19 hIo19 hkpo19 ⟨by omega, by omega⟩ ⟨by omega, by omega⟩ ⟨by omega, by omega⟩ (by omega) (by omega) (by omega)
  exact lp1 zfu p0 (0 : Int32) o_me hI_me Kp.rf ⟨by omega, by omega⟩ ⟨by decide, by decide⟩ ⟨by omega, by omega⟩ (by omega) (by omega) (by show _ < 100000; omega)

set_option maxHeartbeats 4000000 in
set_option maxRecDepth 100000 in
theorem s_X9_enteredBits (o_me : Ob) (hI_me : IvX9 o_me)  : wp (f_X9_enteredBits   o_me) (fun (y : Int32) => True) := by
  have li0 : (0 : Int32).toInt = 0 := by decide
  have li1 : (22 : Int32).toInt = 22 := by decide
  unfold f_X9_enteredBits
  have lp1 : ∀ (N1 : Nat) (v1_1 : Int32) (v2_1 : Int32), (0 ≤ v2_1.toInt ∧ v2_1.toInt ≤ 7) → (7 - v2_1.toInt).toNat < N1 → wp (lp_X9_enteredBits_4 o_me  N1 (v1_1, v2_1)) (fun (y : Int32) => True) := by
    intro N1
    induction N1 with
    | zero =>
      intro v1_1 v2_1 hh1 hN1
      exact absurd hN1 (Nat.not_lt_zero _)
    | succ N1 ihx =>
      have ih1 := ihx
      intro v1_1 v2_1 hh1 hN1
      show wp (lb_X9_enteredBits_4 o_me  (lp_X9_enteredBits_4 o_me  N1) v1_1 v2_1) (fun (y : Int32) => True)
      unfold lb_X9_enteredBits_4
      have t2 := iaX9_3_0 hI_me (j := (0 : Int32)) (by decide) (by decide)
      refine wp_if (fun c3 => ?_) (fun c3 => ?_)
      · have c3 := cv_ge (a := v2_1.toInt) (b := (gA o_me 3 (0 : Int32).toNatClampNeg).toInt) rfl rfl c3
        refine wp_some ?_
        exact trivial
      · have c3 := cv_nge (a := v2_1.toInt) (b := (gA o_me 3 (0 : Int32).toNatClampNeg).toInt) rfl rfl c3
        have t4 : ((22 : Int32) + v2_1).toInt = 22 + v2_1.toInt := i32_add (by decide) rfl (by omega) (by omega)
        refine wp_gd (zin_of (m := 5484) rfl (by omega) (by omega)) ?_
        have t5 := iaX9_3_6 hI_me (j := (22 : Int32) + v2_1) (by omega) (by omega)
        refine wp_lt (fun x6 ex6 => ?_)
        have tx6 : x6.toInt = (v1_1 ||| ((gA o_me 3 ((22 : Int32) + v2_1).toNatClampNeg) <<< (v2_1 &&& 31))).toInt := by rw [ex6]
        refine wp_lt (fun x7 ex7 => ?_)
        have tx7 : x7.toInt = v2_1.toInt + 1 := by rw [ex7]; exact i32_add rfl (by decide) (by omega) (by omega)
        exact ih1 x6 x7  ⟨by omega, by omega⟩ (by omega)
  exact lp1 zfu (0 : Int32) (0 : Int32)  ⟨by decide, by decide⟩ (by show _ < 100000; omega)

set_option maxHeartbeats 4000000 in
set_option maxRecDepth 100000 in
theorem s_X9_is (p0 : Int32) (p1 : Int32)   : wp (f_X9_is   p0 p1) (fun (y : Int32) => (0 ≤ y.toInt ∧ y.toInt ≤ 1)) := by
  have li0 : (0 : Int32).toInt = 0 := by decide
  have li1 : (1 : Int32).toInt = 1 := by decide
  unfold f_X9_is
  have t1 := i32_and (x := p0 >>> (p1 &&& 31)) (y := (1 : Int32)) (m := 1) ⟨by decide, by decide⟩
  refine wp_if (fun c2 => ?_) (fun c2 => ?_)
  · have c2 := cv_eq (a := ((p0 >>> (p1 &&& 31)) &&& (1 : Int32)).toInt) (b := 1) rfl (by decide) c2
    refine wp_some ?_
    exact (show (0 ≤ (1 : Int32).toInt ∧ (1 : Int32).toInt ≤ 1) from ⟨by decide, by decide⟩)
  · have c2 := cv_ne (a := ((p0 >>> (p1 &&& 31)) &&& (1 : Int32)).toInt) (b := 1) rfl (by decide) c2
    refine wp_some ?_
    exact (show (0 ≤ (0 : Int32).toInt ∧ (0 : Int32).toInt ≤ 1) from ⟨by decide, by decide⟩)

set_option maxHeartbeats 4000000 in
set_option maxRecDepth 100000 in
theorem s_X9_ones (p0 : Int32)   : wp (f_X9_ones   p0) (fun (y : Int32) => True) := by
  have li0 : (0 : Int32).toInt = 0 := by decide
  have li1 : (1 : Int32).toInt = 1 := by decide
  have li2 : (7 : Int32).toInt = 7 := by decide
  unfold f_X9_ones
  have lp1 : ∀ (N1 : Nat) (v0_1 : Int32) (v1_1 : Int32) (v2_1 : Int32), (0 ≤ v2_1.toInt ∧ v2_1.toInt ≤ 7) → (7 - v2_1.toInt).toNat < N1 → wp (lp_X9_ones_4   N1 (v0_1, v1_1, v2_1)) (fun (y : Int32) => True) := by
    intro N1
    induction N1 with
    | zero =>
      intro v0_1 v1_1 v2_1 hh1 hN1
      exact absurd hN1 (Nat.not_lt_zero _)
    | succ N1 ihx =>
      have ih1 := ihx
      intro v0_1 v1_1 v2_1 hh1 hN1
      show wp (lb_X9_ones_4   (lp_X9_ones_4   N1) v0_1 v1_1 v2_1) (fun (y : Int32) => True)
      unfold lb_X9_ones_4
      refine wp_if (fun c2 => ?_) (fun c2 => ?_)
      · have c2 := cv_ge (a := v2_1.toInt) (b := 7) rfl (by decide) c2
        refine wp_some ?_
        exact trivial
      · have c2 := cv_nge (a := v2_1.toInt) (b := 7) rfl (by decide) c2
        have t3 := i32_and (x := v0_1 >>> (v2_1 &&& 31)) (y := (1 : Int32)) (m := 1) ⟨by decide, by decide⟩
        refine wp_lt (fun x4 ex4 => ?_)
        have tx4 : x4.toInt = (v1_1 + ((v0_1 >>> (v2_1 &&& 31)) &&& (1 : Int32))).toInt := by rw [ex4]
        refine wp_lt (fun x5 ex5 => ?_)
        have tx5 : x5.toInt = v2_1.toInt + 1 := by rw [ex5]; exact i32_add rfl (by decide) (by omega) (by omega)
        exact ih1 v0_1 x4 x5  ⟨by omega, by omega⟩ (by omega)
  exact lp1 zfu p0 (0 : Int32) (0 : Int32)  ⟨by decide, by decide⟩ (by show _ < 100000; omega)

set_option maxHeartbeats 4000000 in
set_option maxRecDepth 100000 in
theorem s_X9_placeOf (o_me : Ob) (p0 : Int32) (p1 : Int32) (hI_me : IvX9 o_me) (q0 : 0 ≤ p0.toInt ∧ p0.toInt ≤ 6) : wp (f_X9_placeOf   o_me p0 p1) (fun (y : Int32) => True) := by
  have li0 : (0 : Int32).toInt = 0 := by decide
  have li1 : (1 : Int32).toInt = 1 := by decide
  unfold f_X9_placeOf
  have lp1 : ∀ (N1 : Nat) (v1_1 : Int32) (v2_1 : Int32) (v3_1 : Int32) (v4_1 : Int32), (0 ≤ v1_1.toInt ∧ v1_1.toInt ≤ 6) → (0 ≤ v4_1.toInt ∧ v4_1.toInt ≤ 7) → (v1_1.toInt ≤ p0.toInt + 0) → (p0.toInt ≤ v1_1.toInt + 0) → (7 - v4_1.toInt).toNat < N1 → wp (lp_X9_placeOf_5 o_me  N1 (v1_1, v2_1, v3_1, v4_1)) (fun (y : Int32) => True) := by
    intro N1
    induction N1 with
    | zero =>
      intro v1_1 v2_1 v3_1 v4_1 hh1 hh2 hh3 hh4 hN1
      exact absurd hN1 (Nat.not_lt_zero _)
    | succ N1 ihx =>
      have ih1 := ihx
      intro v1_1 v2_1 v3_1 v4_1 hh1 hh2 hh3 hh4 hN1
      show wp (lb_X9_placeOf_5 o_me  (lp_X9_placeOf_5 o_me  N1) v1_1 v2_1 v3_1 v4_1) (fun (y : Int32) => True)
      unfold lb_X9_placeOf_5
      have t5 := iaX9_3_0 hI_me (j := (0 : Int32)) (by decide) (by decide)
      refine wp_if (fun c6 => ?_) (fun c6 => ?_)
      · have c6 := cv_ge (a := v4_1.toInt) (b := (gA o_me 3 (0 : Int32).toNatClampNeg).toInt) rfl rfl c6
        refine wp_some ?_
        exact trivial
      · have c6 := cv_nge (a := v4_1.toInt) (b := (gA o_me 3 (0 : Int32).toNatClampNeg).toInt) rfl rfl c6
        refine wp_if (fun c7 => ?_) (fun c7 => ?_)
        · have c7 := cv_eq (a := v4_1.toInt) (b := v1_1.toInt) rfl rfl c7
          unfold bk_X9_placeOf_84
          obtain ⟨w8, ew8⟩ : ∃ z : Int32, z = (0 : Int32) := ⟨_, rfl⟩
          have tw8 : w8.toInt = 0 := by rw [ew8]; decide
          rw [show bk_X9_placeOf_85 o_me (lp_X9_placeOf_5 o_me  N1) v1_1 v2_1 v4_1 (0 : Int32) v3_1 = bk_X9_placeOf_85 o_me (lp_X9_placeOf_5 o_me  N1) v1_1 v2_1 v4_1 w8 v3_1 from by rw [ew8]]
          unfold bk_X9_placeOf_85
          have rg10 := i32_rg v3_1
          have t9 : (v3_1 + w8).toInt = v3_1.toInt + w8.toInt := i32_add rfl rfl (by omega) (by omega)
          refine wp_lt (fun x11 ex11 => ?_)
          have tx11 : x11.toInt = (v3_1 + w8).toInt := by rw [ex11]
          refine wp_lt (fun x12 ex12 => ?_)
          have tx12 : x12.toInt = v4_1.toInt + 1 := by rw [ex12]; exact i32_add rfl (by decide) (by omega) (by omega)
          exact ih1 v1_1 v2_1 x11 x12  ⟨by omega, by omega⟩ ⟨by omega, by omega⟩ (by omega) (by omega) (by omega)
        · have c7 := cv_ne (a := v4_1.toInt) (b := v1_1.toInt) rfl rfl c7
          refine wp_bd (s_X9_is   v2_1 v4_1    ) (fun z13 hz13 => ?_)
          have hz13_0 := hz13
          refine wp_if (fun c14 => ?_) (fun c14 => ?_)
          · have c14 := cv_eq (a := z13.toInt) (b := 0) rfl (by decide) c14
            unfold bk_X9_placeOf_84
            obtain ⟨w15, ew15⟩ : ∃ z : Int32, z = (0 : Int32) := ⟨_, rfl⟩
            have tw15 : w15.toInt = 0 := by rw [ew15]; decide
            rw [show bk_X9_placeOf_85 o_me (lp_X9_placeOf_5 o_me  N1) v1_1 v2_1 v4_1 (0 : Int32) v3_1 = bk_X9_placeOf_85 o_me (lp_X9_placeOf_5 o_me  N1) v1_1 v2_1 v4_1 w15 v3_1 from by rw [ew15]]
            unfold bk_X9_placeOf_85
            have rg17 := i32_rg v3_1
            have t16 : (v3_1 + w15).toInt = v3_1.toInt + w15.toInt := i32_add rfl rfl (by omega) (by omega)
            refine wp_lt (fun x18 ex18 => ?_)
            have tx18 : x18.toInt = (v3_1 + w15).toInt := by rw [ex18]
            refine wp_lt (fun x19 ex19 => ?_)
            have tx19 : x19.toInt = v4_1.toInt + 1 := by rw [ex19]; exact i32_add rfl (by decide) (by omega) (by omega)
            exact ih1 v1_1 v2_1 x18 x19  ⟨by omega, by omega⟩ ⟨by omega, by omega⟩ (by omega) (by omega) (by omega)
          · have c14z := c14
            have c14 := cv_ne (a := z13.toInt) (b := 0) rfl (by decide) c14
            refine wp_gd (zin_of (m := 7) rfl (by omega) (by omega)) ?_
            refine wp_if (fun c20 => ?_) (fun c20 => ?_)
            · have c20 := cv_eq (a := (gA o_me 44 v4_1.toNatClampNeg).toInt) (b := 0) rfl (by decide) c20
              refine wp_gd (zin_of (m := 7) rfl (by omega) (by omega)) ?_
              refine wp_gd (zin_of (m := 7) rfl (by omega) (by omega)) ?_
              have rg22 := i32_rg (gA o_me 41 v4_1.toNatClampNeg)
              have rg23 := i32_rg (gA o_me 41 v1_1.toNatClampNeg)
              refine wp_if (fun c21 => ?_) (fun c21 => ?_)
              · have c21 := cv_gt (a := (gA o_me 41 v4_1.toNatClampNeg).toInt) (b := (gA o_me 41 v1_1.toNatClampNeg).toInt) rfl rfl c21
                unfold bk_X9_placeOf_80
                obtain ⟨w24, ew24⟩ : ∃ z : Int32, z = (1 : Int32) := ⟨_, rfl⟩
                have tw24 : w24.toInt = 1 := by rw [ew24]; decide
                rw [show bk_X9_placeOf_85 o_me (lp_X9_placeOf_5 o_me  N1) v1_1 v2_1 v4_1 (1 : Int32) v3_1 = bk_X9_placeOf_85 o_me (lp_X9_placeOf_5 o_me  N1) v1_1 v2_1 v4_1 w24 v3_1 from by rw [ew24]]
                unfold bk_X9_placeOf_85
                refine wp_lt (fun x25 ex25 => ?_)
                have tx25 : x25.toInt = (v3_1 + w24).toInt := by rw [ex25]
                refine wp_lt (fun x26 ex26 => ?_)
                have tx26 : x26.toInt = v4_1.toInt + 1 := by rw [ex26]; exact i32_add rfl (by decide) (by omega) (by omega)
                exact ih1 v1_1 v2_1 x25 x26  ⟨by omega, by omega⟩ ⟨by omega, by omega⟩ (by omega) (by omega) (by omega)
              · have c21 := cv_ngt (a := (gA o_me 41 v4_1.toNatClampNeg).toInt) (b := (gA o_me 41 v1_1.toNatClampNeg).toInt) rfl rfl c21
                refine wp_gd (zin_of (m := 7) rfl (by omega) (by omega)) ?_
                refine wp_gd (zin_of (m := 7) rfl (by omega) (by omega)) ?_
                refine wp_if (fun c27 => ?_) (fun c27 => ?_)
                · have c27 := cv_eq (a := (gA o_me 41 v4_1.toNatClampNeg).toInt) (b := (gA o_me 41 v1_1.toNatClampNeg).toInt) rfl rfl c27
                  refine wp_if (fun c28 => ?_) (fun c28 => ?_)
                  · have c28 := cv_ge (a := v4_1.toInt) (b := v1_1.toInt) rfl rfl c28
                    unfold bk_X9_placeOf_84
                    obtain ⟨w29, ew29⟩ : ∃ z : Int32, z = (0 : Int32) := ⟨_, rfl⟩
                    have tw29 : w29.toInt = 0 := by rw [ew29]; decide
                    rw [show bk_X9_placeOf_85 o_me (lp_X9_placeOf_5 o_me  N1) v1_1 v2_1 v4_1 (0 : Int32) v3_1 = bk_X9_placeOf_85 o_me (lp_X9_placeOf_5 o_me  N1) v1_1 v2_1 v4_1 w29 v3_1 from by rw [ew29]]
                    unfold bk_X9_placeOf_85
                    have rg31 := i32_rg v3_1
                    have t30 : (v3_1 + w29).toInt = v3_1.toInt + w29.toInt := i32_add rfl rfl (by omega) (by omega)
                    refine wp_lt (fun x32 ex32 => ?_)
                    have tx32 : x32.toInt = (v3_1 + w29).toInt := by rw [ex32]
                    refine wp_lt (fun x33 ex33 => ?_)
                    have tx33 : x33.toInt = v4_1.toInt + 1 := by rw [ex33]; exact i32_add rfl (by decide) (by omega) (by omega)
                    exact ih1 v1_1 v2_1 x32 x33  ⟨by omega, by omega⟩ ⟨by omega, by omega⟩ (by omega) (by omega) (by omega)
                  · have c28 := cv_nge (a := v4_1.toInt) (b := v1_1.toInt) rfl rfl c28
                    unfold bk_X9_placeOf_80
                    obtain ⟨w34, ew34⟩ : ∃ z : Int32, z = (1 : Int32) := ⟨_, rfl⟩
                    have tw34 : w34.toInt = 1 := by rw [ew34]; decide
                    rw [show bk_X9_placeOf_85 o_me (lp_X9_placeOf_5 o_me  N1) v1_1 v2_1 v4_1 (1 : Int32) v3_1 = bk_X9_placeOf_85 o_me (lp_X9_placeOf_5 o_me  N1) v1_1 v2_1 v4_1 w34 v3_1 from by rw [ew34]]
                    unfold bk_X9_placeOf_85
                    refine wp_lt (fun x35 ex35 => ?_)
                    have tx35 : x35.toInt = (v3_1 + w34).toInt := by rw [ex35]
                    refine wp_lt (fun x36 ex36 => ?_)
                    have tx36 : x36.toInt = v4_1.toInt + 1 := by rw [ex36]; exact i32_add rfl (by decide) (by omega) (by omega)
                    exact ih1 v1_1 v2_1 x35 x36  ⟨by omega, by omega⟩ ⟨by omega, by omega⟩ (by omega) (by omega) (by omega)
                · have c27 := cv_ne (a := (gA o_me 41 v4_1.toNatClampNeg).toInt) (b := (gA o_me 41 v1_1.toNatClampNeg).toInt) rfl rfl c27
                  unfold bk_X9_placeOf_84
                  obtain ⟨w37, ew37⟩ : ∃ z : Int32, z = (0 : Int32) := ⟨_, rfl⟩
                  have tw37 : w37.toInt = 0 := by rw [ew37]; decide
                  rw [show bk_X9_placeOf_85 o_me (lp_X9_placeOf_5 o_me  N1) v1_1 v2_1 v4_1 (0 : Int32) v3_1 = bk_X9_placeOf_85 o_me (lp_X9_placeOf_5 o_me  N1) v1_1 v2_1 v4_1 w37 v3_1 from by rw [ew37]]
                  unfold bk_X9_placeOf_85
                  have rg39 := i32_rg v3_1
                  have t38 : (v3_1 + w37).toInt = v3_1.toInt + w37.toInt := i32_add rfl rfl (by omega) (by omega)
                  refine wp_lt (fun x40 ex40 => ?_)
                  have tx40 : x40.toInt = (v3_1 + w37).toInt := by rw [ex40]
                  refine wp_lt (fun x41 ex41 => ?_)
                  have tx41 : x41.toInt = v4_1.toInt + 1 := by rw [ex41]; exact i32_add rfl (by decide) (by omega) (by omega)
                  exact ih1 v1_1 v2_1 x40 x41  ⟨by omega, by omega⟩ ⟨by omega, by omega⟩ (by omega) (by omega) (by omega)
            · have c20z := c20
              have c20 := cv_ne (a := (gA o_me 44 v4_1.toNatClampNeg).toInt) (b := 0) rfl (by decide) c20
              unfold bk_X9_placeOf_84
              obtain ⟨w42, ew42⟩ : ∃ z : Int32, z = (0 : Int32) := ⟨_, rfl⟩
              have tw42 : w42.toInt = 0 := by rw [ew42]; decide
              rw [show bk_X9_placeOf_85 o_me (lp_X9_placeOf_5 o_me  N1) v1_1 v2_1 v4_1 (0 : Int32) v3_1 = bk_X9_placeOf_85 o_me (lp_X9_placeOf_5 o_me  N1) v1_1 v2_1 v4_1 w42 v3_1 from by rw [ew42]]
              unfold bk_X9_placeOf_85
              have rg44 := i32_rg v3_1
              have t43 : (v3_1 + w42).toInt = v3_1.toInt + w42.toInt := i32_add rfl rfl (by omega) (by omega)
              refine wp_lt (fun x45 ex45 => ?_)
              have tx45 : x45.toInt = (v3_1 + w42).toInt := by rw [ex45]
              refine wp_lt (fun x46 ex46 => ?_)
              have tx46 : x46.toInt = v4_1.toInt + 1 := by rw [ex46]; exact i32_add rfl (by decide) (by omega) (by omega)
              exact ih1 v1_1 v2_1 x45 x46  ⟨by omega, by omega⟩ ⟨by omega, by omega⟩ (by omega) (by omega) (by omega)
  exact lp1 zfu p0 p1 (1 : Int32) (0 : Int32)  ⟨by omega, by omega⟩ ⟨by decide, by decide⟩ (by omega) (by omega) (by show _ < 100000; omega)

set_option maxHeartbeats 4000000 in
set_option maxRecDepth 100000 in
theorem s_X9_be (o_me : Ob) (p0 : Int32) (p1 : Int32) (p2 : Int32) (p3 : Int32) (hI_me : IvX9 o_me) (q0 : 0 ≤ (gI o_me 20).toInt ∧ (gI o_me 20).toInt ≤ 0) : wp (f_X9_be   o_me p0 p1 p2 p3) (fun (y : Int32 × Ob) => IvX9 y.2 ∧ Kp [8, 13, 14, 15, 16, 19, 20, 21, 23, 26, 29, 30, 43, 59, 62] [3, 7, 10, 12, 22, 24, 25, 27, 28, 42, 48, 50, 51, 55] [(3, (0 : Int32))] o_me y.2) := by
  have li0 : (-1 : Int32).toInt = (-1) := by decide
  have li1 : (0 : Int32).toInt = 0 := by decide
  have li2 : (0 : Int64).toInt = 0 := by decide
  have li3 : (1 : Int32).toInt = 1 := by decide
  have li4 : (1 : Int64).toInt = 1 := by decide
  have li5 : (100000000 : Int32).toInt = 100000000 := by decide
  have li6 : (7 : Int64).toInt = 7 := by decide
  unfold f_X9_be
  refine wp_lt (fun o1 eo1 => ?_)
  have hIo1 : IvX9 o1 := by rw [eo1]; exact hI_me
  have ko1_k2 : (gI o1 20).toInt = (gI o_me 20).toInt := by rw [eo1]; rfl
  have ko1_v : (gI o1 0).toInt = 0 := by rw [eo1]; exact (show ((0 : Int32)).toInt = _ from by decide)
  have hkpo1 : Kp [8, 13, 14, 15, 16, 19, 20, 21, 23, 26, 29, 30, 43, 59, 62] [3, 7, 10, 12, 22, 24, 25, 27, 28, 42, 48, 50, 51, 55] [(3, (0 : Int32))] o_me o1 := Kp.rf.trans (by rw [eo1]; exact Kp.sI (by decide))
  refine wp_bd (s_X9_isPerson   o1 p0  hIo1  ) (fun z3 hz3 => ?_)
  obtain ⟨hz3_0, hz3_1⟩ := hz3
  refine wp_if (fun c4 => ?_) (fun c4 => ?_)
  · have c4 := cv_eq (a := z3.toInt) (b := 0) rfl (by decide) c4
    refine wp_some ?_
    exact (show IvX9 o1 ∧ Kp [8, 13, 14, 15, 16, 19, 20, 21, 23, 26, 29, 30, 43, 59, 62] [3, 7, 10, 12, 22, 24, 25, 27, 28, 42, 48, 50, 51, 55] [(3, (0 : Int32))] o_me o1 from ⟨hIo1, hkpo1⟩)
  · have c4z := c4
    have c4i := hz3_1 c4
    have c4 := cv_ne (a := z3.toInt) (b := 0) rfl (by decide) c4
    refine wp_bd (s_X9_isRace   p1    ) (fun z5 hz5 => ?_)
    obtain ⟨hz5_0, hz5_1⟩ := hz5
    refine wp_if (fun c6 => ?_) (fun c6 => ?_)
    · have c6 := cv_eq (a := z5.toInt) (b := 0) rfl (by decide) c6
      refine wp_some ?_
      exact (show IvX9 o1 ∧ Kp [8, 13, 14, 15, 16, 19, 20, 21, 23, 26, 29, 30, 43, 59, 62] [3, 7, 10, 12, 22, 24, 25, 27, 28, 42, 48, 50, 51, 55] [(3, (0 : Int32))] o_me o1 from ⟨hIo1, hkpo1⟩)
    · have c6z := c6
      have c6i := hz5_1 c6
      have c6 := cv_ne (a := z5.toInt) (b := 0) rfl (by decide) c6
      have rg7 := i32_rg p2
      have t8 : p2.toInt64.toInt = p2.toInt := Int32.toInt_toInt64 _
      refine wp_bd (s_X9_in   p2.toInt64 (1 : Int64) (7 : Int64)    ) (fun z9 hz9 => ?_)
      obtain ⟨hz9_0, hz9_1⟩ := hz9
      refine wp_if (fun c10 => ?_) (fun c10 => ?_)
      · have c10 := cv_eq (a := z9.toInt) (b := 0) rfl (by decide) c10
        refine wp_some ?_
        exact (show IvX9 o1 ∧ Kp [8, 13, 14, 15, 16, 19, 20, 21, 23, 26, 29, 30, 43, 59, 62] [3, 7, 10, 12, 22, 24, 25, 27, 28, 42, 48, 50, 51, 55] [(3, (0 : Int32))] o_me o1 from ⟨hIo1, hkpo1⟩)
      · have c10z := c10
        have c10i := hz9_1 c10
        have c10 := cv_ne (a := z9.toInt) (b := 0) rfl (by decide) c10
        have rg11 := i32_rg p3
        have t12 : p3.toInt64.toInt = p3.toInt := Int32.toInt_toInt64 _
        refine wp_bd (s_X9_in   p3.toInt64 (0 : Int64) (1 : Int64)    ) (fun z13 hz13 => ?_)
        obtain ⟨hz13_0, hz13_1⟩ := hz13
        refine wp_if (fun c14 => ?_) (fun c14 => ?_)
        · have c14 := cv_eq (a := z13.toInt) (b := 0) rfl (by decide) c14
          refine wp_some ?_
          exact (show IvX9 o1 ∧ Kp [8, 13, 14, 15, 16, 19, 20, 21, 23, 26, 29, 30, 43, 59, 62] [3, 7, 10, 12, 22, 24, 25, 27, 28, 42, 48, 50, 51, 55] [(3, (0 : Int32))] o_me o1 from ⟨hIo1, hkpo1⟩)
        · have c14z := c14
          have c14i := hz13_1 c14
          have c14 := cv_ne (a := z13.toInt) (b := 0) rfl (by decide) c14
          refine wp_bd (s_X9_isBarred   o1 p0 p1  hIo1  ⟨by omega, by omega⟩ ⟨by omega, by omega⟩ ⟨by omega, by omega⟩) (fun z15 hz15 => ?_)
          obtain ⟨hz15_0, hz15_1, hz15_2⟩ := hz15
          have hkpz15_me : Kp [8, 13, 14, 15, 16, 19, 20, 21, 23, 26, 29, 30, 43, 59, 62] [3, 7, 10, 12, 22, 24, 25, 27, 28, 42, 48, 50, 51, 55] [(3, (0 : Int32))] o_me z15.2 := hkpo1.trans (hz15_2.mono (by decide) (by decide) (by decide))
          have kz15_k16 : (gI z15.2 20).toInt = (gI o1 20).toInt := congrArg Int32.toInt (hz15_2.1 20 (by decide))
          refine wp_if (fun c17 => ?_) (fun c17 => ?_)
          · have c17 := cv_eq (a := z15.1.toInt) (b := 0) rfl (by decide) c17
            refine wp_bd (s_X9_layRuns   z15.2 p1  hz15_1  ⟨by omega, by omega⟩ ⟨by omega, by omega⟩) (fun z18 hz18 => ?_)
            obtain ⟨hz18_0, hz18_1⟩ := hz18
            have hkpz18_me : Kp [8, 13, 14, 15, 16, 19, 20, 21, 23, 26, 29, 30, 43, 59, 62] [3, 7, 10, 12, 22, 24, 25, 27, 28, 42, 48, 50, 51, 55] [(3, (0 : Int32))] o_me z18 := hkpz15_me.trans (hz18_1.mono (by decide) (by decide) (by decide))
            have kz18_k19 : (gI z18 20).toInt = (gI z15.2 20).toInt := congrArg Int32.toInt (hz18_1.1 20 (by decide))
            refine wp_bd (s_X9_enteredBits   z18  hz18_0  ) (fun z20 hz20 => ?_)
            have lp1 : ∀ (N1 : Nat) (v1_1 : Int32) (v3_1 : Int32) (v4_1 : Int32) (v5_1 : Int32) (v6_1 : Int32) (v7_1 : Int32) (v8_1 : Int32) (o_me_1 : Ob), IvX9 o_me_1 → Kp [8, 13, 14, 15, 16, 19, 20, 21, 23, 26, 29, 30, 43, 59, 62] [3, 7, 10, 12, 22, 24, 25, 27, 28, 42, 48, 50, 51, 55] [(3, (0 : Int32))] o_me o_me_1 → (0 ≤ v1_1.toInt ∧ v1_1.toInt ≤ 6) → (1 ≤ v3_1.toInt ∧ v3_1.toInt ≤ 7) → (0 ≤ v4_1.toInt ∧ v4_1.toInt ≤ 1) → ((-1) ≤ v7_1.toInt ∧ v7_1.toInt ≤ 127) → (0 ≤ v8_1.toInt ∧ v8_1.toInt ≤ 128) → (0 ≤ (gI o_me_1 20).toInt ∧ (gI o_me_1 20).toInt ≤ 0) → (v7_1.toInt ≤ v8_1.toInt + (-1)) → (v1_1.toInt ≤ p0.toInt + 0) → (p0.toInt ≤ v1_1.toInt + 0) → (128 - v8_1.toInt).toNat < N1 → wp (lp_X9_be_76   N1 (v1_1, v3_1, v4_1, v5_1, v6_1, v7_1, v8_1, o_me_1)) (fun (y : Int32 × Ob) => IvX9 y.2 ∧ Kp [8, 13, 14, 15, 16, 19, 20, 21, 23, 26, 29, 30, 43, 59, 62] [3, 7, 10, 12, 22, 24, 25, 27, 28, 42, 48, 50, 51, 55] [(3, (0 : Int32))] o_me y.2) := by
              intro N1
              induction N1 with
              | zero =>
                intro v1_1 v3_1 v4_1 v5_1 v6_1 v7_1 v8_1 o_me_1 hI_me_1 hkp_me_1 hh22 hh23 hh24 hh25 hh26 hh27 hh28 hh29 hh30 hN1
                exact absurd hN1 (Nat.not_lt_zero _)
              | succ N1 ihx =>
                have ih1 := ihx
                intro v1_1 v3_1 v4_1 v5_1 v6_1 v7_1 v8_1 o_me_1 hI_me_1 hkp_me_1 hh22 hh23 hh24 hh25 hh26 hh27 hh28 hh29 hh30 hN1
                show wp (lb_X9_be_76   (lp_X9_be_76   N1) v1_1 v3_1 v4_1 v5_1 v6_1 v7_1 v8_1 o_me_1) (fun (y : Int32 × Ob) => IvX9 y.2 ∧ Kp [8, 13, 14, 15, 16, 19, 20, 21, 23, 26, 29, 30, 43, 59, 62] [3, 7, 10, 12, 22, 24, 25, 27, 28, 42, 48, 50, 51, 55] [(3, (0 : Int32))] o_me y.2)
                unfold lb_X9_be_76
                have kc31 : (gA o_me_1 3 (0 : Int32).toNatClampNeg).toInt = (gA o_me 3 (0 : Int32).toNatClampNeg).toInt := congrArg Int32.toInt (hkp_me_1.2.2 (3, (0 : Int32)) (by decide))
                have t32 := iaX9_3_0 hI_me_1 (j := (0 : Int32)) (by decide) (by decide)
                have t33 : 1 ≤ ((1 : Int32) <<< ((gA o_me_1 3 (0 : Int32).toNatClampNeg) &&& 31)).toInt ∧ ((1 : Int32) <<< ((gA o_me_1 3 (0 : Int32).toNatClampNeg) &&& 31)).toInt ≤ 128 := i32_shl7 (p := gA o_me_1 3 (0 : Int32).toNatClampNeg) (by omega) (by omega)
                refine wp_if (fun c34 => ?_) (fun c34 => ?_)
                · have c34 := cv_ge (a := v8_1.toInt) (b := ((1 : Int32) <<< ((gA o_me_1 3 (0 : Int32).toNatClampNeg) &&& 31)).toInt) rfl rfl c34
                  refine wp_if (fun c35 => ?_) (fun c35 => ?_)
                  · have c35 := cv_eq (a := v7_1.toInt) (b := (-1)) rfl (by decide) c35
                    unfold bk_X9_be_178
                    refine wp_some ?_
                    exact (show IvX9 o_me_1 ∧ Kp [8, 13, 14, 15, 16, 19, 20, 21, 23, 26, 29, 30, 43, 59, 62] [3, 7, 10, 12, 22, 24, 25, 27, 28, 42, 48, 50, 51, 55] [(3, (0 : Int32))] o_me o_me_1 from ⟨hI_me_1, hkp_me_1⟩)
                  · have c35 := cv_ne (a := v7_1.toInt) (b := (-1)) rfl (by decide) c35
                    refine wp_if (fun c36 => ?_) (fun c36 => ?_)
                    · have c36 := cv_eq (a := v4_1.toInt) (b := 1) rfl (by decide) c36
                      unfold bk_X9_be_178
                      refine wp_some ?_
                      exact (show IvX9 o_me_1 ∧ Kp [8, 13, 14, 15, 16, 19, 20, 21, 23, 26, 29, 30, 43, 59, 62] [3, 7, 10, 12, 22, 24, 25, 27, 28, 42, 48, 50, 51, 55] [(3, (0 : Int32))] o_me o_me_1 from ⟨hI_me_1, hkp_me_1⟩)
                    · have c36 := cv_ne (a := v4_1.toInt) (b := 1) rfl (by decide) c36
                      refine wp_some ?_
                      exact (show IvX9 o_me_1 ∧ Kp [8, 13, 14, 15, 16, 19, 20, 21, 23, 26, 29, 30, 43, 59, 62] [3, 7, 10, 12, 22, 24, 25, 27, 28, 42, 48, 50, 51, 55] [(3, (0 : Int32))] o_me o_me_1 from ⟨hI_me_1, hkp_me_1⟩)
                · have c34 := cv_nge (a := v8_1.toInt) (b := ((1 : Int32) <<< ((gA o_me_1 3 (0 : Int32).toNatClampNeg) &&& 31)).toInt) rfl rfl c34
                  refine wp_bd (s_X9_is   v8_1 v1_1    ) (fun z37 hz37 => ?_)
                  have hz37_0 := hz37
                  refine wp_if (fun c38 => ?_) (fun c38 => ?_)
                  · have c38 := cv_eq (a := z37.toInt) (b := 0) rfl (by decide) c38
                    refine wp_bd (s_X9_ones   v8_1    ) (fun z39 hz39 => ?_)
                    have rg41 := i32_rg z39
                    have rg42 := i32_rg v6_1
                    refine wp_if (fun c40 => ?_) (fun c40 => ?_)
                    · have c40 := cv_ge (a := z39.toInt) (b := v6_1.toInt) rfl rfl c40
                      unfold bk_X9_be_126
                      obtain ⟨w43, ew43⟩ : ∃ z : Int32, z = (0 : Int32) := ⟨_, rfl⟩
                      have tw43 : w43.toInt = 0 := by rw [ew43]; decide
                      rw [show bk_X9_be_127  (lp_X9_be_76   N1) v1_1 v3_1 v4_1 v5_1 v6_1 v7_1 v8_1 (0 : Int32) o_me_1 = bk_X9_be_127  (lp_X9_be_76   N1) v1_1 v3_1 v4_1 v5_1 v6_1 v7_1 v8_1 w43 o_me_1 from by rw [ew43]]
                      unfold bk_X9_be_127
                      refine wp_if (fun c44 => ?_) (fun c44 => ?_)
                      · have c44 := cv_eq (a := w43.toInt) (b := 0) rfl (by decide) c44
                        unfold bk_X9_be_141
                        refine wp_if (fun c45 => ?_) (fun c45 => ?_)
                        · have c45 := cv_eq (a := w43.toInt) (b := 0) rfl (by decide) c45
                          unfold bk_X9_be_158
                          refine wp_lt (fun x46 ex46 => ?_)
                          have tx46 : x46.toInt = v8_1.toInt + 1 := by rw [ex46]; exact i32_add rfl (by decide) (by omega) (by omega)
                          exact ih1 v1_1 v3_1 v4_1 v5_1 v6_1 v7_1 x46 o_me_1 hI_me_1 hkp_me_1 ⟨by omega, by omega⟩ ⟨by omega, by omega⟩ ⟨by omega, by omega⟩ ⟨by omega, by omega⟩ ⟨by omega, by omega⟩ ⟨by omega, by omega⟩ (by omega) (by omega) (by omega) (by omega)
                        · have c45z := c45
                          have c45 := cv_ne (a := w43.toInt) (b := 0) rfl (by decide) c45
                          exfalso; omega
                      · have c44z := c44
                        have c44 := cv_ne (a := w43.toInt) (b := 0) rfl (by decide) c44
                        exfalso; omega
                    · have c40 := cv_nge (a := z39.toInt) (b := v6_1.toInt) rfl rfl c40
                      refine wp_bd (s_X9_placeOf   o_me_1 v1_1 (v5_1 ^^^ v8_1)  hI_me_1  ⟨by omega, by omega⟩) (fun z47 hz47 => ?_)
                      have rg49 := i32_rg z47
                      refine wp_if (fun c48 => ?_) (fun c48 => ?_)
                      · have c48 := cv_eq (a := z47.toInt) (b := v3_1.toInt) rfl rfl c48
                        obtain ⟨w50, ew50⟩ : ∃ z : Int32, z = (1 : Int32) := ⟨_, rfl⟩
                        have tw50 : w50.toInt = 1 := by rw [ew50]; decide
                        rw [show bk_X9_be_127  (lp_X9_be_76   N1) v1_1 v3_1 v4_1 v5_1 v6_1 v7_1 v8_1 (1 : Int32) o_me_1 = bk_X9_be_127  (lp_X9_be_76   N1) v1_1 v3_1 v4_1 v5_1 v6_1 v7_1 v8_1 w50 o_me_1 from by rw [ew50]]
                        unfold bk_X9_be_127
                        refine wp_if (fun c51 => ?_) (fun c51 => ?_)
                        · have c51 := cv_eq (a := w50.toInt) (b := 0) rfl (by decide) c51
                          exfalso; omega
                        · have c51z := c51
                          have c51 := cv_ne (a := w50.toInt) (b := 0) rfl (by decide) c51
                          unfold bk_X9_be_141
                          refine wp_if (fun c52 => ?_) (fun c52 => ?_)
                          · have c52 := cv_eq (a := w50.toInt) (b := 0) rfl (by decide) c52
                            exfalso; omega
                          · have c52z := c52
                            have c52 := cv_ne (a := w50.toInt) (b := 0) rfl (by decide) c52
                            refine wp_bd (s_X9_ones   v8_1    ) (fun z53 hz53 => ?_)
                            unfold bk_X9_be_158
                            refine wp_lt (fun x54 ex54 => ?_)
                            have tx54 : x54.toInt = v8_1.toInt + 1 := by rw [ex54]; exact i32_add rfl (by decide) (by omega) (by omega)
                            exact ih1 v1_1 v3_1 v4_1 v5_1 z53 v8_1 x54 o_me_1 hI_me_1 hkp_me_1 ⟨by omega, by omega⟩ ⟨by omega, by omega⟩ ⟨by omega, by omega⟩ ⟨by omega, by omega⟩ ⟨by omega, by omega⟩ ⟨by omega, by omega⟩ (by omega) (by omega) (by omega) (by omega)
                      · have c48 := cv_ne (a := z47.toInt) (b := v3_1.toInt) rfl rfl c48
                        unfold bk_X9_be_126
                        obtain ⟨w55, ew55⟩ : ∃ z : Int32, z = (0 : Int32) := ⟨_, rfl⟩
                        have tw55 : w55.toInt = 0 := by rw [ew55]; decide
                        rw [show bk_X9_be_127  (lp_X9_be_76   N1) v1_1 v3_1 v4_1 v5_1 v6_1 v7_1 v8_1 (0 : Int32) o_me_1 = bk_X9_be_127  (lp_X9_be_76   N1) v1_1 v3_1 v4_1 v5_1 v6_1 v7_1 v8_1 w55 o_me_1 from by rw [ew55]]
                        unfold bk_X9_be_127
                        refine wp_if (fun c56 => ?_) (fun c56 => ?_)
                        · have c56 := cv_eq (a := w55.toInt) (b := 0) rfl (by decide) c56
                          unfold bk_X9_be_141
                          refine wp_if (fun c57 => ?_) (fun c57 => ?_)
                          · have c57 := cv_eq (a := w55.toInt) (b := 0) rfl (by decide) c57
                            unfold bk_X9_be_158
                            refine wp_lt (fun x58 ex58 => ?_)
                            have tx58 : x58.toInt = v8_1.toInt + 1 := by rw [ex58]; exact i32_add rfl (by decide) (by omega) (by omega)
                            exact ih1 v1_1 v3_1 v4_1 v5_1 v6_1 v7_1 x58 o_me_1 hI_me_1 hkp_me_1 ⟨by omega, by omega⟩ ⟨by omega, by omega⟩ ⟨by omega, by omega⟩ ⟨by omega, by omega⟩ ⟨by omega, by omega⟩ ⟨by omega, by omega⟩ (by omega) (by omega) (by omega) (by omega)
                          · have c57z := c57
                            have c57 := cv_ne (a := w55.toInt) (b := 0) rfl (by decide) c57
                            exfalso; omega
                        · have c56z := c56
                          have c56 := cv_ne (a := w55.toInt) (b := 0) rfl (by decide) c56
                          exfalso; omega
                  · have c38z := c38
                    have c38 := cv_ne (a := z37.toInt) (b := 0) rfl (by decide) c38
                    unfold bk_X9_be_126
                    obtain ⟨w59, ew59⟩ : ∃ z : Int32, z = (0 : Int32) := ⟨_, rfl⟩
                    have tw59 : w59.toInt = 0 := by rw [ew59]; decide
                    rw [show bk_X9_be_127  (lp_X9_be_76   N1) v1_1 v3_1 v4_1 v5_1 v6_1 v7_1 v8_1 (0 : Int32) o_me_1 = bk_X9_be_127  (lp_X9_be_76   N1) v1_1 v3_1 v4_1 v5_1 v6_1 v7_1 v8_1 w59 o_me_1 from by rw [ew59]]
                    unfold bk_X9_be_127
                    refine wp_if (fun c60 => ?_) (fun c60 => ?_)
                    · have c60 := cv_eq (a := w59.toInt) (b := 0) rfl (by decide) c60
                      unfold bk_X9_be_141
                      refine wp_if (fun c61 => ?_) (fun c61 => ?_)
                      · have c61 := cv_eq (a := w59.toInt) (b := 0) rfl (by decide) c61
                        unfold bk_X9_be_158
                        refine wp_lt (fun x62 ex62 => ?_)
                        have tx62 : x62.toInt = v8_1.toInt + 1 := by rw [ex62]; exact i32_add rfl (by decide) (by omega) (by omega)
                        exact ih1 v1_1 v3_1 v4_1 v5_1 v6_1 v7_1 x62 o_me_1 hI_me_1 hkp_me_1 ⟨by omega, by omega⟩ ⟨by omega, by omega⟩ ⟨by omega, by omega⟩ ⟨by omega, by omega⟩ ⟨by omega, by omega⟩ ⟨by omega, by omega⟩ (by omega) (by omega) (by omega) (by omega)
                      · have c61z := c61
                        have c61 := cv_ne (a := w59.toInt) (b := 0) rfl (by decide) c61
                        exfalso; omega
                    · have c60z := c60
                      have c60 := cv_ne (a := w59.toInt) (b := 0) rfl (by decide) c60
                      exfalso; omega
            exact lp1 zfu p0 p2 p3 z20 (100000000 : Int32) (-1 : Int32) (0 : Int32) z18 hz18_0 hkpz18_me ⟨by omega, by omega⟩ ⟨by omega, by omega⟩ ⟨by omega, by omega⟩ ⟨by decide, by decide⟩ ⟨by decide, by decide⟩ ⟨by omega, by omega⟩ (by omega) (by omega) (by omega) (by show _ < 100000; omega)
          · have c17z := c17
            have c17 := cv_ne (a := z15.1.toInt) (b := 0) rfl (by decide) c17
            refine wp_some ?_
            exact (show IvX9 z15.2 ∧ Kp [8, 13, 14, 15, 16, 19, 20, 21, 23, 26, 29, 30, 43, 59, 62] [3, 7, 10, 12, 22, 24, 25, 27, 28, 42, 48, 50, 51, 55] [(3, (0 : Int32))] o_me z15.2 from ⟨hz15_1, hkpz15_me⟩)

set_option maxHeartbeats 4000000 in
set_option maxRecDepth 100000 in
theorem s_X9_beats (o_me : Ob) (p0 : Int32) (p1 : Int32) (p2 : Int32) (hI_me : IvX9 o_me)  : wp (f_X9_beats   o_me p0 p1 p2) (fun (y : Int32 × Ob) => ((-6) ≤ y.1.toInt ∧ y.1.toInt ≤ 2147483647) ∧ IvX9 y.2 ∧ Kp [8, 13, 14, 15, 16, 19, 20, 21, 23, 26, 29, 30, 34, 38, 43, 59, 62] [7, 10, 12, 22, 24, 25, 27, 28, 42, 48, 50, 51, 55] [(3, (0 : Int32))] o_me y.2) := by
  have li0 : (-1 : Int32).toInt = (-1) := by decide
  have li1 : (-2 : Int32).toInt = (-2) := by decide
  have li2 : (0 : Int32).toInt = 0 := by decide
  have li3 : (0 : Int64).toInt = 0 := by decide
  have li4 : (1 : Int32).toInt = 1 := by decide
  have li5 : (1 : Int64).toInt = 1 := by decide
  have li6 : (64 : Int32).toInt = 64 := by decide
  unfold f_X9_beats
  refine wp_lt (fun o1 eo1 => ?_)
  have hIo1 : IvX9 o1 := by rw [eo1]; exact hI_me
  have ko1_v : (gI o1 0).toInt = 0 := by rw [eo1]; exact (show ((0 : Int32)).toInt = _ from by decide)
  have hkpo1 : Kp [8, 13, 14, 15, 16, 19, 20, 21, 23, 26, 29, 30, 34, 38, 43, 59, 62] [7, 10, 12, 22, 24, 25, 27, 28, 42, 48, 50, 51, 55] [(3, (0 : Int32))] o_me o1 := Kp.rf.trans (by rw [eo1]; exact Kp.sI (by decide))
  have rg3 := i32_rg p0
  have rg4 := i32_rg p1
  refine wp_if (fun c2 => ?_) (fun c2 => ?_)
  · have c2 := cv_eq (a := p0.toInt) (b := p1.toInt) rfl rfl c2
    unfold bk_X9_beats_20
    refine wp_bd (s_X9_tell   o1 (-1 : Int32)  hIo1  ⟨by decide, by decide⟩) (fun z5 hz5 => ?_)
    obtain ⟨hz5_0, hz5_1, hz5_2⟩ := hz5
    have hkpz5_me : Kp [8, 13, 14, 15, 16, 19, 20, 21, 23, 26, 29, 30, 34, 38, 43, 59, 62] [7, 10, 12, 22, 24, 25, 27, 28, 42, 48, 50, 51, 55] [(3, (0 : Int32))] o_me z5.2 := hkpo1.trans (hz5_2.mono (by decide) (by decide) (by decide))
    refine wp_some ?_
    have rg6 := i32_rg z5.1
    exact (show ((-6) ≤ z5.1.toInt ∧ z5.1.toInt ≤ 2147483647) ∧ IvX9 z5.2 ∧ Kp [8, 13, 14, 15, 16, 19, 20, 21, 23, 26, 29, 30, 34, 38, 43, 59, 62] [7, 10, 12, 22, 24, 25, 27, 28, 42, 48, 50, 51, 55] [(3, (0 : Int32))] o_me z5.2 from ⟨⟨by omega, by omega⟩, hz5_1, hkpz5_me⟩)
  · have c2 := cv_ne (a := p0.toInt) (b := p1.toInt) rfl rfl c2
    have rg7 := i32_rg p2
    have t8 : p2.toInt64.toInt = p2.toInt := Int32.toInt_toInt64 _
    refine wp_bd (s_X9_in   p2.toInt64 (0 : Int64) (1 : Int64)    ) (fun z9 hz9 => ?_)
    obtain ⟨hz9_0, hz9_1⟩ := hz9
    refine wp_if (fun c10 => ?_) (fun c10 => ?_)
    · have c10 := cv_eq (a := z9.toInt) (b := 0) rfl (by decide) c10
      unfold bk_X9_beats_20
      refine wp_bd (s_X9_tell   o1 (-1 : Int32)  hIo1  ⟨by decide, by decide⟩) (fun z11 hz11 => ?_)
      obtain ⟨hz11_0, hz11_1, hz11_2⟩ := hz11
      have hkpz11_me : Kp [8, 13, 14, 15, 16, 19, 20, 21, 23, 26, 29, 30, 34, 38, 43, 59, 62] [7, 10, 12, 22, 24, 25, 27, 28, 42, 48, 50, 51, 55] [(3, (0 : Int32))] o_me z11.2 := hkpo1.trans (hz11_2.mono (by decide) (by decide) (by decide))
      refine wp_some ?_
      have rg12 := i32_rg z11.1
      exact (show ((-6) ≤ z11.1.toInt ∧ z11.1.toInt ≤ 2147483647) ∧ IvX9 z11.2 ∧ Kp [8, 13, 14, 15, 16, 19, 20, 21, 23, 26, 29, 30, 34, 38, 43, 59, 62] [7, 10, 12, 22, 24, 25, 27, 28, 42, 48, 50, 51, 55] [(3, (0 : Int32))] o_me z11.2 from ⟨⟨by omega, by omega⟩, hz11_1, hkpz11_me⟩)
    · have c10z := c10
      have c10i := hz9_1 c10
      have c10 := cv_ne (a := z9.toInt) (b := 0) rfl (by decide) c10
      refine wp_bd (s_X9_isPerson   o1 p0  hIo1  ) (fun z13 hz13 => ?_)
      obtain ⟨hz13_0, hz13_1⟩ := hz13
      refine wp_if (fun c14 => ?_) (fun c14 => ?_)
      · have c14 := cv_eq (a := z13.toInt) (b := 0) rfl (by decide) c14
        unfold bk_X9_beats_42
        refine wp_bd (s_X9_tell   o1 (-2 : Int32)  hIo1  ⟨by decide, by decide⟩) (fun z15 hz15 => ?_)
        obtain ⟨hz15_0, hz15_1, hz15_2⟩ := hz15
        have hkpz15_me : Kp [8, 13, 14, 15, 16, 19, 20, 21, 23, 26, 29, 30, 34, 38, 43, 59, 62] [7, 10, 12, 22, 24, 25, 27, 28, 42, 48, 50, 51, 55] [(3, (0 : Int32))] o_me z15.2 := hkpo1.trans (hz15_2.mono (by decide) (by decide) (by decide))
        refine wp_some ?_
        have rg16 := i32_rg z15.1
        exact (show ((-6) ≤ z15.1.toInt ∧ z15.1.toInt ≤ 2147483647) ∧ IvX9 z15.2 ∧ Kp [8, 13, 14, 15, 16, 19, 20, 21, 23, 26, 29, 30, 34, 38, 43, 59, 62] [7, 10, 12, 22, 24, 25, 27, 28, 42, 48, 50, 51, 55] [(3, (0 : Int32))] o_me z15.2 from ⟨⟨by omega, by omega⟩, hz15_1, hkpz15_me⟩)
      · have c14z := c14
        have c14i := hz13_1 c14
        have c14 := cv_ne (a := z13.toInt) (b := 0) rfl (by decide) c14
        refine wp_bd (s_X9_isPerson   o1 p1  hIo1  ) (fun z17 hz17 => ?_)
        obtain ⟨hz17_0, hz17_1⟩ := hz17
        refine wp_if (fun c18 => ?_) (fun c18 => ?_)
        · have c18 := cv_eq (a := z17.toInt) (b := 0) rfl (by decide) c18
          unfold bk_X9_beats_42
          refine wp_bd (s_X9_tell   o1 (-2 : Int32)  hIo1  ⟨by decide, by decide⟩) (fun z19 hz19 => ?_)
          obtain ⟨hz19_0, hz19_1, hz19_2⟩ := hz19
          have hkpz19_me : Kp [8, 13, 14, 15, 16, 19, 20, 21, 23, 26, 29, 30, 34, 38, 43, 59, 62] [7, 10, 12, 22, 24, 25, 27, 28, 42, 48, 50, 51, 55] [(3, (0 : Int32))] o_me z19.2 := hkpo1.trans (hz19_2.mono (by decide) (by decide) (by decide))
          refine wp_some ?_
          have rg20 := i32_rg z19.1
          exact (show ((-6) ≤ z19.1.toInt ∧ z19.1.toInt ≤ 2147483647) ∧ IvX9 z19.2 ∧ Kp [8, 13, 14, 15, 16, 19, 20, 21, 23, 26, 29, 30, 34, 38, 43, 59, 62] [7, 10, 12, 22, 24, 25, 27, 28, 42, 48, 50, 51, 55] [(3, (0 : Int32))] o_me z19.2 from ⟨⟨by omega, by omega⟩, hz19_1, hkpz19_me⟩)
        · have c18z := c18
          have c18i := hz17_1 c18
          have c18 := cv_ne (a := z17.toInt) (b := 0) rfl (by decide) c18
          have t21 : ((64 : Int32) + p0).toInt = 64 + p0.toInt := i32_add (by decide) rfl (by omega) (by omega)
          refine wp_gd (zin_of (m := 5484) rfl (by omega) (by omega)) ?_
          have t22 := i32_and (x := (gA o1 3 ((64 : Int32) + p0).toNatClampNeg) >>> (p1 &&& 31)) (y := (1 : Int32)) (m := 1) ⟨by decide, by decide⟩
          refine wp_lt (fun x23 ex23 => ?_)
          have tx23 : x23.toInt = (((gA o1 3 ((64 : Int32) + p0).toNatClampNeg) >>> (p1 &&& 31)) &&& (1 : Int32)).toInt := by rw [ex23]
          refine wp_lt (fun x24 ex24 => ?_)
          have tx24 : x24.toInt = ((64 : Int32) + p0).toInt := by rw [ex24]
          refine wp_gd (zin_of (m := 5484) rfl (by omega) (by omega)) ?_
          refine wp_if (fun c25 => ?_) (fun c25 => ?_)
          · have c25 := cv_eq (a := x23.toInt) (b := p2.toInt) rfl rfl c25
            obtain ⟨w26, ew26⟩ : ∃ z : Int32, z = (0 : Int32) := ⟨_, rfl⟩
            have tw26 : w26.toInt = 0 := by rw [ew26]; decide
            obtain ⟨w27, ew27⟩ : ∃ z : Int32, z = gA o1 3 x24.toNatClampNeg := ⟨_, rfl⟩
            have tw27 : w27.toInt = (gA o1 3 x24.toNatClampNeg).toInt := by rw [ew27]
            rw [show bk_X9_beats_87   x23 (0 : Int32) (gA o1 3 x24.toNatClampNeg) x24 o1 = bk_X9_beats_87   x23 w26 w27 x24 o1 from by rw [ew26, ew27]]
            unfold bk_X9_beats_87
            refine wp_gd (zin_of (m := 5484) rfl (by omega) (by omega)) ?_
            refine wp_lt (fun o28 eo28 => ?_)
            have hIo28 : IvX9 o28 := by rw [eo28]; exact ibX9_3 hIo1 (by omega) (by omega) (Or.inr (Or.inl (by first | omega | decide))) (Or.inr (Or.inl (by first | omega | decide))) (Or.inr (Or.inl (by first | omega | decide))) (Or.inr (Or.inl (by first | omega | decide))) (Or.inr (Or.inl (by first | omega | decide))) (Or.inr (Or.inl (by first | omega | decide))) (Or.inr (Or.inl (by first | omega | decide))) (Or.inr (Or.inl (by first | omega | decide))) (Or.inl (by first | omega | decide))
            have ko28_k29 : (gI o28 0).toInt = (gI o1 0).toInt := by rw [eo28]; rfl
            have ko28_v : (gA o28 3 x24.toNatClampNeg).toInt = (w27 ^^^ w26).toInt := by rw [eo28]; exact congrArg Int32.toInt (upd_eq (g := gA o1 3) (i := x24) (v := (w27 ^^^ w26)))
            have hkpo28 : Kp [8, 13, 14, 15, 16, 19, 20, 21, 23, 26, 29, 30, 34, 38, 43, 59, 62] [7, 10, 12, 22, 24, 25, 27, 28, 42, 48, 50, 51, 55] [(3, (0 : Int32))] o_me o28 := hkpo1.trans (by rw [eo28]; exact kp_tA0 (by decide) (by omega))
            have rg31 := i32_rg x23
            refine wp_bd (s_X9_tell   o28 x23  hIo28  ⟨by omega, by omega⟩) (fun z30 hz30 => ?_)
            obtain ⟨hz30_0, hz30_1, hz30_2⟩ := hz30
            have hkpz30_me : Kp [8, 13, 14, 15, 16, 19, 20, 21, 23, 26, 29, 30, 34, 38, 43, 59, 62] [7, 10, 12, 22, 24, 25, 27, 28, 42, 48, 50, 51, 55] [(3, (0 : Int32))] o_me z30.2 := hkpo28.trans (hz30_2.mono (by decide) (by decide) (by decide))
            have kz30_k32 : (gA z30.2 3 x24.toNatClampNeg).toInt = (gA o28 3 x24.toNatClampNeg).toInt := congrArg (fun g => (g x24.toNatClampNeg).toInt) (hz30_2.2.1 3 (by decide))
            refine wp_some ?_
            have rg33 := i32_rg z30.1
            exact (show ((-6) ≤ z30.1.toInt ∧ z30.1.toInt ≤ 2147483647) ∧ IvX9 z30.2 ∧ Kp [8, 13, 14, 15, 16, 19, 20, 21, 23, 26, 29, 30, 34, 38, 43, 59, 62] [7, 10, 12, 22, 24, 25, 27, 28, 42, 48, 50, 51, 55] [(3, (0 : Int32))] o_me z30.2 from ⟨⟨by omega, by omega⟩, hz30_1, hkpz30_me⟩)
          · have c25 := cv_ne (a := x23.toInt) (b := p2.toInt) rfl rfl c25
            have t34 : 1 ≤ ((1 : Int32) <<< (p1 &&& 31)).toInt ∧ ((1 : Int32) <<< (p1 &&& 31)).toInt ≤ 64 := i32_shl6 (p := p1) (by omega) (by omega)
            obtain ⟨w35, ew35⟩ : ∃ z : Int32, z = (1 : Int32) <<< (p1 &&& 31) := ⟨_, rfl⟩
            have tw35 : w35.toInt = ((1 : Int32) <<< (p1 &&& 31)).toInt := by rw [ew35]
            obtain ⟨w36, ew36⟩ : ∃ z : Int32, z = gA o1 3 x24.toNatClampNeg := ⟨_, rfl⟩
            have tw36 : w36.toInt = (gA o1 3 x24.toNatClampNeg).toInt := by rw [ew36]
            rw [show bk_X9_beats_87   x23 ((1 : Int32) <<< (p1 &&& 31)) (gA o1 3 x24.toNatClampNeg) x24 o1 = bk_X9_beats_87   x23 w35 w36 x24 o1 from by rw [ew35, ew36]]
            unfold bk_X9_beats_87
            refine wp_gd (zin_of (m := 5484) rfl (by omega) (by omega)) ?_
            refine wp_lt (fun o37 eo37 => ?_)
            have hIo37 : IvX9 o37 := by rw [eo37]; exact ibX9_3 hIo1 (by omega) (by omega) (Or.inr (Or.inl (by first | omega | decide))) (Or.inr (Or.inl (by first | omega | decide))) (Or.inr (Or.inl (by first | omega | decide))) (Or.inr (Or.inl (by first | omega | decide))) (Or.inr (Or.inl (by first | omega | decide))) (Or.inr (Or.inl (by first | omega | decide))) (Or.inr (Or.inl (by first | omega | decide))) (Or.inr (Or.inl (by first | omega | decide))) (Or.inl (by first | omega | decide))
            have ko37_k38 : (gI o37 0).toInt = (gI o1 0).toInt := by rw [eo37]; rfl
            have ko37_v : (gA o37 3 x24.toNatClampNeg).toInt = (w36 ^^^ w35).toInt := by rw [eo37]; exact congrArg Int32.toInt (upd_eq (g := gA o1 3) (i := x24) (v := (w36 ^^^ w35)))
            have hkpo37 : Kp [8, 13, 14, 15, 16, 19, 20, 21, 23, 26, 29, 30, 34, 38, 43, 59, 62] [7, 10, 12, 22, 24, 25, 27, 28, 42, 48, 50, 51, 55] [(3, (0 : Int32))] o_me o37 := hkpo1.trans (by rw [eo37]; exact kp_tA0 (by decide) (by omega))
            have rg40 := i32_rg x23
            refine wp_bd (s_X9_tell   o37 x23  hIo37  ⟨by omega, by omega⟩) (fun z39 hz39 => ?_)
            obtain ⟨hz39_0, hz39_1, hz39_2⟩ := hz39
            have hkpz39_me : Kp [8, 13, 14, 15, 16, 19, 20, 21, 23, 26, 29, 30, 34, 38, 43, 59, 62] [7, 10, 12, 22, 24, 25, 27, 28, 42, 48, 50, 51, 55] [(3, (0 : Int32))] o_me z39.2 := hkpo37.trans (hz39_2.mono (by decide) (by decide) (by decide))
            have kz39_k41 : (gA z39.2 3 x24.toNatClampNeg).toInt = (gA o37 3 x24.toNatClampNeg).toInt := congrArg (fun g => (g x24.toNatClampNeg).toInt) (hz39_2.2.1 3 (by decide))
            refine wp_some ?_
            have rg42 := i32_rg z39.1
            exact (show ((-6) ≤ z39.1.toInt ∧ z39.1.toInt ≤ 2147483647) ∧ IvX9 z39.2 ∧ Kp [8, 13, 14, 15, 16, 19, 20, 21, 23, 26, 29, 30, 34, 38, 43, 59, 62] [7, 10, 12, 22, 24, 25, 27, 28, 42, 48, 50, 51, 55] [(3, (0 : Int32))] o_me z39.2 from ⟨⟨by omega, by omega⟩, hz39_1, hkpz39_me⟩)

set_option maxHeartbeats 4000000 in
set_option maxRecDepth 100000 in
theorem s_X9_isSmall (p0 : Int32)   : wp (f_X9_isSmall   p0) (fun (y : Int32) => (0 ≤ y.toInt ∧ y.toInt ≤ 1)) := by
  have li0 : (0 : Int32).toInt = 0 := by decide
  have li1 : (1 : Int32).toInt = 1 := by decide
  have li2 : (122 : Int32).toInt = 122 := by decide
  have li3 : (97 : Int32).toInt = 97 := by decide
  unfold f_X9_isSmall
  refine wp_if (fun c1 => ?_) (fun c1 => ?_)
  · have c1 := cv_lt (a := p0.toInt) (b := 97) rfl (by decide) c1
    refine wp_some ?_
    exact (show (0 ≤ (0 : Int32).toInt ∧ (0 : Int32).toInt ≤ 1) from ⟨by decide, by decide⟩)
  · have c1 := cv_nlt (a := p0.toInt) (b := 97) rfl (by decide) c1
    refine wp_if (fun c2 => ?_) (fun c2 => ?_)
    · have c2 := cv_gt (a := p0.toInt) (b := 122) rfl (by decide) c2
      refine wp_some ?_
      exact (show (0 ≤ (0 : Int32).toInt ∧ (0 : Int32).toInt ≤ 1) from ⟨by decide, by decide⟩)
    · have c2 := cv_ngt (a := p0.toInt) (b := 122) rfl (by decide) c2
      refine wp_some ?_
      exact (show (0 ≤ (1 : Int32).toInt ∧ (1 : Int32).toInt ≤ 1) from ⟨by decide, by decide⟩)

set_option maxHeartbeats 4000000 in
set_option maxRecDepth 100000 in
theorem s_X9_isDigit (p0 : Int32)   : wp (f_X9_isDigit   p0) (fun (y : Int32) => (0 ≤ y.toInt ∧ y.toInt ≤ 1)) := by
  have li0 : (0 : Int32).toInt = 0 := by decide
  have li1 : (1 : Int32).toInt = 1 := by decide
  have li2 : (48 : Int32).toInt = 48 := by decide
  have li3 : (57 : Int32).toInt = 57 := by decide
  unfold f_X9_isDigit
  refine wp_if (fun c1 => ?_) (fun c1 => ?_)
  · have c1 := cv_lt (a := p0.toInt) (b := 48) rfl (by decide) c1
    refine wp_some ?_
    exact (show (0 ≤ (0 : Int32).toInt ∧ (0 : Int32).toInt ≤ 1) from ⟨by decide, by decide⟩)
  · have c1 := cv_nlt (a := p0.toInt) (b := 48) rfl (by decide) c1
    refine wp_if (fun c2 => ?_) (fun c2 => ?_)
    · have c2 := cv_gt (a := p0.toInt) (b := 57) rfl (by decide) c2
      refine wp_some ?_
      exact (show (0 ≤ (0 : Int32).toInt ∧ (0 : Int32).toInt ≤ 1) from ⟨by decide, by decide⟩)
    · have c2 := cv_ngt (a := p0.toInt) (b := 57) rfl (by decide) c2
      refine wp_some ?_
      exact (show (0 ≤ (1 : Int32).toInt ∧ (1 : Int32).toInt ≤ 1) from ⟨by decide, by decide⟩)

set_option maxHeartbeats 4000000 in
set_option maxRecDepth 100000 in
theorem s_X9_next (o_me : Ob) (hI_me : IvX9 o_me) (r0 : (gI o_me 15).toInt ≤ (gI o_me 13).toInt + 0) : wp (f_X9_next   o_me) (fun (y : Ob) => IvX9 y ∧ Kp [8, 13, 19, 20, 21, 23, 26, 29, 30, 34, 38, 43, 59, 62] [3, 7, 10, 12, 22, 24, 25, 27, 28, 42, 48, 50, 51, 55] [(3, (0 : Int32))] o_me y ∧ ((gI y 15).toInt ≤ (gI y 13).toInt + 0)) := by
  have li0 : (-1 : Int64).toInt = (-1) := by decide
  have li1 : (0 : Int32).toInt = 0 := by decide
  have li2 : (0 : Int64).toInt = 0 := by decide
  have li3 : (1 : Int32).toInt = 1 := by decide
  have li4 : (10 : Int32).toInt = 10 := by decide
  have li5 : (10 : Int64).toInt = 10 := by decide
  have li6 : (1000000 : Int64).toInt = 1000000 := by decide
  have li7 : (2 : Int32).toInt = 2 := by decide
  have li8 : (3 : Int32).toInt = 3 := by decide
  have li9 : (32 : Int32).toInt = 32 := by decide
  have li10 : (32 : Int64).toInt = 32 := by decide
  have li11 : (48 : Int64).toInt = 48 := by decide
  have li12 : (96 : Int64).toInt = 96 := by decide
  unfold f_X9_next
  have t1 := igX9_15 hI_me
  refine wp_lt (fun o2 eo2 => ?_)
  have hIo2 : IvX9 o2 := by rw [eo2]; exact ipX9_14 hI_me ⟨by omega, by omega⟩
  have ko2_k3 : (gI o2 13).toInt = (gI o_me 13).toInt := by rw [eo2]; rfl
  have ko2_k4 : (gI o2 15).toInt = (gI o_me 15).toInt := by rw [eo2]; rfl
  have ko2_v : (gI o2 14).toInt = (gI o_me 15).toInt := by rw [eo2]; rfl
  have hkpo2 : Kp [8, 13, 19, 20, 21, 23, 26, 29, 30, 34, 38, 43, 59, 62] [3, 7, 10, 12, 22, 24, 25, 27, 28, 42, 48, 50, 51, 55] [(3, (0 : Int32))] o_me o2 := Kp.rf.trans (by rw [eo2]; exact Kp.sI (by decide))
  have t5 := igX9_13 hIo2
  have t6 := igX9_16 hIo2
  have lp1 : ∀ (N1 : Nat) (o_me_1 : Ob), IvX9 o_me_1 → Kp [8, 13, 19, 20, 21, 23, 26, 29, 30, 34, 38, 43, 59, 62] [3, 7, 10, 12, 22, 24, 25, 27, 28, 42, 48, 50, 51, 55] [(3, (0 : Int32))] o_me o_me_1 → (0 ≤ (gI o_me_1 13).toInt ∧ (gI o_me_1 13).toInt ≤ 400) → (0 ≤ (gI o_me_1 14).toInt ∧ (gI o_me_1 14).toInt ≤ 400) → (0 ≤ (gI o_me_1 15).toInt ∧ (gI o_me_1 15).toInt ≤ 400) → (0 ≤ (gI o_me_1 16).toInt ∧ (gI o_me_1 16).toInt ≤ 3) → ((gI o_me_1 14).toInt ≤ (gI o_me_1 13).toInt + 0) → ((gI o_me_1 15).toInt ≤ (gI o_me_1 13).toInt + 0) → ((gI o_me_1 15).toInt ≤ (gI o_me_1 14).toInt + 0) → (400 - (gI o_me_1 14).toInt).toNat < N1 → wp (lp_X9_next_8   N1 o_me_1) (fun (y : Ob) => IvX9 y ∧ Kp [8, 13, 19, 20, 21, 23, 26, 29, 30, 34, 38, 43, 59, 62] [3, 7, 10, 12, 22, 24, 25, 27, 28, 42, 48, 50, 51, 55] [(3, (0 : Int32))] o_me y ∧ ((gI y 15).toInt ≤ (gI y 13).toInt + 0)) := by
    intro N1
    induction N1 with
    | zero =>
      intro o_me_1 hI_me_1 hkp_me_1 hh11 hh12 hh13 hh14 hh15 hh16 hh17 hN1
      exact absurd hN1 (Nat.not_lt_zero _)
    | succ N1 ihx =>
      have ih1 := ihx
      intro o_me_1 hI_me_1 hkp_me_1 hh11 hh12 hh13 hh14 hh15 hh16 hh17 hN1
      show wp (lb_X9_next_8   (lp_X9_next_8   N1) o_me_1) (fun (y : Ob) => IvX9 y ∧ Kp [8, 13, 19, 20, 21, 23, 26, 29, 30, 34, 38, 43, 59, 62] [3, 7, 10, 12, 22, 24, 25, 27, 28, 42, 48, 50, 51, 55] [(3, (0 : Int32))] o_me y ∧ ((gI y 15).toInt ≤ (gI y 13).toInt + 0))
      unfold lb_X9_next_8
      refine wp_if (fun c18 => ?_) (fun c18 => ?_)
      · have c18 := cv_ge (a := (gI o_me_1 14).toInt) (b := (gI o_me_1 13).toInt) rfl rfl c18
        unfold bk_X9_next_46
        refine wp_lt (fun o19 eo19 => ?_)
        have hIo19 : IvX9 o19 := by rw [eo19]; exact ipX9_15 hI_me_1 ⟨by omega, by omega⟩
        have ko19_k20 : (gI o19 13).toInt = (gI o_me_1 13).toInt := by rw [eo19]; rfl
        have ko19_k21 : (gI o19 14).toInt = (gI o_me_1 14).toInt := by rw [eo19]; rfl
        have ko19_k22 : (gI o19 16).toInt = (gI o_me_1 16).toInt := by rw [eo19]; rfl
        have ko19_v : (gI o19 15).toInt = (gI o_me_1 14).toInt := by rw [eo19]; rfl
        have hkpo19 : Kp [8, 13, 19, 20, 21, 23, 26, 29, 30, 34, 38, 43, 59, 62] [3, 7, 10, 12, 22, 24, 25, 27, 28, 42, 48, 50, 51, 55] [(3, (0 : Int32))] o_me o19 := hkp_me_1.trans (by rw [eo19]; exact Kp.sI (by decide))
        refine wp_lt (fun o23 eo23 => ?_)
        have hIo23 : IvX9 o23 := by rw [eo23]; exact hIo19
        have ko23_k24 : (gI o23 13).toInt = (gI o19 13).toInt := by rw [eo23]; rfl
        have ko23_k25 : (gI o23 14).toInt = (gI o19 14).toInt := by rw [eo23]; rfl
        have ko23_k26 : (gI o23 15).toInt = (gI o19 15).toInt := by rw [eo23]; rfl
        have ko23_k27 : (gI o23 16).toInt = (gI o19 16).toInt := by rw [eo23]; rfl
        have ko23_v : (gL o23 17).toInt = 0 := by rw [eo23]; exact (show ((0 : Int64)).toInt = _ from by decide)
        have hkpo23 : Kp [8, 13, 19, 20, 21, 23, 26, 29, 30, 34, 38, 43, 59, 62] [3, 7, 10, 12, 22, 24, 25, 27, 28, 42, 48, 50, 51, 55] [(3, (0 : Int32))] o_me o23 := hkpo19.trans (by rw [eo23]; exact Kp.sL)
        refine wp_if (fun c28 => ?_) (fun c28 => ?_)
        · have c28 := cv_eq (a := (gI o23 14).toInt) (b := (gI o23 13).toInt) rfl rfl c28
          obtain ⟨w29, ew29⟩ : ∃ z : Int32, z = (0 : Int32) := ⟨_, rfl⟩
          have tw29 : w29.toInt = 0 := by rw [ew29]; decide
          rw [show bk_X9_next_114   (0 : Int32) o23 = bk_X9_next_114   w29 o23 from by rw [ew29]]
          unfold bk_X9_next_114
          refine wp_lt (fun o30 eo30 => ?_)
          have hIo30 : IvX9 o30 := by rw [eo30]; exact ipX9_16 hIo23 ⟨by omega, by omega⟩
          have ko30_k31 : (gI o30 13).toInt = (gI o23 13).toInt := by rw [eo30]; rfl
          have ko30_k32 : (gI o30 14).toInt = (gI o23 14).toInt := by rw [eo30]; rfl
          have ko30_k33 : (gI o30 15).toInt = (gI o23 15).toInt := by rw [eo30]; rfl
          have ko30_k34 : (gL o30 17).toInt = (gL o23 17).toInt := by rw [eo30]; rfl
          have ko30_v : (gI o30 16).toInt = w29.toInt := by rw [eo30]; rfl
          have hkpo30 : Kp [8, 13, 19, 20, 21, 23, 26, 29, 30, 34, 38, 43, 59, 62] [3, 7, 10, 12, 22, 24, 25, 27, 28, 42, 48, 50, 51, 55] [(3, (0 : Int32))] o_me o30 := hkpo23.trans (by rw [eo30]; exact Kp.sI (by decide))
          refine wp_if (fun c35 => ?_) (fun c35 => ?_)
          · have c35 := cv_eq (a := (gI o30 16).toInt) (b := 3) rfl (by decide) c35
            exfalso; omega
          · have c35 := cv_ne (a := (gI o30 16).toInt) (b := 3) rfl (by decide) c35
            have lp2 : ∀ (N2 : Nat) (o_me_2 : Ob), IvX9 o_me_2 → Kp [8, 13, 19, 20, 21, 23, 26, 29, 30, 34, 38, 43, 59, 62] [3, 7, 10, 12, 22, 24, 25, 27, 28, 42, 48, 50, 51, 55] [(3, (0 : Int32))] o_me o_me_2 → (0 ≤ (gI o_me_2 13).toInt ∧ (gI o_me_2 13).toInt ≤ 400) → (0 ≤ (gI o_me_2 14).toInt ∧ (gI o_me_2 14).toInt ≤ 400) → (0 ≤ (gI o_me_2 15).toInt ∧ (gI o_me_2 15).toInt ≤ 400) → (0 ≤ (gI o_me_2 16).toInt ∧ (gI o_me_2 16).toInt ≤ 0) → ((gI o_me_2 13).toInt ≤ (gI o_me_2 14).toInt + 0) → ((gI o_me_2 13).toInt ≤ (gI o_me_2 15).toInt + 0) → ((gI o_me_2 14).toInt ≤ (gI o_me_2 13).toInt + 0) → ((gI o_me_2 14).toInt ≤ (gI o_me_2 15).toInt + 0) → ((gI o_me_2 15).toInt ≤ (gI o_me_2 13).toInt + 0) → ((gI o_me_2 15).toInt ≤ (gI o_me_2 14).toInt + 0) → (400 - (gI o_me_2 13).toInt).toNat < N2 → wp (lp_X9_next_149   N2 o_me_2) (fun (y : Ob) => IvX9 y ∧ Kp [8, 13, 19, 20, 21, 23, 26, 29, 30, 34, 38, 43, 59, 62] [3, 7, 10, 12, 22, 24, 25, 27, 28, 42, 48, 50, 51, 55] [(3, (0 : Int32))] o_me y ∧ ((gI y 15).toInt ≤ (gI y 13).toInt + 0)) := by
              intro N2
              induction N2 with
              | zero =>
                intro o_me_2 hI_me_2 hkp_me_2 hh40 hh41 hh42 hh43 hh44 hh45 hh46 hh47 hh48 hh49 hN2
                exact absurd hN2 (Nat.not_lt_zero _)
              | succ N2 ihx =>
                have ih2 := ihx
                intro o_me_2 hI_me_2 hkp_me_2 hh40 hh41 hh42 hh43 hh44 hh45 hh46 hh47 hh48 hh49 hN2
                show wp (lb_X9_next_149   (lp_X9_next_149   N2) o_me_2) (fun (y : Ob) => IvX9 y ∧ Kp [8, 13, 19, 20, 21, 23, 26, 29, 30, 34, 38, 43, 59, 62] [3, 7, 10, 12, 22, 24, 25, 27, 28, 42, 48, 50, 51, 55] [(3, (0 : Int32))] o_me y ∧ ((gI y 15).toInt ≤ (gI y 13).toInt + 0))
                unfold lb_X9_next_149
                refine wp_if (fun c50 => ?_) (fun c50 => ?_)
                · have c50 := cv_eq (a := (gI o_me_2 16).toInt) (b := 1) rfl (by decide) c50
                  exfalso; omega
                · have c50 := cv_ne (a := (gI o_me_2 16).toInt) (b := 1) rfl (by decide) c50
                  have lp3 : ∀ (N3 : Nat) (o_me_3 : Ob), IvX9 o_me_3 → Kp [8, 13, 19, 20, 21, 23, 26, 29, 30, 34, 38, 43, 59, 62] [3, 7, 10, 12, 22, 24, 25, 27, 28, 42, 48, 50, 51, 55] [(3, (0 : Int32))] o_me o_me_3 → (0 ≤ (gI o_me_3 13).toInt ∧ (gI o_me_3 13).toInt ≤ 400) → (0 ≤ (gI o_me_3 14).toInt ∧ (gI o_me_3 14).toInt ≤ 400) → (0 ≤ (gI o_me_3 15).toInt ∧ (gI o_me_3 15).toInt ≤ 400) → (0 ≤ (gI o_me_3 16).toInt ∧ (gI o_me_3 16).toInt ≤ 0) → ((gI o_me_3 13).toInt ≤ (gI o_me_3 14).toInt + 0) → ((gI o_me_3 13).toInt ≤ (gI o_me_3 15).toInt + 0) → ((gI o_me_3 14).toInt ≤ (gI o_me_3 13).toInt + 0) → ((gI o_me_3 14).toInt ≤ (gI o_me_3 15).toInt + 0) → ((gI o_me_3 15).toInt ≤ (gI o_me_3 13).toInt + 0) → ((gI o_me_3 15).toInt ≤ (gI o_me_3 14).toInt + 0) → (400 - (gI o_me_3 13).toInt).toNat < N3 → wp (lp_X9_next_243   N3 o_me_3) (fun (y : Ob) => IvX9 y ∧ Kp [8, 13, 19, 20, 21, 23, 26, 29, 30, 34, 38, 43, 59, 62] [3, 7, 10, 12, 22, 24, 25, 27, 28, 42, 48, 50, 51, 55] [(3, (0 : Int32))] o_me y ∧ ((gI y 15).toInt ≤ (gI y 13).toInt + 0)) := by
                    intro N3
                    induction N3 with
                    | zero =>
                      intro o_me_3 hI_me_3 hkp_me_3 hh55 hh56 hh57 hh58 hh59 hh60 hh61 hh62 hh63 hh64 hN3
                      exact absurd hN3 (Nat.not_lt_zero _)
                    | succ N3 ihx =>
                      have ih3 := ihx
                      intro o_me_3 hI_me_3 hkp_me_3 hh55 hh56 hh57 hh58 hh59 hh60 hh61 hh62 hh63 hh64 hN3
                      show wp (lb_X9_next_243   (lp_X9_next_243   N3) o_me_3) (fun (y : Ob) => IvX9 y ∧ Kp [8, 13, 19, 20, 21, 23, 26, 29, 30, 34, 38, 43, 59, 62] [3, 7, 10, 12, 22, 24, 25, 27, 28, 42, 48, 50, 51, 55] [(3, (0 : Int32))] o_me y ∧ ((gI y 15).toInt ≤ (gI y 13).toInt + 0))
                      unfold lb_X9_next_243
                      refine wp_if (fun c65 => ?_) (fun c65 => ?_)
                      · have c65 := cv_eq (a := (gI o_me_3 16).toInt) (b := 2) rfl (by decide) c65
                        exfalso; omega
                      · have c65 := cv_ne (a := (gI o_me_3 16).toInt) (b := 2) rfl (by decide) c65
                        refine wp_some ?_
                        exact (show IvX9 o_me_3 ∧ Kp [8, 13, 19, 20, 21, 23, 26, 29, 30, 34, 38, 43, 59, 62] [3, 7, 10, 12, 22, 24, 25, 27, 28, 42, 48, 50, 51, 55] [(3, (0 : Int32))] o_me o_me_3 ∧ ((gI o_me_3 15).toInt ≤ (gI o_me_3 13).toInt + 0) from ⟨hI_me_3, hkp_me_3, (by omega)⟩)
                  exact lp3 zfu o_me_2 hI_me_2 hkp_me_2 ⟨by omega, by omega⟩ ⟨by omega, by omega⟩ ⟨by omega, by omega⟩ ⟨by omega, by omega⟩ (by omega) (by omega) (by omega) (by omega) (by omega) (by omega) (by show _ < 100000; omega)
            exact lp2 zfu o30 hIo30 hkpo30 ⟨by omega, by omega⟩ ⟨by omega, by omega⟩ ⟨by omega, by omega⟩ ⟨by omega, by omega⟩ (by omega) (by omega) (by omega) (by omega) (by omega) (by omega) (by show _ < 100000; omega)
        · have c28 := cv_ne (a := (gI o23 14).toInt) (b := (gI o23 13).toInt) rfl rfl c28
          exfalso; omega
      · have c18 := cv_nge (a := (gI o_me_1 14).toInt) (b := (gI o_me_1 13).toInt) rfl rfl c18
        refine wp_gd (zin_of (m := 400) rfl (by omega) (by omega)) ?_
        refine wp_if (fun c66 => ?_) (fun c66 => ?_)
        · have c66 := cv_eq (a := (gA o_me_1 12 (gI o_me_1 14).toNatClampNeg).toInt) (b := 32) rfl (by decide) c66
          have t67 : ((gI o_me_1 14) + (1 : Int32)).toInt = (gI o_me_1 14).toInt + 1 := i32_add rfl (by decide) (by omega) (by omega)
          refine wp_lt (fun o68 eo68 => ?_)
          have hIo68 : IvX9 o68 := by rw [eo68]; exact ipX9_14 hI_me_1 ⟨by omega, by omega⟩
          have ko68_k69 : (gA o68 12 (gI o_me_1 14).toNatClampNeg).toInt = (gA o_me_1 12 (gI o_me_1 14).toNatClampNeg).toInt := by rw [eo68]; rfl
          have ko68_k70 : (gI o68 13).toInt = (gI o_me_1 13).toInt := by rw [eo68]; rfl
          have ko68_k71 : (gI o68 15).toInt = (gI o_me_1 15).toInt := by rw [eo68]; rfl
          have ko68_k72 : (gI o68 16).toInt = (gI o_me_1 16).toInt := by rw [eo68]; rfl
          have ko68_v : (gI o68 14).toInt = ((gI o_me_1 14) + (1 : Int32)).toInt := by rw [eo68]; rfl
          have hkpo68 : Kp [8, 13, 19, 20, 21, 23, 26, 29, 30, 34, 38, 43, 59, 62] [3, 7, 10, 12, 22, 24, 25, 27, 28, 42, 48, 50, 51, 55] [(3, (0 : Int32))] o_me o68 := hkp_me_1.trans (by rw [eo68]; exact Kp.sI (by decide))
          exact ih1 o68 hIo68 hkpo68 ⟨by omega, by omega⟩ ⟨by omega, by omega⟩ ⟨by omega, by omega⟩ ⟨by omega, by omega⟩ (by omega) (by omega) (by omega) (by omega)
        · have c66 := cv_ne (a := (gA o_me_1 12 (gI o_me_1 14).toNatClampNeg).toInt) (b := 32) rfl (by decide) c66
          unfold bk_X9_next_46
          refine wp_lt (fun o73 eo73 => ?_)
          have hIo73 : IvX9 o73 := by rw [eo73]; exact ipX9_15 hI_me_1 ⟨by omega, by omega⟩
          have ko73_k74 : (gA o73 12 (gI o_me_1 14).toNatClampNeg).toInt = (gA o_me_1 12 (gI o_me_1 14).toNatClampNeg).toInt := by rw [eo73]; rfl
          have ko73_k75 : (gI o73 13).toInt = (gI o_me_1 13).toInt := by rw [eo73]; rfl
          have ko73_k76 : (gI o73 14).toInt = (gI o_me_1 14).toInt := by rw [eo73]; rfl
          have ko73_k77 : (gI o73 16).toInt = (gI o_me_1 16).toInt := by rw [eo73]; rfl
          have ko73_v : (gI o73 15).toInt = (gI o_me_1 14).toInt := by rw [eo73]; rfl
          have hkpo73 : Kp [8, 13, 19, 20, 21, 23, 26, 29, 30, 34, 38, 43, 59, 62] [3, 7, 10, 12, 22, 24, 25, 27, 28, 42, 48, 50, 51, 55] [(3, (0 : Int32))] o_me o73 := hkp_me_1.trans (by rw [eo73]; exact Kp.sI (by decide))
          refine wp_lt (fun o78 eo78 => ?_)
          have hIo78 : IvX9 o78 := by rw [eo78]; exact hIo73
          have ko78_k79 : (gA o78 12 (gI o_me_1 14).toNatClampNeg).toInt = (gA o73 12 (gI o_me_1 14).toNatClampNeg).toInt := by rw [eo78]; rfl
          have ko78_k80 : (gI o78 13).toInt = (gI o73 13).toInt := by rw [eo78]; rfl
          have ko78_k81 : (gI o78 14).toInt = (gI o73 14).toInt := by rw [eo78]; rfl
          have ko78_k82 : (gI o78 15).toInt = (gI o73 15).toInt := by rw [eo78]; rfl
          have ko78_k83 : (gI o78 16).toInt = (gI o73 16).toInt := by rw [eo78]; rfl
          have ko78_v : (gL o78 17).toInt = 0 := by rw [eo78]; exact (show ((0 : Int64)).toInt = _ from by decide)
          have hkpo78 : Kp [8, 13, 19, 20, 21, 23, 26, 29, 30, 34, 38, 43, 59, 62] [3, 7, 10, 12, 22, 24, 25, 27, 28, 42, 48, 50, 51, 55] [(3, (0 : Int32))] o_me o78 := hkpo73.trans (by rw [eo78]; exact Kp.sL)
          refine wp_if (fun c84 => ?_) (fun c84 => ?_)
          · have c84 := cv_eq (a := (gI o78 14).toInt) (b := (gI o78 13).toInt) rfl rfl c84
            exfalso; omega
          · have c84 := cv_ne (a := (gI o78 14).toInt) (b := (gI o78 13).toInt) rfl rfl c84
            refine wp_gd (zin_of (m := 400) rfl (by omega) (by omega)) ?_
            refine wp_bd (s_X9_isSmall   (gA o78 12 (gI o78 14).toNatClampNeg)    ) (fun z85 hz85 => ?_)
            have hz85_0 := hz85
            refine wp_if (fun c86 => ?_) (fun c86 => ?_)
            · have c86 := cv_eq (a := z85.toInt) (b := 0) rfl (by decide) c86
              refine wp_gd (zin_of (m := 400) rfl (by omega) (by omega)) ?_
              refine wp_bd (s_X9_isDigit   (gA o78 12 (gI o78 14).toNatClampNeg)    ) (fun z87 hz87 => ?_)
              have hz87_0 := hz87
              refine wp_if (fun c88 => ?_) (fun c88 => ?_)
              · have c88 := cv_eq (a := z87.toInt) (b := 0) rfl (by decide) c88
                obtain ⟨w89, ew89⟩ : ∃ z : Int32, z = (3 : Int32) := ⟨_, rfl⟩
                have tw89 : w89.toInt = 3 := by rw [ew89]; decide
                rw [show bk_X9_next_114   (3 : Int32) o78 = bk_X9_next_114   w89 o78 from by rw [ew89]]
                unfold bk_X9_next_114
                refine wp_lt (fun o90 eo90 => ?_)
                have hIo90 : IvX9 o90 := by rw [eo90]; exact ipX9_16 hIo78 ⟨by omega, by omega⟩
                have ko90_k91 : (gA o90 12 (gI o_me_1 14).toNatClampNeg).toInt = (gA o78 12 (gI o_me_1 14).toNatClampNeg).toInt := by rw [eo90]; rfl
                have ko90_k92 : (gI o90 13).toInt = (gI o78 13).toInt := by rw [eo90]; rfl
                have ko90_k93 : (gI o90 14).toInt = (gI o78 14).toInt := by rw [eo90]; rfl
                have ko90_k94 : (gI o90 15).toInt = (gI o78 15).toInt := by rw [eo90]; rfl
                have ko90_k95 : (gL o90 17).toInt = (gL o78 17).toInt := by rw [eo90]; rfl
                have ko90_v : (gI o90 16).toInt = w89.toInt := by rw [eo90]; rfl
                have hkpo90 : Kp [8, 13, 19, 20, 21, 23, 26, 29, 30, 34, 38, 43, 59, 62] [3, 7, 10, 12, 22, 24, 25, 27, 28, 42, 48, 50, 51, 55] [(3, (0 : Int32))] o_me o90 := hkpo78.trans (by rw [eo90]; exact Kp.sI (by decide))
                refine wp_if (fun c96 => ?_) (fun c96 => ?_)
                · have c96 := cv_eq (a := (gI o90 16).toInt) (b := 3) rfl (by decide) c96
                  refine wp_gd (zin_of (m := 400) rfl (by omega) (by omega)) ?_
                  have rg97 := i32_rg (gA o90 12 (gI o90 14).toNatClampNeg)
                  have t98 : ((gA o90 12 (gI o90 14).toNatClampNeg).toInt64).toInt = (gA o90 12 (gI o90 14).toNatClampNeg).toInt := Int32.toInt_toInt64 _
                  refine wp_lt (fun o99 eo99 => ?_)
                  have hIo99 : IvX9 o99 := by rw [eo99]; exact hIo90
                  have ko99_k100 : (gA o99 12 (gI o90 14).toNatClampNeg).toInt = (gA o90 12 (gI o90 14).toNatClampNeg).toInt := by rw [eo99]; rfl
                  have ko99_k101 : (gA o99 12 (gI o_me_1 14).toNatClampNeg).toInt = (gA o90 12 (gI o_me_1 14).toNatClampNeg).toInt := by rw [eo99]; rfl
                  have ko99_k102 : (gI o99 13).toInt = (gI o90 13).toInt := by rw [eo99]; rfl
                  have ko99_k103 : (gI o99 14).toInt = (gI o90 14).toInt := by rw [eo99]; rfl
                  have ko99_k104 : (gI o99 15).toInt = (gI o90 15).toInt := by rw [eo99]; rfl
                  have ko99_k105 : (gI o99 16).toInt = (gI o90 16).toInt := by rw [eo99]; rfl
                  have ko99_v : (gL o99 17).toInt = ((gA o90 12 (gI o90 14).toNatClampNeg).toInt64).toInt := by rw [eo99]; rfl
                  have hkpo99 : Kp [8, 13, 19, 20, 21, 23, 26, 29, 30, 34, 38, 43, 59, 62] [3, 7, 10, 12, 22, 24, 25, 27, 28, 42, 48, 50, 51, 55] [(3, (0 : Int32))] o_me o99 := hkpo90.trans (by rw [eo99]; exact Kp.sL)
                  have t106 : ((gI o99 15) + (1 : Int32)).toInt = (gI o99 15).toInt + 1 := i32_add rfl (by decide) (by omega) (by omega)
                  refine wp_lt (fun o107 eo107 => ?_)
                  have hIo107 : IvX9 o107 := by rw [eo107]; exact ipX9_15 hIo99 ⟨by omega, by omega⟩
                  have ko107_k108 : (gA o107 12 (gI o90 14).toNatClampNeg).toInt = (gA o99 12 (gI o90 14).toNatClampNeg).toInt := by rw [eo107]; rfl
                  have ko107_k109 : (gA o107 12 (gI o_me_1 14).toNatClampNeg).toInt = (gA o99 12 (gI o_me_1 14).toNatClampNeg).toInt := by rw [eo107]; rfl
                  have ko107_k110 : (gI o107 13).toInt = (gI o99 13).toInt := by rw [eo107]; rfl
                  have ko107_k111 : (gI o107 14).toInt = (gI o99 14).toInt := by rw [eo107]; rfl
                  have ko107_k112 : (gI o107 16).toInt = (gI o99 16).toInt := by rw [eo107]; rfl
                  have ko107_k113 : (gL o107 17).toInt = (gL o99 17).toInt := by rw [eo107]; rfl
                  have ko107_v : (gI o107 15).toInt = ((gI o99 15) + (1 : Int32)).toInt := by rw [eo107]; rfl
                  have hkpo107 : Kp [8, 13, 19, 20, 21, 23, 26, 29, 30, 34, 38, 43, 59, 62] [3, 7, 10, 12, 22, 24, 25, 27, 28, 42, 48, 50, 51, 55] [(3, (0 : Int32))] o_me o107 := hkpo99.trans (by rw [eo107]; exact Kp.sI (by decide))
                  have lp4 : ∀ (N4 : Nat) (o_me_4 : Ob), IvX9 o_me_4 → Kp [8, 13, 19, 20, 21, 23, 26, 29, 30, 34, 38, 43, 59, 62] [3, 7, 10, 12, 22, 24, 25, 27, 28, 42, 48, 50, 51, 55] [(3, (0 : Int32))] o_me o_me_4 → (1 ≤ (gI o_me_4 13).toInt ∧ (gI o_me_4 13).toInt ≤ 400) → (0 ≤ (gI o_me_4 14).toInt ∧ (gI o_me_4 14).toInt ≤ 399) → (1 ≤ (gI o_me_4 15).toInt ∧ (gI o_me_4 15).toInt ≤ 400) → (3 ≤ (gI o_me_4 16).toInt ∧ (gI o_me_4 16).toInt ≤ 3) → ((gI o_me_4 14).toInt ≤ (gI o_me_4 13).toInt + (-1)) → ((gI o_me_4 14).toInt ≤ (gI o_me_4 15).toInt + (-1)) → ((gI o_me_4 15).toInt ≤ (gI o_me_4 13).toInt + 0) → ((gI o_me_4 15).toInt ≤ (gI o_me_4 14).toInt + 1) → (400 - (gI o_me_4 13).toInt).toNat < N4 → wp (lp_X9_next_149   N4 o_me_4) (fun (y : Ob) => IvX9 y ∧ Kp [8, 13, 19, 20, 21, 23, 26, 29, 30, 34, 38, 43, 59, 62] [3, 7, 10, 12, 22, 24, 25, 27, 28, 42, 48, 50, 51, 55] [(3, (0 : Int32))] o_me y ∧ ((gI y 15).toInt ≤ (gI y 13).toInt + 0)) := by
                    intro N4
                    induction N4 with
                    | zero =>
                      intro o_me_4 hI_me_4 hkp_me_4 hh118 hh119 hh120 hh121 hh122 hh123 hh124 hh125 hN4
                      exact absurd hN4 (Nat.not_lt_zero _)
                    | succ N4 ihx =>
                      have ih4 := ihx
                      intro o_me_4 hI_me_4 hkp_me_4 hh118 hh119 hh120 hh121 hh122 hh123 hh124 hh125 hN4
                      show wp (lb_X9_next_149   (lp_X9_next_149   N4) o_me_4) (fun (y : Ob) => IvX9 y ∧ Kp [8, 13, 19, 20, 21, 23, 26, 29, 30, 34, 38, 43, 59, 62] [3, 7, 10, 12, 22, 24, 25, 27, 28, 42, 48, 50, 51, 55] [(3, (0 : Int32))] o_me y ∧ ((gI y 15).toInt ≤ (gI y 13).toInt + 0))
                      unfold lb_X9_next_149
                      refine wp_if (fun c126 => ?_) (fun c126 => ?_)
                      · have c126 := cv_eq (a := (gI o_me_4 16).toInt) (b := 1) rfl (by decide) c126
                        exfalso; omega
                      · have c126 := cv_ne (a := (gI o_me_4 16).toInt) (b := 1) rfl (by decide) c126
                        have lp5 : ∀ (N5 : Nat) (o_me_5 : Ob), IvX9 o_me_5 → Kp [8, 13, 19, 20, 21, 23, 26, 29, 30, 34, 38, 43, 59, 62] [3, 7, 10, 12, 22, 24, 25, 27, 28, 42, 48, 50, 51, 55] [(3, (0 : Int32))] o_me o_me_5 → (1 ≤ (gI o_me_5 13).toInt ∧ (gI o_me_5 13).toInt ≤ 400) → (0 ≤ (gI o_me_5 14).toInt ∧ (gI o_me_5 14).toInt ≤ 399) → (1 ≤ (gI o_me_5 15).toInt ∧ (gI o_me_5 15).toInt ≤ 400) → (3 ≤ (gI o_me_5 16).toInt ∧ (gI o_me_5 16).toInt ≤ 3) → ((gI o_me_5 14).toInt ≤ (gI o_me_5 13).toInt + (-1)) → ((gI o_me_5 14).toInt ≤ (gI o_me_5 15).toInt + (-1)) → ((gI o_me_5 15).toInt ≤ (gI o_me_5 13).toInt + 0) → ((gI o_me_5 15).toInt ≤ (gI o_me_5 14).toInt + 1) → (400 - (gI o_me_5 13).toInt).toNat < N5 → wp (lp_X9_next_243   N5 o_me_5) (fun (y : Ob) => IvX9 y ∧ Kp [8, 13, 19, 20, 21, 23, 26, 29, 30, 34, 38, 43, 59, 62] [3, 7, 10, 12, 22, 24, 25, 27, 28, 42, 48, 50, 51, 55] [(3, (0 : Int32))] o_me y ∧ ((gI y 15).toInt ≤ (gI y 13).toInt + 0)) := by
                          intro N5
                          induction N5 with
                          | zero =>
                            intro o_me_5 hI_me_5 hkp_me_5 hh131 hh132 hh133 hh134 hh135 hh136 hh137 hh138 hN5
                            exact absurd hN5 (Nat.not_lt_zero _)
                          | succ N5 ihx =>
                            have ih5 := ihx
                            intro o_me_5 hI_me_5 hkp_me_5 hh131 hh132 hh133 hh134 hh135 hh136 hh137 hh138 hN5
                            show wp (lb_X9_next_243   (lp_X9_next_243   N5) o_me_5) (fun (y : Ob) => IvX9 y ∧ Kp [8, 13, 19, 20, 21, 23, 26, 29, 30, 34, 38, 43, 59, 62] [3, 7, 10, 12, 22, 24, 25, 27, 28, 42, 48, 50, 51, 55] [(3, (0 : Int32))] o_me y ∧ ((gI y 15).toInt ≤ (gI y 13).toInt + 0))
                            unfold lb_X9_next_243
                            refine wp_if (fun c139 => ?_) (fun c139 => ?_)
                            · have c139 := cv_eq (a := (gI o_me_5 16).toInt) (b := 2) rfl (by decide) c139
                              exfalso; omega
                            · have c139 := cv_ne (a := (gI o_me_5 16).toInt) (b := 2) rfl (by decide) c139
                              refine wp_some ?_
                              exact (show IvX9 o_me_5 ∧ Kp [8, 13, 19, 20, 21, 23, 26, 29, 30, 34, 38, 43, 59, 62] [3, 7, 10, 12, 22, 24, 25, 27, 28, 42, 48, 50, 51, 55] [(3, (0 : Int32))] o_me o_me_5 ∧ ((gI o_me_5 15).toInt ≤ (gI o_me_5 13).toInt + 0) from ⟨hI_me_5, hkp_me_5, (by omega)⟩)
                        exact lp5 zfu o_me_4 hI_me_4 hkp_me_4 ⟨by omega, by omega⟩ ⟨by omega, by omega⟩ ⟨by omega, by omega⟩ ⟨by omega, by omega⟩ (by omega) (by omega) (by omega) (by omega) (by show _ < 100000; omega)
                  exact lp4 zfu o107 hIo107 hkpo107 ⟨by omega, by omega⟩ ⟨by omega, by omega⟩ ⟨by omega, by omega⟩ ⟨by omega, by omega⟩ (by omega) (by omega) (by omega) (by omega) (by show _ < 100000; omega)
                · have c96 := cv_ne (a := (gI o90 16).toInt) (b := 3) rfl (by decide) c96
                  exfalso; omega
              · have c88z := c88
                have c88 := cv_ne (a := z87.toInt) (b := 0) rfl (by decide) c88
                obtain ⟨w140, ew140⟩ : ∃ z : Int32, z = (2 : Int32) := ⟨_, rfl⟩
                have tw140 : w140.toInt = 2 := by rw [ew140]; decide
                rw [show bk_X9_next_114   (2 : Int32) o78 = bk_X9_next_114   w140 o78 from by rw [ew140]]
                unfold bk_X9_next_114
                refine wp_lt (fun o141 eo141 => ?_)
                have hIo141 : IvX9 o141 := by rw [eo141]; exact ipX9_16 hIo78 ⟨by omega, by omega⟩
                have ko141_k142 : (gA o141 12 (gI o_me_1 14).toNatClampNeg).toInt = (gA o78 12 (gI o_me_1 14).toNatClampNeg).toInt := by rw [eo141]; rfl
                have ko141_k143 : (gI o141 13).toInt = (gI o78 13).toInt := by rw [eo141]; rfl
                have ko141_k144 : (gI o141 14).toInt = (gI o78 14).toInt := by rw [eo141]; rfl
                have ko141_k145 : (gI o141 15).toInt = (gI o78 15).toInt := by rw [eo141]; rfl
                have ko141_k146 : (gL o141 17).toInt = (gL o78 17).toInt := by rw [eo141]; rfl
                have ko141_v : (gI o141 16).toInt = w140.toInt := by rw [eo141]; rfl
                have hkpo141 : Kp [8, 13, 19, 20, 21, 23, 26, 29, 30, 34, 38, 43, 59, 62] [3, 7, 10, 12, 22, 24, 25, 27, 28, 42, 48, 50, 51, 55] [(3, (0 : Int32))] o_me o141 := hkpo78.trans (by rw [eo141]; exact Kp.sI (by decide))
                refine wp_if (fun c147 => ?_) (fun c147 => ?_)
                · have c147 := cv_eq (a := (gI o141 16).toInt) (b := 3) rfl (by decide) c147
                  exfalso; omega
                · have c147 := cv_ne (a := (gI o141 16).toInt) (b := 3) rfl (by decide) c147
                  have lp6 : ∀ (N6 : Nat) (o_me_6 : Ob), IvX9 o_me_6 → Kp [8, 13, 19, 20, 21, 23, 26, 29, 30, 34, 38, 43, 59, 62] [3, 7, 10, 12, 22, 24, 25, 27, 28, 42, 48, 50, 51, 55] [(3, (0 : Int32))] o_me o_me_6 → (1 ≤ (gI o_me_6 13).toInt ∧ (gI o_me_6 13).toInt ≤ 400) → (0 ≤ (gI o_me_6 14).toInt ∧ (gI o_me_6 14).toInt ≤ 399) → (0 ≤ (gI o_me_6 15).toInt ∧ (gI o_me_6 15).toInt ≤ 399) → (2 ≤ (gI o_me_6 16).toInt ∧ (gI o_me_6 16).toInt ≤ 2) → ((gI o_me_6 14).toInt ≤ (gI o_me_6 13).toInt + (-1)) → ((gI o_me_6 14).toInt ≤ (gI o_me_6 15).toInt + 0) → ((gI o_me_6 15).toInt ≤ (gI o_me_6 13).toInt + (-1)) → ((gI o_me_6 15).toInt ≤ (gI o_me_6 14).toInt + 0) → (400 - (gI o_me_6 13).toInt).toNat < N6 → wp (lp_X9_next_149   N6 o_me_6) (fun (y : Ob) => IvX9 y ∧ Kp [8, 13, 19, 20, 21, 23, 26, 29, 30, 34, 38, 43, 59, 62] [3, 7, 10, 12, 22, 24, 25, 27, 28, 42, 48, 50, 51, 55] [(3, (0 : Int32))] o_me y ∧ ((gI y 15).toInt ≤ (gI y 13).toInt + 0)) := by
                    intro N6
                    induction N6 with
                    | zero =>
                      intro o_me_6 hI_me_6 hkp_me_6 hh152 hh153 hh154 hh155 hh156 hh157 hh158 hh159 hN6
                      exact absurd hN6 (Nat.not_lt_zero _)
                    | succ N6 ihx =>
                      have ih6 := ihx
                      intro o_me_6 hI_me_6 hkp_me_6 hh152 hh153 hh154 hh155 hh156 hh157 hh158 hh159 hN6
                      show wp (lb_X9_next_149   (lp_X9_next_149   N6) o_me_6) (fun (y : Ob) => IvX9 y ∧ Kp [8, 13, 19, 20, 21, 23, 26, 29, 30, 34, 38, 43, 59, 62] [3, 7, 10, 12, 22, 24, 25, 27, 28, 42, 48, 50, 51, 55] [(3, (0 : Int32))] o_me y ∧ ((gI y 15).toInt ≤ (gI y 13).toInt + 0))
                      unfold lb_X9_next_149
                      refine wp_if (fun c160 => ?_) (fun c160 => ?_)
                      · have c160 := cv_eq (a := (gI o_me_6 16).toInt) (b := 1) rfl (by decide) c160
                        exfalso; omega
                      · have c160 := cv_ne (a := (gI o_me_6 16).toInt) (b := 1) rfl (by decide) c160
                        have lp7 : ∀ (N7 : Nat) (o_me_7 : Ob), IvX9 o_me_7 → Kp [8, 13, 19, 20, 21, 23, 26, 29, 30, 34, 38, 43, 59, 62] [3, 7, 10, 12, 22, 24, 25, 27, 28, 42, 48, 50, 51, 55] [(3, (0 : Int32))] o_me o_me_7 → (1 ≤ (gI o_me_7 13).toInt ∧ (gI o_me_7 13).toInt ≤ 400) → (0 ≤ (gI o_me_7 14).toInt ∧ (gI o_me_7 14).toInt ≤ 399) → (0 ≤ (gI o_me_7 15).toInt ∧ (gI o_me_7 15).toInt ≤ 400) → (2 ≤ (gI o_me_7 16).toInt ∧ (gI o_me_7 16).toInt ≤ 2) → ((gI o_me_7 14).toInt ≤ (gI o_me_7 13).toInt + (-1)) → ((gI o_me_7 14).toInt ≤ (gI o_me_7 15).toInt + 0) → ((gI o_me_7 15).toInt ≤ (gI o_me_7 13).toInt + 0) → (400 - (gI o_me_7 15).toInt).toNat < N7 → wp (lp_X9_next_243   N7 o_me_7) (fun (y : Ob) => IvX9 y ∧ Kp [8, 13, 19, 20, 21, 23, 26, 29, 30, 34, 38, 43, 59, 62] [3, 7, 10, 12, 22, 24, 25, 27, 28, 42, 48, 50, 51, 55] [(3, (0 : Int32))] o_me y ∧ ((gI y 15).toInt ≤ (gI y 13).toInt + 0)) := by
                          intro N7
                          induction N7 with
                          | zero =>
                            intro o_me_7 hI_me_7 hkp_me_7 hh165 hh166 hh167 hh168 hh169 hh170 hh171 hN7
                            exact absurd hN7 (Nat.not_lt_zero _)
                          | succ N7 ihx =>
                            have ih7 := ihx
                            intro o_me_7 hI_me_7 hkp_me_7 hh165 hh166 hh167 hh168 hh169 hh170 hh171 hN7
                            show wp (lb_X9_next_243   (lp_X9_next_243   N7) o_me_7) (fun (y : Ob) => IvX9 y ∧ Kp [8, 13, 19, 20, 21, 23, 26, 29, 30, 34, 38, 43, 59, 62] [3, 7, 10, 12, 22, 24, 25, 27, 28, 42, 48, 50, 51, 55] [(3, (0 : Int32))] o_me y ∧ ((gI y 15).toInt ≤ (gI y 13).toInt + 0))
                            unfold lb_X9_next_243
                            refine wp_if (fun c172 => ?_) (fun c172 => ?_)
                            · have c172 := cv_eq (a := (gI o_me_7 16).toInt) (b := 2) rfl (by decide) c172
                              refine wp_if (fun c173 => ?_) (fun c173 => ?_)
                              · have c173 := cv_ge (a := (gI o_me_7 15).toInt) (b := (gI o_me_7 13).toInt) rfl rfl c173
                                refine wp_some ?_
                                exact (show IvX9 o_me_7 ∧ Kp [8, 13, 19, 20, 21, 23, 26, 29, 30, 34, 38, 43, 59, 62] [3, 7, 10, 12, 22, 24, 25, 27, 28, 42, 48, 50, 51, 55] [(3, (0 : Int32))] o_me o_me_7 ∧ ((gI o_me_7 15).toInt ≤ (gI o_me_7 13).toInt + 0) from ⟨hI_me_7, hkp_me_7, (by omega)⟩)
                              · have c173 := cv_nge (a := (gI o_me_7 15).toInt) (b := (gI o_me_7 13).toInt) rfl rfl c173
                                refine wp_gd (zin_of (m := 400) rfl (by omega) (by omega)) ?_
                                refine wp_bd (s_X9_isDigit   (gA o_me_7 12 (gI o_me_7 15).toNatClampNeg)    ) (fun z174 hz174 => ?_)
                                have hz174_0 := hz174
                                refine wp_if (fun c175 => ?_) (fun c175 => ?_)
                                · have c175 := cv_eq (a := z174.toInt) (b := 0) rfl (by decide) c175
                                  refine wp_some ?_
                                  exact (show IvX9 o_me_7 ∧ Kp [8, 13, 19, 20, 21, 23, 26, 29, 30, 34, 38, 43, 59, 62] [3, 7, 10, 12, 22, 24, 25, 27, 28, 42, 48, 50, 51, 55] [(3, (0 : Int32))] o_me o_me_7 ∧ ((gI o_me_7 15).toInt ≤ (gI o_me_7 13).toInt + 0) from ⟨hI_me_7, hkp_me_7, (by omega)⟩)
                                · have c175z := c175
                                  have c175 := cv_ne (a := z174.toInt) (b := 0) rfl (by decide) c175
                                  refine wp_if (fun c176 => ?_) (fun c176 => ?_)
                                  · have c176 := cvl_le (a := (gL o_me_7 17).toInt) (b := 1000000) rfl (by decide) c176
                                    refine wp_gd (zin_of (m := 400) rfl (by omega) (by omega)) ?_
                                    have rg177 := i32_rg (gA o_me_7 12 (gI o_me_7 15).toNatClampNeg)
                                    have t178 : ((gA o_me_7 12 (gI o_me_7 15).toNatClampNeg).toInt64).toInt = (gA o_me_7 12 (gI o_me_7 15).toNatClampNeg).toInt := Int32.toInt_toInt64 _
                                    obtain ⟨w179, ew179⟩ : ∃ z : Int64, z = (((gL o_me_7 17) * (10 : Int64)) + ((gA o_me_7 12 (gI o_me_7 15).toNatClampNeg).toInt64)) - (48 : Int64) := ⟨_, rfl⟩
                                    have tw179 : w179.toInt = ((((gL o_me_7 17) * (10 : Int64)) + ((gA o_me_7 12 (gI o_me_7 15).toNatClampNeg).toInt64)) - (48 : Int64)).toInt := by rw [ew179]
                                    rw [show bk_X9_next_319  (lp_X9_next_243   N7) ((((gL o_me_7 17) * (10 : Int64)) + ((gA o_me_7 12 (gI o_me_7 15).toNatClampNeg).toInt64)) - (48 : Int64)) o_me_7 = bk_X9_next_319  (lp_X9_next_243   N7) w179 o_me_7 from by rw [ew179]]
                                    unfold bk_X9_next_319
                                    refine wp_lt (fun o180 eo180 => ?_)
                                    have hIo180 : IvX9 o180 := by rw [eo180]; exact hI_me_7
                                    have ko180_k181 : (gA o180 12 (gI o_me_7 15).toNatClampNeg).toInt = (gA o_me_7 12 (gI o_me_7 15).toNatClampNeg).toInt := by rw [eo180]; rfl
                                    have ko180_k182 : (gI o180 13).toInt = (gI o_me_7 13).toInt := by rw [eo180]; rfl
                                    have ko180_k183 : (gI o180 14).toInt = (gI o_me_7 14).toInt := by rw [eo180]; rfl
                                    have ko180_k184 : (gI o180 15).toInt = (gI o_me_7 15).toInt := by rw [eo180]; rfl
                                    have ko180_k185 : (gI o180 16).toInt = (gI o_me_7 16).toInt := by rw [eo180]; rfl
                                    have ko180_v : (gL o180 17).toInt = w179.toInt := by rw [eo180]; rfl
                                    have hkpo180 : Kp [8, 13, 19, 20, 21, 23, 26, 29, 30, 34, 38, 43, 59, 62] [3, 7, 10, 12, 22, 24, 25, 27, 28, 42, 48, 50, 51, 55] [(3, (0 : Int32))] o_me o180 := hkp_me_7.trans (by rw [eo180]; exact Kp.sL)
                                    have t186 : ((gI o180 15) + (1 : Int32)).toInt = (gI o180 15).toInt + 1 := i32_add rfl (by decide) (by omega) (by omega)
                                    refine wp_lt (fun o187 eo187 => ?_)
                                    have hIo187 : IvX9 o187 := by rw [eo187]; exact ipX9_15 hIo180 ⟨by omega, by omega⟩
                                    have ko187_k188 : (gA o187 12 (gI o_me_7 15).toNatClampNeg).toInt = (gA o180 12 (gI o_me_7 15).toNatClampNeg).toInt := by rw [eo187]; rfl
                                    have ko187_k189 : (gI o187 13).toInt = (gI o180 13).toInt := by rw [eo187]; rfl
                                    have ko187_k190 : (gI o187 14).toInt = (gI o180 14).toInt := by rw [eo187]; rfl
                                    have ko187_k191 : (gI o187 16).toInt = (gI o180 16).toInt := by rw [eo187]; rfl
                                    have ko187_k192 : (gL o187 17).toInt = (gL o180 17).toInt := by rw [eo187]; rfl
                                    have ko187_v : (gI o187 15).toInt = ((gI o180 15) + (1 : Int32)).toInt := by rw [eo187]; rfl
                                    have hkpo187 : Kp [8, 13, 19, 20, 21, 23, 26, 29, 30, 34, 38, 43, 59, 62] [3, 7, 10, 12, 22, 24, 25, 27, 28, 42, 48, 50, 51, 55] [(3, (0 : Int32))] o_me o187 := hkpo180.trans (by rw [eo187]; exact Kp.sI (by decide))
                                    exact ih7 o187 hIo187 hkpo187 ⟨by omega, by omega⟩ ⟨by omega, by omega⟩ ⟨by omega, by omega⟩ ⟨by omega, by omega⟩ (by omega) (by omega) (by omega) (by omega)
                                  · have c176 := cvl_nle (a := (gL o_me_7 17).toInt) (b := 1000000) rfl (by decide) c176
                                    obtain ⟨w193, ew193⟩ : ∃ z : Int64, z = gL o_me_7 17 := ⟨_, rfl⟩
                                    have tw193 : w193.toInt = (gL o_me_7 17).toInt := by rw [ew193]
                                    rw [show bk_X9_next_319  (lp_X9_next_243   N7) (gL o_me_7 17) o_me_7 = bk_X9_next_319  (lp_X9_next_243   N7) w193 o_me_7 from by rw [ew193]]
                                    unfold bk_X9_next_319
                                    refine wp_lt (fun o194 eo194 => ?_)
                                    have hIo194 : IvX9 o194 := by rw [eo194]; exact hI_me_7
                                    have ko194_k195 : (gI o194 13).toInt = (gI o_me_7 13).toInt := by rw [eo194]; rfl
                                    have ko194_k196 : (gI o194 14).toInt = (gI o_me_7 14).toInt := by rw [eo194]; rfl
                                    have ko194_k197 : (gI o194 15).toInt = (gI o_me_7 15).toInt := by rw [eo194]; rfl
                                    have ko194_k198 : (gI o194 16).toInt = (gI o_me_7 16).toInt := by rw [eo194]; rfl
                                    have ko194_v : (gL o194 17).toInt = w193.toInt := by rw [eo194]; rfl
                                    have hkpo194 : Kp [8, 13, 19, 20, 21, 23, 26, 29, 30, 34, 38, 43, 59, 62] [3, 7, 10, 12, 22, 24, 25, 27, 28, 42, 48, 50, 51, 55] [(3, (0 : Int32))] o_me o194 := hkp_me_7.trans (by rw [eo194]; exact Kp.sL)
                                    have t199 : ((gI o194 15) + (1 : Int32)).toInt = (gI o194 15).toInt + 1 := i32_add rfl (by decide) (by omega) (by omega)
                                    refine wp_lt (fun o200 eo200 => ?_)
                                    have hIo200 : IvX9 o200 := by rw [eo200]; exact ipX9_15 hIo194 ⟨by omega, by omega⟩
                                    have ko200_k201 : (gI o200 13).toInt = (gI o194 13).toInt := by rw [eo200]; rfl
                                    have ko200_k202 : (gI o200 14).toInt = (gI o194 14).toInt := by rw [eo200]; rfl
                                    have ko200_k203 : (gI o200 16).toInt = (gI o194 16).toInt := by rw [eo200]; rfl
                                    have ko200_k204 : (gL o200 17).toInt = (gL o194 17).toInt := by rw [eo200]; rfl
                                    have ko200_v : (gI o200 15).toInt = ((gI o194 15) + (1 : Int32)).toInt := by rw [eo200]; rfl
                                    have hkpo200 : Kp [8, 13, 19, 20, 21, 23, 26, 29, 30, 34, 38, 43, 59, 62] [3, 7, 10, 12, 22, 24, 25, 27, 28, 42, 48, 50, 51, 55] [(3, (0 : Int32))] o_me o200 := hkpo194.trans (by rw [eo200]; exact Kp.sI (by decide))
                                    exact ih7 o200 hIo200 hkpo200 ⟨by omega, by omega⟩ ⟨by omega, by omega⟩ ⟨by omega, by omega⟩ ⟨by omega, by omega⟩ (by omega) (by omega) (by omega) (by omega)
                            · have c172 := cv_ne (a := (gI o_me_7 16).toInt) (b := 2) rfl (by decide) c172
                              exfalso; omega
                        exact lp7 zfu o_me_6 hI_me_6 hkp_me_6 ⟨by omega, by omega⟩ ⟨by omega, by omega⟩ ⟨by omega, by omega⟩ ⟨by omega, by omega⟩ (by omega) (by omega) (by omega) (by show _ < 100000; omega)
                  exact lp6 zfu o141 hIo141 hkpo141 ⟨by omega, by omega⟩ ⟨by omega, by omega⟩ ⟨by omega, by omega⟩ ⟨by omega, by omega⟩ (by omega) (by omega) (by omega) (by omega) (by show _ < 100000; omega)
            · have c86z := c86
              have c86 := cv_ne (a := z85.toInt) (b := 0) rfl (by decide) c86
              obtain ⟨w205, ew205⟩ : ∃ z : Int32, z = (1 : Int32) := ⟨_, rfl⟩
              have tw205 : w205.toInt = 1 := by rw [ew205]; decide
              rw [show bk_X9_next_114   (1 : Int32) o78 = bk_X9_next_114   w205 o78 from by rw [ew205]]
              unfold bk_X9_next_114
              refine wp_lt (fun o206 eo206 => ?_)
              have hIo206 : IvX9 o206 := by rw [eo206]; exact ipX9_16 hIo78 ⟨by omega, by omega⟩
              have ko206_k207 : (gA o206 12 (gI o_me_1 14).toNatClampNeg).toInt = (gA o78 12 (gI o_me_1 14).toNatClampNeg).toInt := by rw [eo206]; rfl
              have ko206_k208 : (gI o206 13).toInt = (gI o78 13).toInt := by rw [eo206]; rfl
              have ko206_k209 : (gI o206 14).toInt = (gI o78 14).toInt := by rw [eo206]; rfl
              have ko206_k210 : (gI o206 15).toInt = (gI o78 15).toInt := by rw [eo206]; rfl
              have ko206_k211 : (gL o206 17).toInt = (gL o78 17).toInt := by rw [eo206]; rfl
              have ko206_v : (gI o206 16).toInt = w205.toInt := by rw [eo206]; rfl
              have hkpo206 : Kp [8, 13, 19, 20, 21, 23, 26, 29, 30, 34, 38, 43, 59, 62] [3, 7, 10, 12, 22, 24, 25, 27, 28, 42, 48, 50, 51, 55] [(3, (0 : Int32))] o_me o206 := hkpo78.trans (by rw [eo206]; exact Kp.sI (by decide))
              refine wp_if (fun c212 => ?_) (fun c212 => ?_)
              · have c212 := cv_eq (a := (gI o206 16).toInt) (b := 3) rfl (by decide) c212
                exfalso; omega
              · have c212 := cv_ne (a := (gI o206 16).toInt) (b := 3) rfl (by decide) c212
                have lp8 : ∀ (N8 : Nat) (o_me_8 : Ob), IvX9 o_me_8 → Kp [8, 13, 19, 20, 21, 23, 26, 29, 30, 34, 38, 43, 59, 62] [3, 7, 10, 12, 22, 24, 25, 27, 28, 42, 48, 50, 51, 55] [(3, (0 : Int32))] o_me o_me_8 → (1 ≤ (gI o_me_8 13).toInt ∧ (gI o_me_8 13).toInt ≤ 400) → (0 ≤ (gI o_me_8 14).toInt ∧ (gI o_me_8 14).toInt ≤ 399) → (0 ≤ (gI o_me_8 15).toInt ∧ (gI o_me_8 15).toInt ≤ 400) → (1 ≤ (gI o_me_8 16).toInt ∧ (gI o_me_8 16).toInt ≤ 1) → ((gI o_me_8 14).toInt ≤ (gI o_me_8 13).toInt + (-1)) → ((gI o_me_8 14).toInt ≤ (gI o_me_8 15).toInt + 0) → ((gI o_me_8 15).toInt ≤ (gI o_me_8 13).toInt + 0) → (400 - (gI o_me_8 15).toInt).toNat < N8 → wp (lp_X9_next_149   N8 o_me_8) (fun (y : Ob) => IvX9 y ∧ Kp [8, 13, 19, 20, 21, 23, 26, 29, 30, 34, 38, 43, 59, 62] [3, 7, 10, 12, 22, 24, 25, 27, 28, 42, 48, 50, 51, 55] [(3, (0 : Int32))] o_me y ∧ ((gI y 15).toInt ≤ (gI y 13).toInt + 0)) := by
                  intro N8
                  induction N8 with
                  | zero =>
                    intro o_me_8 hI_me_8 hkp_me_8 hh217 hh218 hh219 hh220 hh221 hh222 hh223 hN8
                    exact absurd hN8 (Nat.not_lt_zero _)
                  | succ N8 ihx =>
                    have ih8 := ihx
                    intro o_me_8 hI_me_8 hkp_me_8 hh217 hh218 hh219 hh220 hh221 hh222 hh223 hN8
                    show wp (lb_X9_next_149   (lp_X9_next_149   N8) o_me_8) (fun (y : Ob) => IvX9 y ∧ Kp [8, 13, 19, 20, 21, 23, 26, 29, 30, 34, 38, 43, 59, 62] [3, 7, 10, 12, 22, 24, 25, 27, 28, 42, 48, 50, 51, 55] [(3, (0 : Int32))] o_me y ∧ ((gI y 15).toInt ≤ (gI y 13).toInt + 0))
                    unfold lb_X9_next_149
                    refine wp_if (fun c224 => ?_) (fun c224 => ?_)
                    · have c224 := cv_eq (a := (gI o_me_8 16).toInt) (b := 1) rfl (by decide) c224
                      refine wp_if (fun c225 => ?_) (fun c225 => ?_)
                      · have c225 := cv_ge (a := (gI o_me_8 15).toInt) (b := (gI o_me_8 13).toInt) rfl rfl c225
                        have lp9 : ∀ (N9 : Nat) (o_me_9 : Ob), IvX9 o_me_9 → Kp [8, 13, 19, 20, 21, 23, 26, 29, 30, 34, 38, 43, 59, 62] [3, 7, 10, 12, 22, 24, 25, 27, 28, 42, 48, 50, 51, 55] [(3, (0 : Int32))] o_me o_me_9 → (1 ≤ (gI o_me_9 13).toInt ∧ (gI o_me_9 13).toInt ≤ 400) → (0 ≤ (gI o_me_9 14).toInt ∧ (gI o_me_9 14).toInt ≤ 399) → (1 ≤ (gI o_me_9 15).toInt ∧ (gI o_me_9 15).toInt ≤ 400) → (1 ≤ (gI o_me_9 16).toInt ∧ (gI o_me_9 16).toInt ≤ 1) → ((gI o_me_9 13).toInt ≤ (gI o_me_9 15).toInt + 0) → ((gI o_me_9 14).toInt ≤ (gI o_me_9 13).toInt + (-1)) → ((gI o_me_9 14).toInt ≤ (gI o_me_9 15).toInt + (-1)) → ((gI o_me_9 15).toInt ≤ (gI o_me_9 13).toInt + 0) → (400 - (gI o_me_9 13).toInt).toNat < N9 → wp (lp_X9_next_243   N9 o_me_9) (fun (y : Ob) => IvX9 y ∧ Kp [8, 13, 19, 20, 21, 23, 26, 29, 30, 34, 38, 43, 59, 62] [3, 7, 10, 12, 22, 24, 25, 27, 28, 42, 48, 50, 51, 55] [(3, (0 : Int32))] o_me y ∧ ((gI y 15).toInt ≤ (gI y 13).toInt + 0)) := by
                          intro N9
                          induction N9 with
                          | zero =>
                            intro o_me_9 hI_me_9 hkp_me_9 hh230 hh231 hh232 hh233 hh234 hh235 hh236 hh237 hN9
                            exact absurd hN9 (Nat.not_lt_zero _)
                          | succ N9 ihx =>
                            have ih9 := ihx
                            intro o_me_9 hI_me_9 hkp_me_9 hh230 hh231 hh232 hh233 hh234 hh235 hh236 hh237 hN9
                            show wp (lb_X9_next_243   (lp_X9_next_243   N9) o_me_9) (fun (y : Ob) => IvX9 y ∧ Kp [8, 13, 19, 20, 21, 23, 26, 29, 30, 34, 38, 43, 59, 62] [3, 7, 10, 12, 22, 24, 25, 27, 28, 42, 48, 50, 51, 55] [(3, (0 : Int32))] o_me y ∧ ((gI y 15).toInt ≤ (gI y 13).toInt + 0))
                            unfold lb_X9_next_243
                            refine wp_if (fun c238 => ?_) (fun c238 => ?_)
                            · have c238 := cv_eq (a := (gI o_me_9 16).toInt) (b := 2) rfl (by decide) c238
                              exfalso; omega
                            · have c238 := cv_ne (a := (gI o_me_9 16).toInt) (b := 2) rfl (by decide) c238
                              refine wp_some ?_
                              exact (show IvX9 o_me_9 ∧ Kp [8, 13, 19, 20, 21, 23, 26, 29, 30, 34, 38, 43, 59, 62] [3, 7, 10, 12, 22, 24, 25, 27, 28, 42, 48, 50, 51, 55] [(3, (0 : Int32))] o_me o_me_9 ∧ ((gI o_me_9 15).toInt ≤ (gI o_me_9 13).toInt + 0) from ⟨hI_me_9, hkp_me_9, (by omega)⟩)
                        exact lp9 zfu o_me_8 hI_me_8 hkp_me_8 ⟨by omega, by omega⟩ ⟨by omega, by omega⟩ ⟨by omega, by omega⟩ ⟨by omega, by omega⟩ (by omega) (by omega) (by omega) (by omega) (by show _ < 100000; omega)
                      · have c225 := cv_nge (a := (gI o_me_8 15).toInt) (b := (gI o_me_8 13).toInt) rfl rfl c225
                        refine wp_gd (zin_of (m := 400) rfl (by omega) (by omega)) ?_
                        refine wp_bd (s_X9_isSmall   (gA o_me_8 12 (gI o_me_8 15).toNatClampNeg)    ) (fun z239 hz239 => ?_)
                        have hz239_0 := hz239
                        refine wp_if (fun c240 => ?_) (fun c240 => ?_)
                        · have c240 := cv_eq (a := z239.toInt) (b := 0) rfl (by decide) c240
                          have lp10 : ∀ (N10 : Nat) (o_me_10 : Ob), IvX9 o_me_10 → Kp [8, 13, 19, 20, 21, 23, 26, 29, 30, 34, 38, 43, 59, 62] [3, 7, 10, 12, 22, 24, 25, 27, 28, 42, 48, 50, 51, 55] [(3, (0 : Int32))] o_me o_me_10 → (1 ≤ (gI o_me_10 13).toInt ∧ (gI o_me_10 13).toInt ≤ 400) → (0 ≤ (gI o_me_10 14).toInt ∧ (gI o_me_10 14).toInt ≤ 399) → (0 ≤ (gI o_me_10 15).toInt ∧ (gI o_me_10 15).toInt ≤ 399) → (1 ≤ (gI o_me_10 16).toInt ∧ (gI o_me_10 16).toInt ≤ 1) → ((gI o_me_10 14).toInt ≤ (gI o_me_10 13).toInt + (-1)) → ((gI o_me_10 14).toInt ≤ (gI o_me_10 15).toInt + 0) → ((gI o_me_10 15).toInt ≤ (gI o_me_10 13).toInt + (-1)) → (400 - (gI o_me_10 13).toInt).toNat < N10 → wp (lp_X9_next_243   N10 o_me_10) (fun (y : Ob) => IvX9 y ∧ Kp [8, 13, 19, 20, 21, 23, 26, 29, 30, 34, 38, 43, 59, 62] [3, 7, 10, 12, 22, 24, 25, 27, 28, 42, 48, 50, 51, 55] [(3, (0 : Int32))] o_me y ∧ ((gI y 15).toInt ≤ (gI y 13).toInt + 0)) := by
                            intro N10
                            induction N10 with
                            | zero =>
                              intro o_me_10 hI_me_10 hkp_me_10 hh245 hh246 hh247 hh248 hh249 hh250 hh251 hN10
                              exact absurd hN10 (Nat.not_lt_zero _)
                            | succ N10 ihx =>
                              have ih10 := ihx
                              intro o_me_10 hI_me_10 hkp_me_10 hh245 hh246 hh247 hh248 hh249 hh250 hh251 hN10
                              show wp (lb_X9_next_243   (lp_X9_next_243   N10) o_me_10) (fun (y : Ob) => IvX9 y ∧ Kp [8, 13, 19, 20, 21, 23, 26, 29, 30, 34, 38, 43, 59, 62] [3, 7, 10, 12, 22, 24, 25, 27, 28, 42, 48, 50, 51, 55] [(3, (0 : Int32))] o_me y ∧ ((gI y 15).toInt ≤ (gI y 13).toInt + 0))
                              unfold lb_X9_next_243
                              refine wp_if (fun c252 => ?_) (fun c252 => ?_)
                              · have c252 := cv_eq (a := (gI o_me_10 16).toInt) (b := 2) rfl (by decide) c252
                                exfalso; omega
                              · have c252 := cv_ne (a := (gI o_me_10 16).toInt) (b := 2) rfl (by decide) c252
                                refine wp_some ?_
                                exact (show IvX9 o_me_10 ∧ Kp [8, 13, 19, 20, 21, 23, 26, 29, 30, 34, 38, 43, 59, 62] [3, 7, 10, 12, 22, 24, 25, 27, 28, 42, 48, 50, 51, 55] [(3, (0 : Int32))] o_me o_me_10 ∧ ((gI o_me_10 15).toInt ≤ (gI o_me_10 13).toInt + 0) from ⟨hI_me_10, hkp_me_10, (by omega)⟩)
                          exact lp10 zfu o_me_8 hI_me_8 hkp_me_8 ⟨by omega, by omega⟩ ⟨by omega, by omega⟩ ⟨by omega, by omega⟩ ⟨by omega, by omega⟩ (by omega) (by omega) (by omega) (by show _ < 100000; omega)
                        · have c240z := c240
                          have c240 := cv_ne (a := z239.toInt) (b := 0) rfl (by decide) c240
                          have t253 : ((gI o_me_8 15) - (gI o_me_8 14)).toInt = (gI o_me_8 15).toInt - (gI o_me_8 14).toInt := i32_sub rfl rfl (by omega) (by omega)
                          refine wp_if (fun c254 => ?_) (fun c254 => ?_)
                          · have c254 := cv_ge (a := ((gI o_me_8 15) - (gI o_me_8 14)).toInt) (b := 10) rfl (by decide) c254
                            obtain ⟨w255, ew255⟩ : ∃ z : Int64, z = (-1 : Int64) := ⟨_, rfl⟩
                            have tw255 : w255.toInt = (-1) := by rw [ew255]; decide
                            rw [show bk_X9_next_227  (lp_X9_next_149   N8) (-1 : Int64) o_me_8 = bk_X9_next_227  (lp_X9_next_149   N8) w255 o_me_8 from by rw [ew255]]
                            unfold bk_X9_next_227
                            refine wp_lt (fun o256 eo256 => ?_)
                            have hIo256 : IvX9 o256 := by rw [eo256]; exact hI_me_8
                            have ko256_k257 : (gI o256 13).toInt = (gI o_me_8 13).toInt := by rw [eo256]; rfl
                            have ko256_k258 : (gI o256 14).toInt = (gI o_me_8 14).toInt := by rw [eo256]; rfl
                            have ko256_k259 : (gI o256 15).toInt = (gI o_me_8 15).toInt := by rw [eo256]; rfl
                            have ko256_k260 : (gI o256 16).toInt = (gI o_me_8 16).toInt := by rw [eo256]; rfl
                            have ko256_v : (gL o256 17).toInt = w255.toInt := by rw [eo256]; rfl
                            have hkpo256 : Kp [8, 13, 19, 20, 21, 23, 26, 29, 30, 34, 38, 43, 59, 62] [3, 7, 10, 12, 22, 24, 25, 27, 28, 42, 48, 50, 51, 55] [(3, (0 : Int32))] o_me o256 := hkp_me_8.trans (by rw [eo256]; exact Kp.sL)
                            have t261 : ((gI o256 15) + (1 : Int32)).toInt = (gI o256 15).toInt + 1 := i32_add rfl (by decide) (by omega) (by omega)
                            refine wp_lt (fun o262 eo262 => ?_)
                            have hIo262 : IvX9 o262 := by rw [eo262]; exact ipX9_15 hIo256 ⟨by omega, by omega⟩
                            have ko262_k263 : (gI o262 13).toInt = (gI o256 13).toInt := by rw [eo262]; rfl
                            have ko262_k264 : (gI o262 14).toInt = (gI o256 14).toInt := by rw [eo262]; rfl
                            have ko262_k265 : (gI o262 16).toInt = (gI o256 16).toInt := by rw [eo262]; rfl
                            have ko262_k266 : (gL o262 17).toInt = (gL o256 17).toInt := by rw [eo262]; rfl
                            have ko262_v : (gI o262 15).toInt = ((gI o256 15) + (1 : Int32)).toInt := by rw [eo262]; rfl
                            have hkpo262 : Kp [8, 13, 19, 20, 21, 23, 26, 29, 30, 34, 38, 43, 59, 62] [3, 7, 10, 12, 22, 24, 25, 27, 28, 42, 48, 50, 51, 55] [(3, (0 : Int32))] o_me o262 := hkpo256.trans (by rw [eo262]; exact Kp.sI (by decide))
                            exact ih8 o262 hIo262 hkpo262 ⟨by omega, by omega⟩ ⟨by omega, by omega⟩ ⟨by omega, by omega⟩ ⟨by omega, by omega⟩ (by omega) (by omega) (by omega) (by omega)
                          · have c254 := cv_nge (a := ((gI o_me_8 15) - (gI o_me_8 14)).toInt) (b := 10) rfl (by decide) c254
                            refine wp_gd (zin_of (m := 400) rfl (by omega) (by omega)) ?_
                            have rg267 := i32_rg (gA o_me_8 12 (gI o_me_8 15).toNatClampNeg)
                            have t268 : ((gA o_me_8 12 (gI o_me_8 15).toNatClampNeg).toInt64).toInt = (gA o_me_8 12 (gI o_me_8 15).toNatClampNeg).toInt := Int32.toInt_toInt64 _
                            obtain ⟨w269, ew269⟩ : ∃ z : Int64, z = (((gL o_me_8 17) * (32 : Int64)) + ((gA o_me_8 12 (gI o_me_8 15).toNatClampNeg).toInt64)) - (96 : Int64) := ⟨_, rfl⟩
                            have tw269 : w269.toInt = ((((gL o_me_8 17) * (32 : Int64)) + ((gA o_me_8 12 (gI o_me_8 15).toNatClampNeg).toInt64)) - (96 : Int64)).toInt := by rw [ew269]
                            rw [show bk_X9_next_227  (lp_X9_next_149   N8) ((((gL o_me_8 17) * (32 : Int64)) + ((gA o_me_8 12 (gI o_me_8 15).toNatClampNeg).toInt64)) - (96 : Int64)) o_me_8 = bk_X9_next_227  (lp_X9_next_149   N8) w269 o_me_8 from by rw [ew269]]
                            unfold bk_X9_next_227
                            refine wp_lt (fun o270 eo270 => ?_)
                            have hIo270 : IvX9 o270 := by rw [eo270]; exact hI_me_8
                            have ko270_k271 : (gA o270 12 (gI o_me_8 15).toNatClampNeg).toInt = (gA o_me_8 12 (gI o_me_8 15).toNatClampNeg).toInt := by rw [eo270]; rfl
                            have ko270_k272 : (gI o270 13).toInt = (gI o_me_8 13).toInt := by rw [eo270]; rfl
                            have ko270_k273 : (gI o270 14).toInt = (gI o_me_8 14).toInt := by rw [eo270]; rfl
                            have ko270_k274 : (gI o270 15).toInt = (gI o_me_8 15).toInt := by rw [eo270]; rfl
                            have ko270_k275 : (gI o270 16).toInt = (gI o_me_8 16).toInt := by rw [eo270]; rfl
                            have ko270_v : (gL o270 17).toInt = w269.toInt := by rw [eo270]; rfl
                            have hkpo270 : Kp [8, 13, 19, 20, 21, 23, 26, 29, 30, 34, 38, 43, 59, 62] [3, 7, 10, 12, 22, 24, 25, 27, 28, 42, 48, 50, 51, 55] [(3, (0 : Int32))] o_me o270 := hkp_me_8.trans (by rw [eo270]; exact Kp.sL)
                            have t276 : ((gI o270 15) + (1 : Int32)).toInt = (gI o270 15).toInt + 1 := i32_add rfl (by decide) (by omega) (by omega)
                            refine wp_lt (fun o277 eo277 => ?_)
                            have hIo277 : IvX9 o277 := by rw [eo277]; exact ipX9_15 hIo270 ⟨by omega, by omega⟩
                            have ko277_k278 : (gA o277 12 (gI o_me_8 15).toNatClampNeg).toInt = (gA o270 12 (gI o_me_8 15).toNatClampNeg).toInt := by rw [eo277]; rfl
                            have ko277_k279 : (gI o277 13).toInt = (gI o270 13).toInt := by rw [eo277]; rfl
                            have ko277_k280 : (gI o277 14).toInt = (gI o270 14).toInt := by rw [eo277]; rfl
                            have ko277_k281 : (gI o277 16).toInt = (gI o270 16).toInt := by rw [eo277]; rfl
                            have ko277_k282 : (gL o277 17).toInt = (gL o270 17).toInt := by rw [eo277]; rfl
                            have ko277_v : (gI o277 15).toInt = ((gI o270 15) + (1 : Int32)).toInt := by rw [eo277]; rfl
                            have hkpo277 : Kp [8, 13, 19, 20, 21, 23, 26, 29, 30, 34, 38, 43, 59, 62] [3, 7, 10, 12, 22, 24, 25, 27, 28, 42, 48, 50, 51, 55] [(3, (0 : Int32))] o_me o277 := hkpo270.trans (by rw [eo277]; exact Kp.sI (by decide))
                            exact ih8 o277 hIo277 hkpo277 ⟨by omega, by omega⟩ ⟨by omega, by omega⟩ ⟨by omega, by omega⟩ ⟨by omega, by omega⟩ (by omega) (by omega) (by omega) (by omega)
                    · have c224 := cv_ne (a := (gI o_me_8 16).toInt) (b := 1) rfl (by decide) c224
                      exfalso; omega
                exact lp8 zfu o206 hIo206 hkpo206 ⟨by omega, by omega⟩ ⟨by omega, by omega⟩ ⟨by omega, by omega⟩ ⟨by omega, by omega⟩ (by omega) (by omega) (by omega) (by show _ < 100000; omega)
  exact lp1 zfu o2 hIo2 hkpo2 ⟨by omega, by omega⟩ ⟨by omega, by omega⟩ ⟨by omega, by omega⟩ ⟨by omega, by omega⟩ (by omega) (by omega) (by omega) (by show _ < 100000; omega)

