set_option maxHeartbeats 4000000 in
set_option maxRecDepth 100000 in
theorem s_X9_in (p0 : Int64) (p1 : Int64) (p2 : Int64)   : wp (f_X9_in   p0 p1 p2) (fun (y : Int32) => (0 ≤ y.toInt ∧ y.toInt ≤ 1) ∧ (¬ y = 0 → (p1.toInt ≤ p0.toInt + 0) ∧ (p0.toInt ≤ p2.toInt + 0))) := by
  have li0 : (0 : Int32).toInt = 0 := by decide
  have li1 : (1 : Int32).toInt = 1 := by decide
  unfold f_X9_in
  refine wp_if (fun c1 => ?_) (fun c1 => ?_)
  · have c1 := cvl_lt (a := p0.toInt) (b := p1.toInt) rfl rfl c1
    refine wp_some ?_
    exact (show (0 ≤ (0 : Int32).toInt ∧ (0 : Int32).toInt ≤ 1) ∧ (¬ (0 : Int32) = 0 → (p1.toInt ≤ p0.toInt + 0) ∧ (p0.toInt ≤ p2.toInt + 0)) from ⟨⟨by decide, by decide⟩, (fun h9 => absurd rfl h9)⟩)
  · have c1 := cvl_nlt (a := p0.toInt) (b := p1.toInt) rfl rfl c1
    refine wp_if (fun c2 => ?_) (fun c2 => ?_)
    · have c2 := cvl_gt (a := p0.toInt) (b := p2.toInt) rfl rfl c2
      refine wp_some ?_
      exact (show (0 ≤ (0 : Int32).toInt ∧ (0 : Int32).toInt ≤ 1) ∧ (¬ (0 : Int32) = 0 → (p1.toInt ≤ p0.toInt + 0) ∧ (p0.toInt ≤ p2.toInt + 0)) from ⟨⟨by decide, by decide⟩, (fun h9 => absurd rfl h9)⟩)
    · have c2 := cvl_ngt (a := p0.toInt) (b := p2.toInt) rfl rfl c2
      refine wp_some ?_
      exact (show (0 ≤ (1 : Int32).toInt ∧ (1 : Int32).toInt ≤ 1) ∧ (¬ (1 : Int32) = 0 → (p1.toInt ≤ p0.toInt + 0) ∧ (p0.toInt ≤ p2.toInt + 0)) from ⟨⟨by decide, by decide⟩, (fun h9 => ⟨by omega, by omega⟩)⟩)

set_option maxHeartbeats 4000000 in
set_option maxRecDepth 100000 in
theorem s_X9_isRace (p0 : Int32)   : wp (f_X9_isRace   p0) (fun (y : Int32) => (0 ≤ y.toInt ∧ y.toInt ≤ 1) ∧ (¬ y = 0 → (0 ≤ p0.toInt ∧ p0.toInt ≤ 3))) := by
  have li0 : (0 : Int64).toInt = 0 := by decide
  have li1 : (3 : Int64).toInt = 3 := by decide
  unfold f_X9_isRace
  have rg1 := i32_rg p0
  have t2 : p0.toInt64.toInt = p0.toInt := Int32.toInt_toInt64 _
  refine wp_bd (s_X9_in   p0.toInt64 (0 : Int64) (3 : Int64)    ) (fun z3 hz3 => ?_)
  obtain ⟨hz3_0, hz3_1⟩ := hz3
  refine wp_gd (zbo_of hz3_0.1 hz3_0.2) ?_
  refine wp_some ?_
  exact (show (0 ≤ z3.toInt ∧ z3.toInt ≤ 1) ∧ (¬ z3 = 0 → (0 ≤ p0.toInt ∧ p0.toInt ≤ 3)) from ⟨⟨hz3_0.1, hz3_0.2⟩, (fun h9 => by have i0 := hz3_1 h9; exact ⟨by omega, by omega⟩)⟩)

set_option maxHeartbeats 4000000 in
set_option maxRecDepth 100000 in
theorem s_X9_reckon (o_me : Ob) (p0 : Int32) (p1 : Int64) (p2 : Int64) (hI_me : IvX9 o_me)  : wp (f_X9_reckon   o_me p0 p1 p2) (fun (y : Int64 × Ob) => IvX9 y.2 ∧ Kp [1, 8, 11, 13, 14, 15, 16, 18, 19, 20, 21, 23, 26, 29, 34, 43, 56, 57, 58, 59, 62] [2, 3, 4, 5, 7, 10, 12, 22, 24, 25, 27, 28, 42, 48, 50, 51, 55, 61] [(0, 1), (1, 2), (29, 36), (36, 64), (64, 71)] o_me y.2) := by
  unfold f_X9_reckon
  refine wp_if (fun c1 => ?_) (fun c1 => ?_)
  · refine wp_some ?_
    exact (show IvX9 o_me ∧ Kp [1, 8, 11, 13, 14, 15, 16, 18, 19, 20, 21, 23, 26, 29, 34, 43, 56, 57, 58, 59, 62] [2, 3, 4, 5, 7, 10, 12, 22, 24, 25, 27, 28, 42, 48, 50, 51, 55, 61] [(0, 1), (1, 2), (29, 36), (36, 64), (64, 71)] o_me o_me from ⟨hI_me, Kp.rf⟩)
  refine wp_if (fun c2 => ?_) (fun c2 => ?_)
  · refine wp_some ?_
    exact (show IvX9 o_me ∧ Kp [1, 8, 11, 13, 14, 15, 16, 18, 19, 20, 21, 23, 26, 29, 34, 43, 56, 57, 58, 59, 62] [2, 3, 4, 5, 7, 10, 12, 22, 24, 25, 27, 28, 42, 48, 50, 51, 55, 61] [(0, 1), (1, 2), (29, 36), (36, 64), (64, 71)] o_me o_me from ⟨hI_me, Kp.rf⟩)
  refine wp_if (fun c3 => ?_) (fun c3 => ?_)
  · refine wp_some ?_
    exact (show IvX9 o_me ∧ Kp [1, 8, 11, 13, 14, 15, 16, 18, 19, 20, 21, 23, 26, 29, 34, 43, 56, 57, 58, 59, 62] [2, 3, 4, 5, 7, 10, 12, 22, 24, 25, 27, 28, 42, 48, 50, 51, 55, 61] [(0, 1), (1, 2), (29, 36), (36, 64), (64, 71)] o_me o_me from ⟨hI_me, Kp.rf⟩)
  refine wp_if (fun c4 => ?_) (fun c4 => ?_)
  · refine wp_if (fun c5 => ?_) (fun c5 => ?_)
    · have c5 := cvl_eq (a := p2.toInt) (b := 0) rfl (by decide) c5
      obtain ⟨w6, ew6⟩ : ∃ z : Int32, z = (1 : Int32) := ⟨_, rfl⟩
      have tw6 : w6.toInt = 1 := by rw [ew6]; decide
      rw [show bk_X9_reckon_72   p1 p2 (1 : Int32) o_me = bk_X9_reckon_72   p1 p2 w6 o_me from by rw [ew6]]
      unfold bk_X9_reckon_72
      refine wp_gd (zbo_of (Int.le_trans (by decide) (Int.le_of_eq tw6.symm)) (Int.le_of_eq tw6)) ?_
      refine wp_lt (fun o7 eo7 => ?_)
      have hIo7 : IvX9 o7 := by rw [eo7]; exact ipX9_38 hI_me ⟨(Int.le_trans (by decide) (Int.le_of_eq tw6.symm)), (Int.le_of_eq tw6)⟩
      have ko7_v : (gI o7 38).toInt = w6.toInt := by rw [eo7]; rfl
      have hkpo7 : Kp [1, 8, 11, 13, 14, 15, 16, 18, 19, 20, 21, 23, 26, 29, 34, 43, 56, 57, 58, 59, 62] [2, 3, 4, 5, 7, 10, 12, 22, 24, 25, 27, 28, 42, 48, 50, 51, 55, 61] [(0, 1), (1, 2), (29, 36), (36, 64), (64, 71)] o_me o7 := Kp.rf.trans (by rw [eo7]; exact Kp.sI (by decide))
      refine wp_if (fun c8 => ?_) (fun c8 => ?_)
      · have c8 := cv_eq (a := (gI o7 38).toInt) (b := 0) rfl (by decide) c8
        exact absurd c8 (zne_r (k := 0) (l := 1) (by decide) (zl_e (k := 1) (zq_0 ko7_v.symm) (Int.le_of_eq tw6.symm) (by decide)) (by decide))
      · refine wp_some ?_
        exact (show IvX9 o7 ∧ Kp [1, 8, 11, 13, 14, 15, 16, 18, 19, 20, 21, 23, 26, 29, 34, 43, 56, 57, 58, 59, 62] [2, 3, 4, 5, 7, 10, 12, 22, 24, 25, 27, 28, 42, 48, 50, 51, 55, 61] [(0, 1), (1, 2), (29, 36), (36, 64), (64, 71)] o_me o7 from ⟨hIo7, hkpo7⟩)
    · have c5z := mt (fun e9 => (lg_cmp_eq _ _).mpr e9) c5
      obtain ⟨w9, ew9⟩ : ∃ z : Int32, z = (0 : Int32) := ⟨_, rfl⟩
      have tw9 : w9.toInt = 0 := by rw [ew9]; decide
      rw [show bk_X9_reckon_72   p1 p2 (0 : Int32) o_me = bk_X9_reckon_72   p1 p2 w9 o_me from by rw [ew9]]
      unfold bk_X9_reckon_72
      refine wp_gd (zbo_of (Int.le_of_eq tw9.symm) (Int.le_trans (Int.le_of_eq tw9) (by decide))) ?_
      refine wp_lt (fun o10 eo10 => ?_)
      have hIo10 : IvX9 o10 := by rw [eo10]; exact ipX9_38 hI_me ⟨(Int.le_of_eq tw9.symm), (Int.le_trans (Int.le_of_eq tw9) (by decide))⟩
      have ko10_v : (gI o10 38).toInt = w9.toInt := by rw [eo10]; rfl
      have hkpo10 : Kp [1, 8, 11, 13, 14, 15, 16, 18, 19, 20, 21, 23, 26, 29, 34, 43, 56, 57, 58, 59, 62] [2, 3, 4, 5, 7, 10, 12, 22, 24, 25, 27, 28, 42, 48, 50, 51, 55, 61] [(0, 1), (1, 2), (29, 36), (36, 64), (64, 71)] o_me o10 := Kp.rf.trans (by rw [eo10]; exact Kp.sI (by decide))
      refine wp_if (fun c11 => ?_) (fun c11 => ?_)
      · have c11 := cv_eq (a := (gI o10 38).toInt) (b := 0) rfl (by decide) c11
        refine wp_gd (decide_eq_true c5z) ?_
        refine wp_some ?_
        exact (show IvX9 o10 ∧ Kp [1, 8, 11, 13, 14, 15, 16, 18, 19, 20, 21, 23, 26, 29, 34, 43, 56, 57, 58, 59, 62] [2, 3, 4, 5, 7, 10, 12, 22, 24, 25, 27, 28, 42, 48, 50, 51, 55, 61] [(0, 1), (1, 2), (29, 36), (36, 64), (64, 71)] o_me o10 from ⟨hIo10, hkpo10⟩)
      · have c11 := cv_ne (a := (gI o10 38).toInt) (b := 0) rfl (by decide) c11
        exact absurd (Int.le_antisymm (zu_e (zq_0 ko10_v) (Int.le_of_eq tw9) (by decide)) (zl_e (zq_0 ko10_v.symm) (Int.le_of_eq tw9.symm) (by decide))) c11
  refine wp_if (fun c12 => ?_) (fun c12 => ?_)
  · refine wp_if (fun c13 => ?_) (fun c13 => ?_)
    · have c13 := cvl_eq (a := p2.toInt) (b := 0) rfl (by decide) c13
      obtain ⟨w14, ew14⟩ : ∃ z : Int32, z = (1 : Int32) := ⟨_, rfl⟩
      have tw14 : w14.toInt = 1 := by rw [ew14]; decide
      rw [show bk_X9_reckon_104   p1 p2 (1 : Int32) o_me = bk_X9_reckon_104   p1 p2 w14 o_me from by rw [ew14]]
      unfold bk_X9_reckon_104
      refine wp_gd (zbo_of (Int.le_trans (by decide) (Int.le_of_eq tw14.symm)) (Int.le_of_eq tw14)) ?_
      refine wp_lt (fun o15 eo15 => ?_)
      have hIo15 : IvX9 o15 := by rw [eo15]; exact ipX9_38 hI_me ⟨(Int.le_trans (by decide) (Int.le_of_eq tw14.symm)), (Int.le_of_eq tw14)⟩
      have ko15_v : (gI o15 38).toInt = w14.toInt := by rw [eo15]; rfl
      have hkpo15 : Kp [1, 8, 11, 13, 14, 15, 16, 18, 19, 20, 21, 23, 26, 29, 34, 43, 56, 57, 58, 59, 62] [2, 3, 4, 5, 7, 10, 12, 22, 24, 25, 27, 28, 42, 48, 50, 51, 55, 61] [(0, 1), (1, 2), (29, 36), (36, 64), (64, 71)] o_me o15 := Kp.rf.trans (by rw [eo15]; exact Kp.sI (by decide))
      refine wp_if (fun c16 => ?_) (fun c16 => ?_)
      · have c16 := cv_eq (a := (gI o15 38).toInt) (b := 0) rfl (by decide) c16
        exact absurd c16 (zne_r (k := 0) (l := 1) (by decide) (zl_e (k := 1) (zq_0 ko15_v.symm) (Int.le_of_eq tw14.symm) (by decide)) (by decide))
      · refine wp_some ?_
        exact (show IvX9 o15 ∧ Kp [1, 8, 11, 13, 14, 15, 16, 18, 19, 20, 21, 23, 26, 29, 34, 43, 56, 57, 58, 59, 62] [2, 3, 4, 5, 7, 10, 12, 22, 24, 25, 27, 28, 42, 48, 50, 51, 55, 61] [(0, 1), (1, 2), (29, 36), (36, 64), (64, 71)] o_me o15 from ⟨hIo15, hkpo15⟩)
    · have c13z := mt (fun e9 => (lg_cmp_eq _ _).mpr e9) c13
      obtain ⟨w17, ew17⟩ : ∃ z : Int32, z = (0 : Int32) := ⟨_, rfl⟩
      have tw17 : w17.toInt = 0 := by rw [ew17]; decide
      rw [show bk_X9_reckon_104   p1 p2 (0 : Int32) o_me = bk_X9_reckon_104   p1 p2 w17 o_me from by rw [ew17]]
      unfold bk_X9_reckon_104
      refine wp_gd (zbo_of (Int.le_of_eq tw17.symm) (Int.le_trans (Int.le_of_eq tw17) (by decide))) ?_
      refine wp_lt (fun o18 eo18 => ?_)
      have hIo18 : IvX9 o18 := by rw [eo18]; exact ipX9_38 hI_me ⟨(Int.le_of_eq tw17.symm), (Int.le_trans (Int.le_of_eq tw17) (by decide))⟩
      have ko18_v : (gI o18 38).toInt = w17.toInt := by rw [eo18]; rfl
      have hkpo18 : Kp [1, 8, 11, 13, 14, 15, 16, 18, 19, 20, 21, 23, 26, 29, 34, 43, 56, 57, 58, 59, 62] [2, 3, 4, 5, 7, 10, 12, 22, 24, 25, 27, 28, 42, 48, 50, 51, 55, 61] [(0, 1), (1, 2), (29, 36), (36, 64), (64, 71)] o_me o18 := Kp.rf.trans (by rw [eo18]; exact Kp.sI (by decide))
      refine wp_if (fun c19 => ?_) (fun c19 => ?_)
      · have c19 := cv_eq (a := (gI o18 38).toInt) (b := 0) rfl (by decide) c19
        refine wp_gd (decide_eq_true c13z) ?_
        refine wp_some ?_
        exact (show IvX9 o18 ∧ Kp [1, 8, 11, 13, 14, 15, 16, 18, 19, 20, 21, 23, 26, 29, 34, 43, 56, 57, 58, 59, 62] [2, 3, 4, 5, 7, 10, 12, 22, 24, 25, 27, 28, 42, 48, 50, 51, 55, 61] [(0, 1), (1, 2), (29, 36), (36, 64), (64, 71)] o_me o18 from ⟨hIo18, hkpo18⟩)
      · have c19 := cv_ne (a := (gI o18 38).toInt) (b := 0) rfl (by decide) c19
        exact absurd (Int.le_antisymm (zu_e (zq_0 ko18_v) (Int.le_of_eq tw17) (by decide)) (zl_e (zq_0 ko18_v.symm) (Int.le_of_eq tw17.symm) (by decide))) c19
  refine wp_if (fun c20 => ?_) (fun c20 => ?_)
  · refine wp_if (fun c21 => ?_) (fun c21 => ?_)
    · refine wp_some ?_
      exact (show IvX9 o_me ∧ Kp [1, 8, 11, 13, 14, 15, 16, 18, 19, 20, 21, 23, 26, 29, 34, 43, 56, 57, 58, 59, 62] [2, 3, 4, 5, 7, 10, 12, 22, 24, 25, 27, 28, 42, 48, 50, 51, 55, 61] [(0, 1), (1, 2), (29, 36), (36, 64), (64, 71)] o_me o_me from ⟨hI_me, Kp.rf⟩)
    · refine wp_some ?_
      exact (show IvX9 o_me ∧ Kp [1, 8, 11, 13, 14, 15, 16, 18, 19, 20, 21, 23, 26, 29, 34, 43, 56, 57, 58, 59, 62] [2, 3, 4, 5, 7, 10, 12, 22, 24, 25, 27, 28, 42, 48, 50, 51, 55, 61] [(0, 1), (1, 2), (29, 36), (36, 64), (64, 71)] o_me o_me from ⟨hI_me, Kp.rf⟩)
  refine wp_if (fun c22 => ?_) (fun c22 => ?_)
  · refine wp_if (fun c23 => ?_) (fun c23 => ?_)
    · refine wp_some ?_
      exact (show IvX9 o_me ∧ Kp [1, 8, 11, 13, 14, 15, 16, 18, 19, 20, 21, 23, 26, 29, 34, 43, 56, 57, 58, 59, 62] [2, 3, 4, 5, 7, 10, 12, 22, 24, 25, 27, 28, 42, 48, 50, 51, 55, 61] [(0, 1), (1, 2), (29, 36), (36, 64), (64, 71)] o_me o_me from ⟨hI_me, Kp.rf⟩)
    · refine wp_some ?_
      exact (show IvX9 o_me ∧ Kp [1, 8, 11, 13, 14, 15, 16, 18, 19, 20, 21, 23, 26, 29, 34, 43, 56, 57, 58, 59, 62] [2, 3, 4, 5, 7, 10, 12, 22, 24, 25, 27, 28, 42, 48, 50, 51, 55, 61] [(0, 1), (1, 2), (29, 36), (36, 64), (64, 71)] o_me o_me from ⟨hI_me, Kp.rf⟩)
  refine wp_if (fun c24 => ?_) (fun c24 => ?_)
  · refine wp_some ?_
    exact (show IvX9 o_me ∧ Kp [1, 8, 11, 13, 14, 15, 16, 18, 19, 20, 21, 23, 26, 29, 34, 43, 56, 57, 58, 59, 62] [2, 3, 4, 5, 7, 10, 12, 22, 24, 25, 27, 28, 42, 48, 50, 51, 55, 61] [(0, 1), (1, 2), (29, 36), (36, 64), (64, 71)] o_me o_me from ⟨hI_me, Kp.rf⟩)
  · refine wp_some ?_
    exact (show IvX9 o_me ∧ Kp [1, 8, 11, 13, 14, 15, 16, 18, 19, 20, 21, 23, 26, 29, 34, 43, 56, 57, 58, 59, 62] [2, 3, 4, 5, 7, 10, 12, 22, 24, 25, 27, 28, 42, 48, 50, 51, 55, 61] [(0, 1), (1, 2), (29, 36), (36, 64), (64, 71)] o_me o_me from ⟨hI_me, Kp.rf⟩)

set_option maxHeartbeats 4000000 in
set_option maxRecDepth 100000 in
theorem s_X9_isPerson (o_me : Ob) (p0 : Int32) (hI_me : IvX9 o_me)  : wp (f_X9_isPerson   o_me p0) (fun (y : Int32) => (0 ≤ y.toInt ∧ y.toInt ≤ 1) ∧ (¬ y = 0 → (0 ≤ p0.toInt ∧ p0.toInt ≤ 6))) := by
  have li0 : (0 : Int32).toInt = 0 := by decide
  have li1 : (0 : Int64).toInt = 0 := by decide
  have li2 : (1 : Int64).toInt = 1 := by decide
  unfold f_X9_isPerson
  have rg1 := i32_rg p0
  have t2 : p0.toInt64.toInt = p0.toInt := Int32.toInt_toInt64 _
  have t3 := iaX9_3_0 hI_me (j := (0 : Int32)) (by decide) (by decide)
  have t4 : ((gA o_me 3 (0 : Int32).toNatClampNeg).toInt64).toInt = (gA o_me 3 (0 : Int32).toNatClampNeg).toInt := Int32.toInt_toInt64 _
  have t5 : (((gA o_me 3 (0 : Int32).toNatClampNeg).toInt64) - (1 : Int64)).toInt = ((gA o_me 3 (0 : Int32).toNatClampNeg).toInt64).toInt - 1 := i64_sub rfl (by decide) (zs_l (zl_e (k := 0) (zq_0 t4.symm) t3.1 (by decide)) (by decide)) (zs_u (zu_e (k := 7) (zq_0 t4) t3.2 (by decide)) (by decide))
  refine wp_bd (s_X9_in   p0.toInt64 (0 : Int64) (((gA o_me 3 (0 : Int32).toNatClampNeg).toInt64) - (1 : Int64))    ) (fun z6 hz6 => ?_)
  obtain ⟨hz6_0, hz6_1⟩ := hz6
  refine wp_gd (zbo_of hz6_0.1 hz6_0.2) ?_
  refine wp_some ?_
  exact (show (0 ≤ z6.toInt ∧ z6.toInt ≤ 1) ∧ (¬ z6 = 0 → (0 ≤ p0.toInt ∧ p0.toInt ≤ 6)) from ⟨⟨hz6_0.1, hz6_0.2⟩, (fun h9 => by have i0 := hz6_1 h9; exact ⟨by omega, by omega⟩)⟩)

-- reckoning: what is left to do at one place of the code
theorem h_r350 {rec : Int32 × Int32 × Int32 × Ob → Option Ob} {v2 v3 v4 : Int32} {o : Ob} {P : Ob → Prop} (h : wp (rec (v2, v3, v4, o)) P) : wp (bk_X9_reckonAll_350 rec v2 v3 v4 o) P := h
theorem h_r95 (op arg : Nat → Int32) (a b k : Nat) (hb : b ≤ 400) (h : Nat → Nat) (o0 : Ob) (P : Ob → Prop) (rec : Int32 × Int32 × Int32 × Ob → Option Ob) (v2 v3 v4 : Int32) (o : Ob)
    (hak : a ≤ k) (hkb : k < b) (hcs : CS op arg h b k) (hI : IvX9 o) (hK : Kp [1, 8, 11, 13, 14, 15, 16, 18, 19, 20, 21, 23, 26, 29, 34, 43, 56, 57, 58, 59, 62] [2, 3, 4, 5, 7, 10, 12, 22, 24, 25, 27, 28, 42, 48, 50, 51, 55, 61] [(0, 1), (1, 2), (29, 36), (36, 64), (64, 71)] o0 o) (e4 : v4.toInt = (k : Int)) (e3 : v3.toInt = (h k : Int)) (hh : h k + a ≤ k)
    (hrec : ∀ (w3 w4 : Int32) (o' : Ob) (k' : Nat), IvX9 o' → Kp [1, 8, 11, 13, 14, 15, 16, 18, 19, 20, 21, 23, 26, 29, 34, 43, 56, 57, 58, 59, 62] [2, 3, 4, 5, 7, 10, 12, 22, 24, 25, 27, 28, 42, 48, 50, 51, 55, 61] [(0, 1), (1, 2), (29, 36), (36, 64), (64, 71)] o0 o' → w4.toInt = (k' : Int) → k < k' → k' ≤ b → w3.toInt = (h k' : Int) → h k' + a ≤ k' → wp (rec (v2, w3, w4, o')) P) :
    wp (bk_X9_reckonAll_95 rec v2 v3 v4 (op k) (arg k) o) P := by
  unfold bk_X9_reckonAll_95
  refine wp_lt (fun x5 e5 => ?_)
  have t5 : x5.toInt = (k : Int) + 1 := by rw [e5]; exact i32_add e4 (by decide) (by omega) (by omega)
  have h204 : ∀ (s0 : Int64) (o' : Ob), IvX9 o' → Kp [1, 8, 11, 13, 14, 15, 16, 18, 19, 20, 21, 23, 26, 29, 34, 43, 56, 57, 58, 59, 62] [2, 3, 4, 5, 7, 10, 12, 22, 24, 25, 27, 28, 42, 48, 50, 51, 55, 61] [(0, 1), (1, 2), (29, 36), (36, 64), (64, 71)] o0 o' → h (k + 1) = h k + 1 → wp (bk_X9_reckonAll_204 rec v2 v3 x5 s0 v3 o') P := by
    intro s0 o' hI' hK' e
    unfold bk_X9_reckonAll_204
    refine wp_gd (zin_of (m := 400) rfl (by omega) (by omega)) ?_
    refine wp_lt (fun o24 e24 => ?_)
    refine wp_lt (fun x25 e25 => ?_)
    have t25 : x25.toInt = (h k : Int) + 1 := by rw [e25]; exact i32_add e3 (by decide) (by omega) (by omega)
    refine h_r350 (hrec x25 x5 o24 (k + 1) (by rw [e24]; exact hI') (hK'.trans (by rw [e24]; exact Kp.tM)) (by omega) (by omega) (by omega) (by omega) (by omega))
  rcases hcs with ⟨c1, c2, c3⟩ | ⟨c1, c2, c3, c4⟩ | ⟨c1, c3, c4⟩ | ⟨c1, c2, c3, c4, c5, c6, c7⟩
  · refine wp_if (fun c => ?_) (fun c => ?_)
    · exfalso; have c := cv_le (a := 20) (b := (op k).toInt) (by decide) rfl c; omega
    refine wp_if (fun c => ?_) (fun c => ?_)
    · exact h204 _ o hI hK c3
    refine wp_if (fun c => ?_) (fun c => ?_)
    · exact wp_gd (zin_of (m := 13) rfl (by omega) (by omega)) (h204 _ o hI hK c3)
    refine wp_if (fun c => ?_) (fun c => ?_)
    · refine wp_bd (s_X9_isPerson o (arg k) hI) (fun z hz => ?_)
      refine wp_if (fun cz => ?_) (fun cz => ?_)
      · exact h204 _ o hI hK c3
      have hz2 := hz.2 cz
      refine wp_if (fun c => ?_) (fun c => ?_)
      · have t : ((15 : Int32) + arg k).toInt = 15 + (arg k).toInt := i32_add (by decide) rfl (by omega) (by omega)
        exact wp_gd (zin_of (m := 5484) rfl (by omega) (by omega)) (h204 _ o hI hK c3)
      · have t : ((8 : Int32) + arg k).toInt = 8 + (arg k).toInt := i32_add (by decide) rfl (by omega) (by omega)
        exact wp_gd (zin_of (m := 5484) rfl (by omega) (by omega)) (h204 _ o hI hK c3)
    · exact wp_gd (zin_of (m := 13) rfl (by omega) (by omega)) (h204 _ o hI hK c3)
  · refine wp_if (fun c => ?_) (fun c => ?_)
    rotate_left
    · exfalso; have c := cv_nle (a := 20) (b := (op k).toInt) (by decide) rfl c; omega
    refine wp_if (fun c => ?_) (fun c => ?_)
    · exfalso; have c := cv_le (a := 28) (b := (op k).toInt) (by decide) rfl c; omega
    refine wp_lt (fun x11 e11 => ?_)
    have t11 : x11.toInt = (h k : Int) + (-1) := by rw [e11]; exact i32_add e3 (by decide) (by omega) (by omega)
    have t12 : (x11 - (1 : Int32)).toInt = x11.toInt - 1 := i32_sub rfl (by decide) (by omega) (by omega)
    refine wp_gd (zin_of (m := 400) rfl (by omega) (by omega)) ?_
    refine wp_gd (zin_of (m := 400) rfl (by omega) (by omega)) ?_
    refine wp_bd (s_X9_reckon o (op k) _ _ hI) (fun z hz => ?_)
    refine wp_gd (zin_of (m := 400) rfl (by omega) (by omega)) ?_
    refine wp_lt (fun o16 e16 => ?_)
    have hI16 : IvX9 o16 := by rw [e16]; exact hz.1
    have hK16 : Kp [1, 8, 11, 13, 14, 15, 16, 18, 19, 20, 21, 23, 26, 29, 34, 43, 56, 57, 58, 59, 62] [2, 3, 4, 5, 7, 10, 12, 22, 24, 25, 27, 28, 42, 48, 50, 51, 55, 61] [(0, 1), (1, 2), (29, 36), (36, 64), (64, 71)] o0 o16 := (hK.trans hz.2).trans (by rw [e16]; exact Kp.tM)
    have h282 : ∀ s0 : Int32, 0 ≤ s0.toInt → s0.toInt ≤ 1 → wp (bk_X9_reckonAll_282 rec v2 x11 x5 s0 o16) P := by
      intro s0 g0 g1
      unfold bk_X9_reckonAll_282
      refine wp_gd (zbo_of g0 g1) ?_
      refine wp_lt (fun o18 e18 => ?_)
      exact h_r350 (hrec x11 x5 o18 (k + 1) (by rw [e18]; exact ipX9_38 hI16 ⟨g0, g1⟩) (hK16.trans (by rw [e18]; exact Kp.sI (by decide))) (by omega) (by omega) (by omega) (by omega) (by omega))
    have h277 : wp (bk_X9_reckonAll_277 rec v2 x11 x5 o16) P := h282 1 (by decide) (by decide)
    refine wp_if (fun c => ?_) (fun c => ?_)
    · refine wp_gd (zin_of (m := 400) rfl (by omega) (by omega)) ?_
      refine wp_bd (s_X9_in _ _ _) (fun z20 hz20 => ?_)
      refine wp_if (fun c => ?_) (fun c => ?_)
      · exact h277
      · exact h282 0 (by decide) (by decide)
    · exact h277
  · refine wp_if (fun c => ?_) (fun c => ?_)
    rotate_left
    · exfalso; have c := cv_nle (a := 20) (b := (op k).toInt) (by decide) rfl c; omega
    refine wp_if (fun c => ?_) (fun c => ?_)
    rotate_left
    · exfalso; have c := cv_nle (a := 28) (b := (op k).toInt) (by decide) rfl c; omega
    have t12 : (v3 - (1 : Int32)).toInt = v3.toInt - 1 := i32_sub rfl (by decide) (by omega) (by omega)
    refine wp_if (fun c => ?_) (fun c => ?_)
    rotate_left
    · exfalso; have c := cv_ne (a := (op k).toInt) (b := 28) rfl (by decide) c; omega
    refine wp_gd (zin_of (m := 400) rfl (by omega) (by omega)) ?_
    refine wp_gd (zin_of (m := 400) rfl (by omega) (by omega)) ?_
    refine wp_lt (fun o10 e10 => ?_)
    exact h_r350 (hrec v3 x5 o10 (k + 1) (by rw [e10]; exact hI) (hK.trans (by rw [e10]; exact Kp.tM)) (by omega) (by omega) (by omega) (by omega) (by omega))
  · refine wp_if (fun c => ?_) (fun c => ?_)
    rotate_left
    · exfalso; have c := cv_nle (a := 20) (b := (op k).toInt) (by decide) rfl c; omega
    refine wp_if (fun c => ?_) (fun c => ?_)
    rotate_left
    · exfalso; have c := cv_nle (a := 28) (b := (op k).toInt) (by decide) rfl c; omega
    have t12 : (v3 - (1 : Int32)).toInt = v3.toInt - 1 := i32_sub rfl (by decide) (by omega) (by omega)
    have h336 : ∀ s0 s1 : Int64, wp (bk_X9_reckonAll_336 rec v2 v3 x5 (arg k) s0 s1 o) P := by
      intro s0 s1
      unfold bk_X9_reckonAll_336
      refine wp_if (fun c => ?_) (fun c => ?_)
      · refine h_r350 (hrec v3 (arg k) o (arg k).toInt.toNat hI hK (by omega) (by omega) (by omega) (by omega) (by omega))
      · refine wp_lt (fun x7 e7 => ?_)
        have t7 : x7.toInt = (h k : Int) + (-1) := by rw [e7]; exact i32_add e3 (by decide) (by omega) (by omega)
        exact h_r350 (hrec x7 x5 o (k + 1) hI hK (by omega) (by omega) (by omega) (by omega) (by omega))
    refine wp_if (fun c => ?_) (fun c => ?_)
    · exfalso; have c := cv_eq (a := (op k).toInt) (b := 28) rfl (by decide) c; omega
    refine wp_gd (zin_of (m := 400) rfl (by omega) (by omega)) ?_
    refine wp_if (fun c => ?_) (fun c => ?_)
    · exact h336 _ _
    · exact h336 _ _
-- where the code is read: a law's, or the orders'
def RD (op arg : Nat → Int32) (o : Ob) : Prop :=
  (gI o 20 = 0 ∧ ∃ l : Nat, l < 6 ∧ (gI o 34).toInt = 84 + 900 * (l : Int) ∧ ∀ k, op k = gA o 3 (84 + 900 * l + 98 + 2 * k) ∧ arg k = gA o 3 (84 + 900 * l + 98 + 2 * k + 1)) ∨
  (¬ gI o 20 = 0 ∧ ∀ k, op k = gA o 24 k ∧ arg k = gA o 25 k)
theorem h_rloop (op arg : Nat → Int32) (a b : Nat) (hb : b ≤ 400) (h : Nat → Nat) (hcs : ∀ k, a ≤ k → k < b → CS op arg h b k) (o0 : Ob) (hrd : RD op arg o0) :
    ∀ (N : Nat) (v2 v3 v4 : Int32) (o : Ob) (k : Nat), IvX9 o → Kp [1, 8, 11, 13, 14, 15, 16, 18, 19, 20, 21, 23, 26, 29, 34, 43, 56, 57, 58, 59, 62] [2, 3, 4, 5, 7, 10, 12, 22, 24, 25, 27, 28, 42, 48, 50, 51, 55, 61] [(0, 1), (1, 2), (29, 36), (36, 64), (64, 71)] o0 o → v2.toInt = (b : Int) → v4.toInt = (k : Int) → a ≤ k → k ≤ b → v3.toInt = (h k : Int) → h k + a ≤ k → b < N + k → wp (lp_X9_reckonAll_10 N (v2, v3, v4, o)) (fun y => IvX9 y ∧ Kp [1, 8, 11, 13, 14, 15, 16, 18, 19, 20, 21, 23, 26, 29, 34, 43, 56, 57, 58, 59, 62] [2, 3, 4, 5, 7, 10, 12, 22, 24, 25, 27, 28, 42, 48, 50, 51, 55, 61] [(0, 1), (1, 2), (29, 36), (36, 64), (64, 71)] o0 y) := by
  intro N
  induction N with
  | zero => intro v2 v3 v4 o k _ _ _ _ _ _ _ _ hN; exfalso; omega
  | succ N ih =>
    intro v2 v3 v4 o k hI hK e2 e4 hak hkb e3 hh hN
    show wp (lb_X9_reckonAll_10 (lp_X9_reckonAll_10 N) v2 v3 v4 o) _
    unfold lb_X9_reckonAll_10
    have hend : wp (bk_X9_reckonAll_353 v3 o) (fun y => IvX9 y ∧ Kp [1, 8, 11, 13, 14, 15, 16, 18, 19, 20, 21, 23, 26, 29, 34, 43, 56, 57, 58, 59, 62] [2, 3, 4, 5, 7, 10, 12, 22, 24, 25, 27, 28, 42, 48, 50, 51, 55, 61] [(0, 1), (1, 2), (29, 36), (36, 64), (64, 71)] o0 y) := by
      have h368 : ∀ s0 : Int64, wp (bk_X9_reckonAll_368 s0 o) (fun y => IvX9 y ∧ Kp [1, 8, 11, 13, 14, 15, 16, 18, 19, 20, 21, 23, 26, 29, 34, 43, 56, 57, 58, 59, 62] [2, 3, 4, 5, 7, 10, 12, 22, 24, 25, 27, 28, 42, 48, 50, 51, 55, 61] [(0, 1), (1, 2), (29, 36), (36, 64), (64, 71)] o0 y) := by
        intro s0
        unfold bk_X9_reckonAll_368
        refine wp_lt (fun o2 e2 => ?_)
        exact wp_some ⟨by rw [e2]; exact hI, hK.trans (by rw [e2]; exact Kp.sL)⟩
      unfold bk_X9_reckonAll_353
      exact wp_if (fun c => h368 _) (fun c => h368 _)
    refine wp_if (fun c => hend) (fun c => ?_)
    have c := cv_nle (a := v2.toInt) (b := v4.toInt) rfl rfl c
    refine wp_if (fun c2 => ?_) (fun c2 => hend)
    have h95 : wp (bk_X9_reckonAll_95 (lp_X9_reckonAll_10 N) v2 v3 v4 (op k) (arg k) o) (fun y => IvX9 y ∧ Kp [1, 8, 11, 13, 14, 15, 16, 18, 19, 20, 21, 23, 26, 29, 34, 43, 56, 57, 58, 59, 62] [2, 3, 4, 5, 7, 10, 12, 22, 24, 25, 27, 28, 42, 48, 50, 51, 55, 61] [(0, 1), (1, 2), (29, 36), (36, 64), (64, 71)] o0 y) := by
      refine h_r95 op arg a b k hb h o0 _ _ v2 v3 v4 o hak (by omega) (hcs k hak (by omega)) hI hK e4 e3 hh ?_
      intro w3 w4 o' k' g1 g2 g3 g4 g5 g6 g7
      exact ih v2 w3 w4 o' k' g1 g2 e2 g3 (by omega) g5 g6 g7 (by omega)
    have k20 : gI o 20 = gI o0 20 := hK.1 20 (by decide)
    rcases hrd with ⟨r1, l, r2, r3, r4⟩ | ⟨r1, r4⟩
    · have k34 : gI o 34 = gI o0 34 := hK.1 34 (by decide)
      have k3 : gA o 3 = gA o0 3 := hK.2.1 3 (by decide)
      have a1 : ((gI o 34) + (98 : Int32)).toInt = 84 + 900 * (l : Int) + 98 := i32_add (by rw [k34]; exact r3) (by decide) (by omega) (by omega)
      have a2 : ((2 : Int32) * v4).toInt = 2 * (k : Int) := i32_mul (by decide) e4 (by omega) (by omega)
      have a3 : (((gI o 34) + (98 : Int32)) + ((2 : Int32) * v4)).toInt = 84 + 900 * (l : Int) + 98 + 2 * (k : Int) := i32_add a1 a2 (by omega) (by omega)
      have a4 : ((((gI o 34) + (98 : Int32)) + ((2 : Int32) * v4)) + (1 : Int32)).toInt = 84 + 900 * (l : Int) + 98 + 2 * (k : Int) + 1 := i32_add a3 (by decide) (by omega) (by omega)
      have n3 : (((gI o 34) + (98 : Int32)) + ((2 : Int32) * v4)).toNatClampNeg = 84 + 900 * l + 98 + 2 * k := tnc_eq (by omega)
      have n4 : ((((gI o 34) + (98 : Int32)) + ((2 : Int32) * v4)) + (1 : Int32)).toNatClampNeg = 84 + 900 * l + 98 + 2 * k + 1 := tnc_eq (by omega)
      refine wp_if (fun c3 => ?_) (fun c3 => absurd (k20.trans r1) c3)
      refine wp_gd (zin_of (m := 5484) rfl (by omega) (by omega)) ?_
      unfold bk_X9_reckonAll_57
      refine wp_if (fun c4 => ?_) (fun c4 => absurd (k20.trans r1) c4)
      refine wp_gd (zin_of (m := 5484) rfl (by omega) (by omega)) ?_
      rw [n3, n4, k3, ← (r4 k).1, ← (r4 k).2]
      exact h95
    · have k24 : gA o 24 = gA o0 24 := hK.2.1 24 (by decide)
      have k25 : gA o 25 = gA o0 25 := hK.2.1 25 (by decide)
      have n4 : v4.toNatClampNeg = k := tnc_eq e4
      refine wp_if (fun c3 => absurd (k20.symm.trans c3) r1) (fun c3 => ?_)
      refine wp_gd (zin_of (m := 400) rfl (by omega) (by omega)) ?_
      unfold bk_X9_reckonAll_57
      refine wp_if (fun c4 => absurd (k20.symm.trans c4) r1) (fun c4 => ?_)
      refine wp_gd (zin_of (m := 400) rfl (by omega) (by omega)) ?_
      rw [n4, k24, k25, ← (r4 k).1, ← (r4 k).2]
      exact h95
theorem h_reckonAll (op arg : Nat → Int32) (a b : Nat) (hab : a ≤ b) (hb : b ≤ 400) (hc : CW op arg a b) (o : Ob) (hI : IvX9 o) (hrd : RD op arg o) (p0 p1 : Int32) (e0 : p0.toInt = (a : Int)) (e1 : p1.toInt = (b : Int)) :
    wp (f_X9_reckonAll o p0 p1) (fun y => IvX9 y ∧ Kp [1, 8, 11, 13, 14, 15, 16, 18, 19, 20, 21, 23, 26, 29, 34, 43, 56, 57, 58, 59, 62] [2, 3, 4, 5, 7, 10, 12, 22, 24, 25, 27, 28, 42, 48, 50, 51, 55, 61] [(0, 1), (1, 2), (29, 36), (36, 64), (64, 71)] o y) := by
  obtain ⟨h, h0, hcs⟩ := hc
  unfold f_X9_reckonAll
  refine wp_lt (fun o1 e1' => ?_)
  have hI1 : IvX9 o1 := by rw [e1']; exact ipX9_38 hI ⟨by decide, by decide⟩
  have hK1 : Kp [1, 8, 11, 13, 14, 15, 16, 18, 19, 20, 21, 23, 26, 29, 34, 43, 56, 57, 58, 59, 62] [2, 3, 4, 5, 7, 10, 12, 22, 24, 25, 27, 28, 42, 48, 50, 51, 55, 61] [(0, 1), (1, 2), (29, 36), (36, 64), (64, 71)] o o1 := by rw [e1']; exact Kp.sI (by decide)
  refine h_rloop op arg a b hb h hcs o hrd zfu p1 0 p0 o1 a hI1 hK1 e1 e0 (Nat.le_refl _) hab (by rw [h0]; decide) (by omega) ?_
  show b < 100000 + a
  omega
-- a clause of a law
theorem RD.kp {op arg : Nat → Int32} {o o' : Ob} (h : RD op arg o) (hK : Kp [1, 8, 11, 13, 14, 15, 16, 18, 19, 20, 21, 23, 26, 29, 34, 43, 56, 57, 58, 59, 62] [2, 3, 4, 5, 7, 10, 12, 22, 24, 25, 27, 28, 42, 48, 50, 51, 55, 61] [(0, 1), (1, 2), (29, 36), (36, 64), (64, 71)] o o') : RD op arg o' := by
  have k20 : gI o' 20 = gI o 20 := hK.1 20 (by decide)
  have k34 : gI o' 34 = gI o 34 := hK.1 34 (by decide)
  have k3 : gA o' 3 = gA o 3 := hK.2.1 3 (by decide)
  have k24 : gA o' 24 = gA o 24 := hK.2.1 24 (by decide)
  have k25 : gA o' 25 = gA o 25 := hK.2.1 25 (by decide)
  rcases h with ⟨r1, l, r2, r3, r4⟩ | ⟨r1, r4⟩
  · exact Or.inl ⟨k20.trans r1, l, r2, by rw [k34]; exact r3, fun k => by rw [k3]; exact r4 k⟩
  · exact Or.inr ⟨fun e => r1 (k20.symm.trans e), fun k => by rw [k24, k25]; exact r4 k⟩
theorem h_isSo (op arg : Nat → Int32) (o : Ob) (hI : IvX9 o) (hrd : RD op arg o) (p0 : Int32) (s : Nat) (e0 : p0.toInt = (s : Int)) (hs : s ≤ 5400) (hw : WC (fun i => gA o 3 (s + i)) op arg) :
    wp (f_X9_isSo o p0) (fun y => IvX9 y.2 ∧ Kp [1, 8, 11, 13, 14, 15, 16, 18, 19, 20, 21, 23, 26, 29, 34, 43, 56, 57, 58, 59, 62] [2, 3, 4, 5, 7, 10, 12, 22, 24, 25, 27, 28, 42, 48, 50, 51, 55, 61] [(0, 1), (1, 2), (29, 36), (36, 64), (64, 71)] o y.2) := by
  obtain ⟨a, b, d, hab, hbd, hd, q3, q4, q5, q6, w1, w2⟩ := hw
  have ad : ∀ n : Int32, ∀ i : Nat, n.toInt = (i : Int) → i ≤ 8 → (p0 + n).toInt = (s : Int) + i ∧ (p0 + n).toNatClampNeg = s + i := by
    intro n i en hi
    have t : (p0 + n).toInt = (s : Int) + i := i32_add e0 en (by omega) (by omega)
    exact ⟨t, tnc_eq (by omega)⟩
  have a3 := ad 3 3 (by decide) (by omega)
  have a4 := ad 4 4 (by decide) (by omega)
  have a5 := ad 5 5 (by decide) (by omega)
  have a6 := ad 6 6 (by decide) (by omega)
  have n0 : p0.toNatClampNeg = s := tnc_eq e0
  have h59 : ∀ o' : Ob, IvX9 o' → Kp [1, 8, 11, 13, 14, 15, 16, 18, 19, 20, 21, 23, 26, 29, 34, 43, 56, 57, 58, 59, 62] [2, 3, 4, 5, 7, 10, 12, 22, 24, 25, 27, 28, 42, 48, 50, 51, 55, 61] [(0, 1), (1, 2), (29, 36), (36, 64), (64, 71)] o o' → wp (bk_X9_isSo_59 p0 o') (fun y => IvX9 y.2 ∧ Kp [1, 8, 11, 13, 14, 15, 16, 18, 19, 20, 21, 23, 26, 29, 34, 43, 56, 57, 58, 59, 62] [2, 3, 4, 5, 7, 10, 12, 22, 24, 25, 27, 28, 42, 48, 50, 51, 55, 61] [(0, 1), (1, 2), (29, 36), (36, 64), (64, 71)] o y.2) := by
    intro o' hI' hK'
    have k3 : gA o' 3 = gA o 3 := hK'.2.1 3 (by decide)
    unfold bk_X9_isSo_59
    refine wp_gd (zin_of (m := 5484) rfl (by omega) (by omega)) ?_
    refine wp_if (fun c => wp_some ⟨hI', hK'⟩) (fun c => ?_)
    refine wp_gd (zin_of (m := 5484) rfl (by omega) (by omega)) ?_
    refine wp_gd (zin_of (m := 5484) rfl (by omega) (by omega)) ?_
    rw [a3.2, a4.2, k3]
    refine wp_bd (h_reckonAll op arg a b hab (by omega) w1 o' hI' (hrd.kp hK') _ _ q3 q4) (fun z hz => ?_)
    refine wp_lt (fun o7 e7 => ?_)
    have hI7 : IvX9 o7 := by rw [e7]; exact hz.1
    have hK7 : Kp [1, 8, 11, 13, 14, 15, 16, 18, 19, 20, 21, 23, 26, 29, 34, 43, 56, 57, 58, 59, 62] [2, 3, 4, 5, 7, 10, 12, 22, 24, 25, 27, 28, 42, 48, 50, 51, 55, 61] [(0, 1), (1, 2), (29, 36), (36, 64), (64, 71)] o o7 := (hK'.trans hz.2).trans (by rw [e7]; exact Kp.sL)
    exact wp_if (fun c => wp_some ⟨hI7, hK7⟩) (fun c => wp_some ⟨hI7, hK7⟩)
  unfold f_X9_isSo
  refine wp_gd (zin_of (m := 5484) rfl (by omega) (by omega)) ?_
  refine wp_gd (zin_of (m := 5484) rfl (by omega) (by omega)) ?_
  refine wp_if (fun c => h59 o hI Kp.rf) (fun c => ?_)
  refine wp_gd (zin_of (m := 5484) rfl (by omega) (by omega)) ?_
  refine wp_gd (zin_of (m := 5484) rfl (by omega) (by omega)) ?_
  rw [a5.2, a6.2]
  refine wp_bd (h_reckonAll op arg b d hbd hd w2 o hI hrd _ _ q5 q6) (fun z hz => ?_)
  refine wp_if (fun c => ?_) (fun c => wp_some hz)
  refine wp_if (fun c => wp_some hz) (fun c => h59 z hz.1 hz.2)
theorem h_tells (o0 : Ob) (l : Nat) (hl : l < 6) (ho : gI o0 20 = 0) (e34 : (gI o0 34).toInt = 84 + 900 * (l : Int)) :
    ∀ (N : Nat) (v1 : Int32) (v7 : Int64) (v9 : Int32) (o : Ob) (c : Nat), IvX9 o → Kp [1, 8, 11, 13, 14, 15, 16, 18, 19, 20, 21, 23, 26, 29, 34, 43, 56, 57, 58, 59, 62] [2, 3, 4, 5, 7, 10, 12, 22, 24, 25, 27, 28, 42, 48, 50, 51, 55, 61] [(0, 1), (1, 2), (29, 36), (36, 64), (64, 71)] o0 o → v9.toInt = (c : Int) → c ≤ 12 → 12 < N + c → wp (lp_X9_tells_159 N (v1, v7, v9, o)) (fun y => IvX9 y.2 ∧ Kp [1, 8, 11, 13, 14, 15, 16, 18, 19, 20, 21, 23, 26, 29, 34, 43, 56, 57, 58, 59, 62] [2, 3, 4, 5, 7, 10, 12, 22, 24, 25, 27, 28, 42, 48, 50, 51, 55, 61] [(0, 1), (1, 2), (29, 36), (36, 64), (64, 71)] o0 y.2) := by
  intro N
  induction N with
  | zero => intro v1 v7 v9 o c _ _ _ _ _; exfalso; omega
  | succ N ih =>
    intro v1 v7 v9 o c hI hK e9 hc hN
    show wp (lb_X9_tells_159 (lp_X9_tells_159 N) v1 v7 v9 o) _
    unfold lb_X9_tells_159
    have k20 : gI o 20 = gI o0 20 := hK.1 20 (by decide)
    have k34 : gI o 34 = gI o0 34 := hK.1 34 (by decide)
    have e34' : (gI o 34).toInt = 84 + 900 * (l : Int) := by rw [k34]; exact e34
    have a1 : ((gI o 34) + (1 : Int32)).toInt = 84 + 900 * (l : Int) + 1 := i32_add e34' (by decide) (by omega) (by omega)
    have n1 : ((gI o 34) + (1 : Int32)).toNatClampNeg = 84 + 900 * l + 1 := tnc_eq (by omega)
    have hx := h9last hI
    have hwl := hx.1.1 l hl
    refine wp_gd (zin_of (m := 5484) rfl (by omega) (by omega)) ?_
    rw [n1]
    refine wp_if (fun _ => wp_some ⟨hI, hK⟩) (fun c1 => ?_)
    have c1 := cv_nle (a := (gA o 3 (84 + 900 * l + 1)).toInt) (b := (c : Int)) rfl e9 c1
    have hr := hwl.1
    have hwc := hwl.2 c c1
    have h224 : ∀ (v7 : Int64) (o' : Ob), IvX9 o' → Kp [1, 8, 11, 13, 14, 15, 16, 18, 19, 20, 21, 23, 26, 29, 34, 43, 56, 57, 58, 59, 62] [2, 3, 4, 5, 7, 10, 12, 22, 24, 25, 27, 28, 42, 48, 50, 51, 55, 61] [(0, 1), (1, 2), (29, 36), (36, 64), (64, 71)] o0 o' → wp (bk_X9_tells_224 (lp_X9_tells_159 N) v1 v7 v9 o') (fun y => IvX9 y.2 ∧ Kp [1, 8, 11, 13, 14, 15, 16, 18, 19, 20, 21, 23, 26, 29, 34, 43, 56, 57, 58, 59, 62] [2, 3, 4, 5, 7, 10, 12, 22, 24, 25, 27, 28, 42, 48, 50, 51, 55, 61] [(0, 1), (1, 2), (29, 36), (36, 64), (64, 71)] o0 y.2) := by
      intro v7 o' hI' hK'
      unfold bk_X9_tells_224
      refine wp_lt (fun x17 e17 => ?_)
      have t17 : x17.toInt = (c : Int) + 1 := by rw [e17]; exact i32_add e9 (by decide) (by omega) (by omega)
      exact ih v1 v7 x17 o' (c + 1) hI' hK' (by omega) (by omega) (by omega)
    refine wp_lt (fun x15 e15 => ?_)
    have a2 : ((gI o 34) + (2 : Int32)).toInt = 84 + 900 * (l : Int) + 2 := i32_add e34' (by decide) (by omega) (by omega)
    have a3 : ((8 : Int32) * v9).toInt = 8 * (c : Int) := i32_mul (by decide) e9 (by omega) (by omega)
    have a4 : x15.toInt = 84 + 900 * (l : Int) + 2 + 8 * (c : Int) := by rw [e15]; exact i32_add a2 a3 (by omega) (by omega)
    refine wp_gd (zin_of (m := 5484) rfl (by omega) (by omega)) ?_
    refine wp_if (fun _ => ?_) (fun _ => h224 v7 o hI hK)
    refine wp_bd (h_isSo (fun k => gA o 3 (84 + 900 * l + 98 + 2 * k)) (fun k => gA o 3 (84 + 900 * l + 98 + 2 * k + 1)) o hI (Or.inl ⟨k20.trans ho, l, hl, e34', fun k => ⟨rfl, rfl⟩⟩) x15 (84 + 900 * l + 2 + 8 * c) (by omega) (by omega) hwc) (fun z hz => ?_)
    have hI' := hz.1
    have hK' := hK.trans hz.2
    refine wp_if (fun _ => h224 v7 _ hI' hK') (fun _ => ?_)
    exact wp_if (fun _ => h224 _ _ hI' hK') (fun _ => h224 _ _ hI' hK')
set_option maxHeartbeats 4000000 in
set_option maxRecDepth 100000 in
theorem s_X9_tells (o_me : Ob) (p0 : Int32) (p1 : Int32) (p2 : Int32) (p3 : Int32) (p4 : Int64) (hI_me : IvX9 o_me) (q0 : 0 ≤ p1.toInt ∧ p1.toInt ≤ 6) (q1 : 0 ≤ p2.toInt ∧ p2.toInt ≤ 9) (q2 : 0 ≤ (gI o_me 20).toInt ∧ (gI o_me 20).toInt ≤ 0) : wp (f_X9_tells   o_me p0 p1 p2 p3 p4) (fun (y : Int64 × Ob) => IvX9 y.2 ∧ Kp [1, 8, 11, 13, 14, 15, 16, 18, 19, 20, 21, 23, 26, 29, 43, 56, 57, 58, 59, 62] [2, 3, 4, 5, 7, 10, 12, 22, 24, 25, 27, 28, 42, 48, 50, 51, 55, 61] [(0, 1), (1, 2), (29, 36), (36, 64), (64, 71)] o_me y.2) := by
  have ho : gI o_me 20 = 0 := Int32.toInt_inj.mp ((show (gI o_me 20).toInt = 0 by omega).trans (by decide))
  unfold f_X9_tells
  refine wp_if (fun _ => wp_some ⟨hI_me, Kp.rf⟩) (fun c => ?_)
  have c := cv_ne (a := (gA o_me 3 (3 : Int32).toNatClampNeg).toInt) (b := -1) rfl (by decide) c
  have r3 := iaX9_3_3 hI_me (j := 3) (by decide) (by decide)
  obtain ⟨l, el⟩ : ∃ l : Nat, (gA o_me 3 (3 : Int32).toNatClampNeg).toInt = (l : Int) := ⟨(gA o_me 3 (3 : Int32).toNatClampNeg).toInt.toNat, by omega⟩
  have m1 : ((900 : Int32) * (gA o_me 3 (3 : Int32).toNatClampNeg)).toInt = 900 * (l : Int) := i32_mul (by decide) el (by omega) (by omega)
  have m2 : ((84 : Int32) + ((900 : Int32) * (gA o_me 3 (3 : Int32).toNatClampNeg))).toInt = 84 + 900 * (l : Int) := i32_add (by decide) m1 (by omega) (by omega)
  have m3 : ((4 : Int32) * p1).toInt = 4 * p1.toInt := i32_mul (by decide) rfl (by omega) (by omega)
  have m4 : ((36 : Int32) + ((4 : Int32) * p1)).toInt = 36 + 4 * p1.toInt := i32_add (by decide) m3 (by omega) (by omega)
  have m5 : (((36 : Int32) + ((4 : Int32) * p1)) + p2).toInt = 36 + 4 * p1.toInt + p2.toInt := i32_add m4 rfl (by omega) (by omega)
  have m6 : ((8 : Int32) + p1).toInt = 8 + p1.toInt := i32_add (by decide) rfl (by omega) (by omega)
  have m7 : ((15 : Int32) + p1).toInt = 15 + p1.toInt := i32_add (by decide) rfl (by omega) (by omega)
  refine wp_lt (fun o1 e1 => ?_)
  have hI1 : IvX9 o1 := by rw [e1]; exact hI_me
  have hK1 : Kp [1, 8, 11, 13, 14, 15, 16, 18, 19, 20, 21, 23, 26, 29, 43, 56, 57, 58, 59, 62] [2, 3, 4, 5, 7, 10, 12, 22, 24, 25, 27, 28, 42, 48, 50, 51, 55, 61] [(0, 1), (1, 2), (29, 36), (36, 64), (64, 71)] o_me o1 := by rw [e1]; exact Kp.sI (by decide)
  have h20 : gI o1 20 = 0 := by rw [e1]; exact ho
  have h34 : (gI o1 34).toInt = 84 + 900 * (l : Int) := by rw [e1]; exact m2
  clear e1
  have step : ∀ (o : Ob) (j : Nat) (v : Int64), IvX9 o → Kp [1, 8, 11, 13, 14, 15, 16, 18, 19, 20, 21, 23, 26, 29, 43, 56, 57, 58, 59, 62] [2, 3, 4, 5, 7, 10, 12, 22, 24, 25, 27, 28, 42, 48, 50, 51, 55, 61] [(0, 1), (1, 2), (29, 36), (36, 64), (64, 71)] o_me o → gI o 20 = 0 → (gI o 34).toInt = 84 + 900 * (l : Int) → IvX9 (tM o 35 j v) ∧ Kp [1, 8, 11, 13, 14, 15, 16, 18, 19, 20, 21, 23, 26, 29, 43, 56, 57, 58, 59, 62] [2, 3, 4, 5, 7, 10, 12, 22, 24, 25, 27, 28, 42, 48, 50, 51, 55, 61] [(0, 1), (1, 2), (29, 36), (36, 64), (64, 71)] o_me (tM o 35 j v) ∧ gI (tM o 35 j v) 20 = 0 ∧ (gI (tM o 35 j v) 34).toInt = 84 + 900 * (l : Int) := fun o j v a b c d => ⟨a, b.trans Kp.tM, c, d⟩
  refine wp_lt (fun o2 e2 => ?_)
  obtain ⟨hI2, hK2, h20, h34⟩ := e2 ▸ step o1 _ _ hI1 hK1 h20 h34
  refine wp_lt (fun o3 e3 => ?_)
  obtain ⟨hI3, hK3, h20, h34⟩ := e3 ▸ step o2 _ _ hI2 hK2 h20 h34
  refine wp_gd (zin_of (m := 5484) rfl (by omega) (by omega)) ?_
  refine wp_lt (fun o5 e5 => ?_)
  obtain ⟨hI5, hK5, h20, h34⟩ := e5 ▸ step o3 _ _ hI3 hK3 h20 h34
  refine wp_gd (zin_of (m := 5484) rfl (by omega) (by omega)) ?_
  refine wp_lt (fun o7 e7 => ?_)
  obtain ⟨hI7, hK7, h20, h34⟩ := e7 ▸ step o5 _ _ hI5 hK5 h20 h34
  refine wp_gd (zin_of (m := 5484) rfl (by omega) (by omega)) ?_
  refine wp_lt (fun o9 e9 => ?_)
  obtain ⟨hI9, hK9, h20, h34⟩ := e9 ▸ step o7 _ _ hI7 hK7 h20 h34
  refine wp_lt (fun o10 e10 => ?_)
  obtain ⟨hI10, hK10, h20, h34⟩ := e10 ▸ step o9 _ _ hI9 hK9 h20 h34
  refine wp_lt (fun o11 e11 => ?_)
  obtain ⟨hI11, hK11, h20, h34⟩ := e11 ▸ step o10 _ _ hI10 hK10 h20 h34
  refine wp_lt (fun o12 e12 => ?_)
  obtain ⟨hI12, hK12, h20, h34⟩ := e12 ▸ step o11 _ _ hI11 hK11 h20 h34
  refine wp_lt (fun o13 e13 => ?_)
  obtain ⟨hI13, hK13, h20, h34⟩ := e13 ▸ step o12 _ _ hI12 hK12 h20 h34
  refine wp_mono (h_tells o13 l (by omega) h20 h34 zfu p0 p4 0 o13 0 hI13 Kp.rf (by decide) (by omega) (by show 12 < 100000 + 0; omega)) (fun y hy => ⟨hy.1, hK13.trans (hy.2.mono (by decide) (by decide) (by decide))⟩)

set_option maxHeartbeats 4000000 in
set_option maxRecDepth 100000 in
theorem s_X9_isBarred (o_me : Ob) (p0 : Int32) (p1 : Int32) (hI_me : IvX9 o_me) (q0 : 0 ≤ p0.toInt ∧ p0.toInt ≤ 6) (q1 : 0 ≤ p1.toInt ∧ p1.toInt ≤ 9) (q2 : 0 ≤ (gI o_me 20).toInt ∧ (gI o_me 20).toInt ≤ 0) : wp (f_X9_isBarred   o_me p0 p1) (fun (y : Int32 × Ob) => (0 ≤ y.1.toInt ∧ y.1.toInt ≤ 1) ∧ IvX9 y.2 ∧ Kp [1, 8, 11, 13, 14, 15, 16, 18, 19, 20, 21, 23, 26, 29, 43, 56, 57, 58, 59, 62] [2, 3, 4, 5, 7, 10, 12, 22, 24, 25, 27, 28, 42, 48, 50, 51, 55, 61] [(0, 1), (1, 2), (29, 36), (36, 64), (64, 71)] o_me y.2) := by
  unfold f_X9_isBarred
  refine wp_bd (s_X9_tells   o_me (3 : Int32) p0 p1 (-1 : Int32) (0 : Int64)  hI_me  ⟨q0.1, q0.2⟩ ⟨q1.1, q1.2⟩ ⟨q2.1, q2.2⟩) (fun z1 hz1 => ?_)
  obtain ⟨hz1_0, hz1_1⟩ := hz1
  have hkpz1_me : Kp [1, 8, 11, 13, 14, 15, 16, 18, 19, 20, 21, 23, 26, 29, 43, 56, 57, 58, 59, 62] [2, 3, 4, 5, 7, 10, 12, 22, 24, 25, 27, 28, 42, 48, 50, 51, 55, 61] [(0, 1), (1, 2), (29, 36), (36, 64), (64, 71)] o_me z1.2 := Kp.rf.trans (hz1_1.mono (by decide) (by decide) (by decide))
  refine wp_if (fun c3 => ?_) (fun c3 => ?_)
  · refine wp_some ?_
    exact (show (0 ≤ (1 : Int32).toInt ∧ (1 : Int32).toInt ≤ 1) ∧ IvX9 z1.2 ∧ Kp [1, 8, 11, 13, 14, 15, 16, 18, 19, 20, 21, 23, 26, 29, 43, 56, 57, 58, 59, 62] [2, 3, 4, 5, 7, 10, 12, 22, 24, 25, 27, 28, 42, 48, 50, 51, 55, 61] [(0, 1), (1, 2), (29, 36), (36, 64), (64, 71)] o_me z1.2 from ⟨⟨by decide, by decide⟩, hz1_0, hkpz1_me⟩)
  · refine wp_some ?_
    exact (show (0 ≤ (0 : Int32).toInt ∧ (0 : Int32).toInt ≤ 1) ∧ IvX9 z1.2 ∧ Kp [1, 8, 11, 13, 14, 15, 16, 18, 19, 20, 21, 23, 26, 29, 43, 56, 57, 58, 59, 62] [2, 3, 4, 5, 7, 10, 12, 22, 24, 25, 27, 28, 42, 48, 50, 51, 55, 61] [(0, 1), (1, 2), (29, 36), (36, 64), (64, 71)] o_me z1.2 from ⟨⟨by decide, by decide⟩, hz1_0, hkpz1_me⟩)

set_option maxHeartbeats 4000000 in
set_option maxRecDepth 100000 in
theorem s_X9_within (p0 : Int64) (p1 : Int32) (p2 : Int32)  (r0 : p1.toInt ≤ p2.toInt + 0) : wp (f_X9_within   p0 p1 p2) (fun (y : Int32) => (y.toInt ≤ p2.toInt + 0) ∧ (p1.toInt ≤ y.toInt + 0)) := by
  unfold f_X9_within
  have e1 := Int32.toInt_toInt64 p1
  have e2 := Int32.toInt_toInt64 p2
  refine wp_if (fun c => ?_) (fun c => ?_)
  · have c := cvl_ge (a := p0.toInt) (b := p1.toInt64.toInt) rfl rfl c
    refine wp_if (fun d => ?_) (fun d => ?_)
    · have d := cvl_le (a := p0.toInt) (b := p2.toInt64.toInt) rfl rfl d
      have r1 := i32_rg p1
      have r2 := i32_rg p2
      have t := l2i_eq (x := p0) (by omega) (by omega)
      exact wp_some ⟨by omega, by omega⟩
    · exact wp_some ⟨by omega, by omega⟩
  · exact wp_some ⟨by omega, by omega⟩

set_option maxHeartbeats 4000000 in
set_option maxRecDepth 100000 in
theorem s_X9_runsOf (o_me : Ob) (p0 : Int32) (p1 : Int32) (hI_me : IvX9 o_me) (q0 : 0 ≤ p0.toInt ∧ p0.toInt ≤ 6) (q1 : 0 ≤ p1.toInt ∧ p1.toInt ≤ 9) (q2 : 0 ≤ (gI o_me 20).toInt ∧ (gI o_me 20).toInt ≤ 0) : wp (f_X9_runsOf   o_me p0 p1) (fun (y : Int32 × Ob) => (0 ≤ y.1.toInt ∧ y.1.toInt ≤ 99) ∧ IvX9 y.2 ∧ Kp [1, 8, 11, 13, 14, 15, 16, 18, 19, 20, 21, 23, 26, 29, 43, 56, 57, 58, 59, 62] [2, 3, 4, 5, 7, 10, 12, 22, 24, 25, 27, 28, 42, 48, 50, 51, 55, 61] [(0, 1), (1, 2), (29, 36), (36, 64), (64, 71)] o_me y.2) := by
  unfold f_X9_runsOf
  have t1 : ((4 : Int32) * p0).toInt = 4 * p0.toInt := i32_mul (by decide) rfl (zm_l q0.1 (by decide) (by decide)) (zm_u q0.2 (by decide) (by decide))
  have t2 : ((36 : Int32) + ((4 : Int32) * p0)).toInt = 36 + ((4 : Int32) * p0).toInt := i32_add (by decide) rfl (zk_cl (zmq_l (c := 0) t1 q0.1 (by decide) (by decide)) (by decide)) (zk_cu (zmq_u (c := 24) t1 q0.2 (by decide) (by decide)) (by decide))
  have t3 : (((36 : Int32) + ((4 : Int32) * p0)) + p1).toInt = ((36 : Int32) + ((4 : Int32) * p0)).toInt + p1.toInt := i32_add rfl rfl (zk_ll (zaqc_l (c := 36) t2 (zmq_l (c := 0) t1 q0.1 (by decide) (by decide)) (by decide)) q1.1 (by decide)) (zk_uu (zaqc_u (c := 60) t2 (zmq_u (c := 24) t1 q0.2 (by decide) (by decide)) (by decide)) q1.2 (by decide))
  refine wp_gd (zin_of (m := 5484) rfl (Int.le_trans (by decide) (zaq_l (c := 36) t3 (zaqc_l (c := 36) t2 (zmq_l (c := 0) t1 q0.1 (by decide) (by decide)) (by decide)) q1.1 (by decide))) (zlt_m (c := 5483) (Int.le_trans (zaq_u (c := 69) t3 (zaqc_u (c := 60) t2 (zmq_u (c := 24) t1 q0.2 (by decide) (by decide)) (by decide)) q1.2 (by decide)) (by decide)) (by decide))) ?_
  refine wp_bd (s_X9_tells   o_me (0 : Int32) p0 p1 (-1 : Int32) ((gA o_me 3 (((36 : Int32) + ((4 : Int32) * p0)) + p1).toNatClampNeg).toInt64)  hI_me  ⟨q0.1, q0.2⟩ ⟨q1.1, q1.2⟩ ⟨q2.1, q2.2⟩) (fun z6 hz6 => ?_)
  obtain ⟨hz6_0, hz6_1⟩ := hz6
  have hkpz6_me : Kp [1, 8, 11, 13, 14, 15, 16, 18, 19, 20, 21, 23, 26, 29, 43, 56, 57, 58, 59, 62] [2, 3, 4, 5, 7, 10, 12, 22, 24, 25, 27, 28, 42, 48, 50, 51, 55, 61] [(0, 1), (1, 2), (29, 36), (36, 64), (64, 71)] o_me z6.2 := Kp.rf.trans (hz6_1.mono (by decide) (by decide) (by decide))
  refine wp_bd (s_X9_within   z6.1 (0 : Int32) (99 : Int32)    (zd_b (Int.le_of_eq tz0) (Int.le_of_eq tz99.symm) (by decide))) (fun z9 hz9 => ?_)
  obtain ⟨hz9_0, hz9_1⟩ := hz9
  refine wp_some ?_
  exact (show (0 ≤ z9.toInt ∧ z9.toInt ≤ 99) ∧ IvX9 z6.2 ∧ Kp [1, 8, 11, 13, 14, 15, 16, 18, 19, 20, 21, 23, 26, 29, 43, 56, 57, 58, 59, 62] [2, 3, 4, 5, 7, 10, 12, 22, 24, 25, 27, 28, 42, 48, 50, 51, 55, 61] [(0, 1), (1, 2), (29, 36), (36, 64), (64, 71)] o_me z6.2 from ⟨⟨(zl_e hz9_1 (Int.le_of_eq tz0.symm) (by decide)), (zu_e hz9_0 (Int.le_of_eq tz99) (by decide))⟩, hz6_0, hkpz6_me⟩)

set_option maxHeartbeats 4000000 in
set_option maxRecDepth 100000 in
theorem s_X9_layPlaces (o_me : Ob) (p0 : Int32) (hI_me : IvX9 o_me) (q0 : 0 ≤ p0.toInt ∧ p0.toInt ≤ 3) (q1 : 0 ≤ (gI o_me 20).toInt ∧ (gI o_me 20).toInt ≤ 0) : wp (f_X9_layPlaces   o_me p0) (fun (y : Ob) => IvX9 y ∧ Kp [1, 8, 11, 13, 14, 15, 16, 18, 19, 20, 21, 23, 26, 29, 56, 57, 58, 59, 62] [2, 3, 4, 5, 7, 10, 12, 22, 24, 25, 27, 28, 48, 50, 51, 55, 61] [(0, 1), (1, 2), (29, 36), (36, 64), (64, 71)] o_me y) := by
  have li0 : (0 : Int32).toInt = 0 := by decide
  have li1 : (1 : Int32).toInt = 1 := by decide
  have li2 : (22 : Int32).toInt = 22 := by decide
  unfold f_X9_layPlaces
  refine wp_lt (fun o1 eo1 => ?_)
  have hIo1 : IvX9 o1 := by rw [eo1]; exact ipX9_43 hI_me ⟨by decide, by decide⟩
  have ko1_k2 : (gI o1 20).toInt = (gI o_me 20).toInt := by rw [eo1]; rfl
  have ko1_v : (gI o1 43).toInt = 0 := by rw [eo1]; exact (show ((0 : Int32)).toInt = _ from by decide)
  have hkpo1 : Kp [1, 8, 11, 13, 14, 15, 16, 18, 19, 20, 21, 23, 26, 29, 56, 57, 58, 59, 62] [2, 3, 4, 5, 7, 10, 12, 22, 24, 25, 27, 28, 48, 50, 51, 55, 61] [(0, 1), (1, 2), (29, 36), (36, 64), (64, 71)] o_me o1 := Kp.rf.trans (by rw [eo1]; exact Kp.sI (by decide))
  have lp1 : ∀ (N1 : Nat) (v1_1 : Int32) (v2_1 : Int32) (o_me_1 : Ob), IvX9 o_me_1 → Kp [1, 8, 11, 13, 14, 15, 16, 18, 19, 20, 21, 23, 26, 29, 56, 57, 58, 59, 62] [2, 3, 4, 5, 7, 10, 12, 22, 24, 25, 27, 28, 48, 50, 51, 55, 61] [(0, 1), (1, 2), (29, 36), (36, 64), (64, 71)] o_me o_me_1 → (0 ≤ v1_1.toInt ∧ v1_1.toInt ≤ 3) → (0 ≤ v2_1.toInt ∧ v2_1.toInt ≤ 7) → (0 ≤ (gI o_me_1 20).toInt ∧ (gI o_me_1 20).toInt ≤ 0) → ((gI o_me_1 43).toInt ≤ v2_1.toInt + 0) → (7 - v2_1.toInt).toNat < N1 → wp (lp_X9_layPlaces_7   N1 (v1_1, v2_1, o_me_1)) (fun (y : Ob) => IvX9 y ∧ Kp [1, 8, 11, 13, 14, 15, 16, 18, 19, 20, 21, 23, 26, 29, 56, 57, 58, 59, 62] [2, 3, 4, 5, 7, 10, 12, 22, 24, 25, 27, 28, 48, 50, 51, 55, 61] [(0, 1), (1, 2), (29, 36), (36, 64), (64, 71)] o_me y) := by
    intro N1
    induction N1 with
    | zero =>
      intro v1_1 v2_1 o_me_1 hI_me_1 hkp_me_1 hh5 hh6 hh7 hh8 hN1
      exact absurd hN1 (Nat.not_lt_zero _)
    | succ N1 ihx =>
      have ih1 := ihx
      intro v1_1 v2_1 o_me_1 hI_me_1 hkp_me_1 hh5 hh6 hh7 hh8 hN1
      show wp (lb_X9_layPlaces_7   (lp_X9_layPlaces_7   N1) v1_1 v2_1 o_me_1) (fun (y : Ob) => IvX9 y ∧ Kp [1, 8, 11, 13, 14, 15, 16, 18, 19, 20, 21, 23, 26, 29, 56, 57, 58, 59, 62] [2, 3, 4, 5, 7, 10, 12, 22, 24, 25, 27, 28, 48, 50, 51, 55, 61] [(0, 1), (1, 2), (29, 36), (36, 64), (64, 71)] o_me y)
      unfold lb_X9_layPlaces_7
      have kc10 : (gA o_me_1 3 (0 : Int32).toNatClampNeg).toInt = (gA o_me 3 (0 : Int32).toNatClampNeg).toInt := congrArg Int32.toInt (hkp_me_1.2.2 (0, 1) (by decide) (0 : Int32).toNatClampNeg (by decide) (by decide))
      have t11 := iaX9_3_0 hI_me_1 (j := (0 : Int32)) (by decide) (by decide)
      refine wp_if (fun c12 => ?_) (fun c12 => ?_)
      · have c12 := cv_ge (a := v2_1.toInt) (b := (gA o_me_1 3 (0 : Int32).toNatClampNeg).toInt) rfl rfl c12
        refine wp_some ?_
        exact (show IvX9 o_me_1 ∧ Kp [1, 8, 11, 13, 14, 15, 16, 18, 19, 20, 21, 23, 26, 29, 56, 57, 58, 59, 62] [2, 3, 4, 5, 7, 10, 12, 22, 24, 25, 27, 28, 48, 50, 51, 55, 61] [(0, 1), (1, 2), (29, 36), (36, 64), (64, 71)] o_me o_me_1 from ⟨hI_me_1, hkp_me_1⟩)
      · have c12 := cv_nge (a := v2_1.toInt) (b := (gA o_me_1 3 (0 : Int32).toNatClampNeg).toInt) rfl rfl c12
        have t13 : ((22 : Int32) + v2_1).toInt = 22 + v2_1.toInt := i32_add (by decide) rfl (zk_cl hh6.1 (by decide)) (zk_cu (zu_e (k := 6) (zl_d c12) t11.2 (by decide)) (by decide))
        refine wp_gd (zin_of (m := 5484) rfl (Int.le_trans (by decide) (zaqc_l (c := 22) t13 hh6.1 (by decide))) (zlt_m (c := 5483) (Int.le_trans (zaqc_u (c := 28) t13 (zu_e (k := 6) (zl_d c12) t11.2 (by decide)) (by decide)) (by decide)) (by decide))) ?_
        have t14 := iaX9_3_6 hI_me_1 (j := (22 : Int32) + v2_1) (zaqc_l (c := 22) t13 hh6.1 (by decide)) (zaqc_u (c := 28) t13 (zu_e (k := 6) (zl_d c12) t11.2 (by decide)) (by decide))
        refine wp_if (fun c15 => ?_) (fun c15 => ?_)
        · have c15 := cv_eq (a := (gA o_me_1 3 ((22 : Int32) + v2_1).toNatClampNeg).toInt) (b := 1) rfl (by decide) c15
          refine wp_bd (s_X9_isBarred   o_me_1 v2_1 v1_1  hI_me_1  ⟨hh6.1, (zu_e (zl_d c12) t11.2 (by decide))⟩ ⟨hh5.1, (Int.le_trans hh5.2 (by decide))⟩ ⟨hh7.1, hh7.2⟩) (fun z16 hz16 => ?_)
          obtain ⟨hz16_0, hz16_1, hz16_2⟩ := hz16
          have hkpz16_me : Kp [1, 8, 11, 13, 14, 15, 16, 18, 19, 20, 21, 23, 26, 29, 56, 57, 58, 59, 62] [2, 3, 4, 5, 7, 10, 12, 22, 24, 25, 27, 28, 48, 50, 51, 55, 61] [(0, 1), (1, 2), (29, 36), (36, 64), (64, 71)] o_me z16.2 := hkp_me_1.trans (hz16_2.mono (by decide) (by decide) (by decide))
          have kz16_k17 : (gA z16.2 3 ((22 : Int32) + v2_1).toNatClampNeg).toInt = (gA o_me_1 3 ((22 : Int32) + v2_1).toNatClampNeg).toInt := congrArg (fun g => (g ((22 : Int32) + v2_1).toNatClampNeg).toInt) (hz16_2.2.1 3 (by decide))
          have kz16_k18 : (gA z16.2 3 (0 : Int32).toNatClampNeg).toInt = (gA o_me_1 3 (0 : Int32).toNatClampNeg).toInt := congrArg (fun g => (g (0 : Int32).toNatClampNeg).toInt) (hz16_2.2.1 3 (by decide))
          have kz16_k19 : (gI z16.2 20).toInt = (gI o_me_1 20).toInt := congrArg Int32.toInt (hz16_2.1 20 (by decide))
          have kz16_k20 : (gI z16.2 43).toInt = (gI o_me_1 43).toInt := congrArg Int32.toInt (hz16_2.1 43 (by decide))
          refine wp_if (fun c21 => ?_) (fun c21 => ?_)
          · have c21 := cv_eq (a := z16.1.toInt) (b := 0) rfl (by decide) c21
            refine wp_bd (s_X9_runsOf   z16.2 v2_1 v1_1  hz16_1  ⟨hh6.1, (zu_e (zl_d c12) t11.2 (by decide))⟩ ⟨hh5.1, (Int.le_trans hh5.2 (by decide))⟩ ⟨(zl_e (zq_0 kz16_k19.symm) hh7.1 (by decide)), (zu_e (zq_0 kz16_k19) hh7.2 (by decide))⟩) (fun z22 hz22 => ?_)
            obtain ⟨hz22_0, hz22_1, hz22_2⟩ := hz22
            have hkpz22_me : Kp [1, 8, 11, 13, 14, 15, 16, 18, 19, 20, 21, 23, 26, 29, 56, 57, 58, 59, 62] [2, 3, 4, 5, 7, 10, 12, 22, 24, 25, 27, 28, 48, 50, 51, 55, 61] [(0, 1), (1, 2), (29, 36), (36, 64), (64, 71)] o_me z22.2 := hkpz16_me.trans (hz22_2.mono (by decide) (by decide) (by decide))
            have kz22_k23 : (gA z22.2 3 ((22 : Int32) + v2_1).toNatClampNeg).toInt = (gA z16.2 3 ((22 : Int32) + v2_1).toNatClampNeg).toInt := congrArg (fun g => (g ((22 : Int32) + v2_1).toNatClampNeg).toInt) (hz22_2.2.1 3 (by decide))
            have kz22_k24 : (gA z22.2 3 (0 : Int32).toNatClampNeg).toInt = (gA z16.2 3 (0 : Int32).toNatClampNeg).toInt := congrArg (fun g => (g (0 : Int32).toNatClampNeg).toInt) (hz22_2.2.1 3 (by decide))
            have kz22_k25 : (gI z22.2 20).toInt = (gI z16.2 20).toInt := congrArg Int32.toInt (hz22_2.1 20 (by decide))
            have kz22_k26 : (gI z22.2 43).toInt = (gI z16.2 43).toInt := congrArg Int32.toInt (hz22_2.1 43 (by decide))
            refine wp_gd (zin_of (m := 7) rfl hh6.1 (zlt_m (c := 6) (zu_e (zl_d c12) t11.2 (by decide)) (by decide))) ?_
            refine wp_lt (fun o27 eo27 => ?_)
            have hIo27 : IvX9 o27 := by rw [eo27]; exact hz22_1
            have ko27_k28 : (gA o27 3 ((22 : Int32) + v2_1).toNatClampNeg).toInt = (gA z22.2 3 ((22 : Int32) + v2_1).toNatClampNeg).toInt := by rw [eo27]; rfl
            have ko27_k29 : (gA o27 3 (0 : Int32).toNatClampNeg).toInt = (gA z22.2 3 (0 : Int32).toNatClampNeg).toInt := by rw [eo27]; rfl
            have ko27_k30 : (gI o27 20).toInt = (gI z22.2 20).toInt := by rw [eo27]; rfl
            have ko27_k31 : (gI o27 43).toInt = (gI z22.2 43).toInt := by rw [eo27]; rfl
            have ko27_v : (gA o27 41 v2_1.toNatClampNeg).toInt = z22.1.toInt := by rw [eo27]; exact congrArg Int32.toInt (upd_eq (g := gA z22.2 41) (i := v2_1) (v := z22.1))
            have hkpo27 : Kp [1, 8, 11, 13, 14, 15, 16, 18, 19, 20, 21, 23, 26, 29, 56, 57, 58, 59, 62] [2, 3, 4, 5, 7, 10, 12, 22, 24, 25, 27, 28, 48, 50, 51, 55, 61] [(0, 1), (1, 2), (29, 36), (36, 64), (64, 71)] o_me o27 := hkpz22_me.trans (by rw [eo27]; exact Kp.tA (by decide) (by decide))
            have t32 := igX9_43 hIo27
            refine wp_lt (fun x33 ex33 => ?_)
            have tx33 : x33.toInt = (gI o27 43).toInt := by rw [ex33]
            have lp2 : ∀ (N2 : Nat) (v1_2 : Int32) (v2_2 : Int32) (v3_2 : Int32) (o_me_2 : Ob), IvX9 o_me_2 → Kp [1, 8, 11, 13, 14, 15, 16, 18, 19, 20, 21, 23, 26, 29, 56, 57, 58, 59, 62] [2, 3, 4, 5, 7, 10, 12, 22, 24, 25, 27, 28, 48, 50, 51, 55, 61] [(0, 1), (1, 2), (29, 36), (36, 64), (64, 71)] o_me o_me_2 → (0 ≤ v1_2.toInt ∧ v1_2.toInt ≤ 3) → (0 ≤ v2_2.toInt ∧ v2_2.toInt ≤ 6) → (0 ≤ v3_2.toInt ∧ v3_2.toInt ≤ 6) → (0 ≤ (gI o_me_2 20).toInt ∧ (gI o_me_2 20).toInt ≤ 0) → ((gI o_me_2 43).toInt ≤ v2_2.toInt + 0) → (v2_1.toInt ≤ v2_2.toInt + 0) → (v3_2.toInt - 0).toNat < N2 → wp (lp_X9_layPlaces_56  (lp_X9_layPlaces_7   N1) N2 (v1_2, v2_2, v3_2, o_me_2)) (fun (y : Ob) => IvX9 y ∧ Kp [1, 8, 11, 13, 14, 15, 16, 18, 19, 20, 21, 23, 26, 29, 56, 57, 58, 59, 62] [2, 3, 4, 5, 7, 10, 12, 22, 24, 25, 27, 28, 48, 50, 51, 55, 61] [(0, 1), (1, 2), (29, 36), (36, 64), (64, 71)] o_me y) := by
              intro N2
              induction N2 with
              | zero =>
                intro v1_2 v2_2 v3_2 o_me_2 hI_me_2 hkp_me_2 hh36 hh37 hh38 hh39 hh40 hh41 hN2
                exact absurd hN2 (Nat.not_lt_zero _)
              | succ N2 ihx =>
                have ih2 := ihx
                intro v1_2 v2_2 v3_2 o_me_2 hI_me_2 hkp_me_2 hh36 hh37 hh38 hh39 hh40 hh41 hN2
                show wp (lb_X9_layPlaces_56  (lp_X9_layPlaces_7   N1) (lp_X9_layPlaces_56  (lp_X9_layPlaces_7   N1) N2) v1_2 v2_2 v3_2 o_me_2) (fun (y : Ob) => IvX9 y ∧ Kp [1, 8, 11, 13, 14, 15, 16, 18, 19, 20, 21, 23, 26, 29, 56, 57, 58, 59, 62] [2, 3, 4, 5, 7, 10, 12, 22, 24, 25, 27, 28, 48, 50, 51, 55, 61] [(0, 1), (1, 2), (29, 36), (36, 64), (64, 71)] o_me y)
                unfold lb_X9_layPlaces_56
                refine wp_if (fun c43 => ?_) (fun c43 => ?_)
                · have c43 := cv_le (a := v3_2.toInt) (b := 0) rfl (by decide) c43
                  unfold bk_X9_layPlaces_102
                  refine wp_gd (zin_of (m := 7) rfl hh38.1 (zlt_m (c := 6) hh38.2 (by decide))) ?_
                  refine wp_lt (fun o44 eo44 => ?_)
                  have hIo44 : IvX9 o44 := by rw [eo44]; exact ibX9_42 hI_me_2 hh38.1  (Or.inr (Or.inr ⟨hh37.1, hh37.2⟩))
                  have ko44_k45 : (gI o44 20).toInt = (gI o_me_2 20).toInt := by rw [eo44]; rfl
                  have ko44_k46 : (gI o44 43).toInt = (gI o_me_2 43).toInt := by rw [eo44]; rfl
                  have ko44_v : (gA o44 42 v3_2.toNatClampNeg).toInt = v2_2.toInt := by rw [eo44]; exact congrArg Int32.toInt (upd_eq (g := gA o_me_2 42) (i := v3_2) (v := v2_2))
                  have hkpo44 : Kp [1, 8, 11, 13, 14, 15, 16, 18, 19, 20, 21, 23, 26, 29, 56, 57, 58, 59, 62] [2, 3, 4, 5, 7, 10, 12, 22, 24, 25, 27, 28, 48, 50, 51, 55, 61] [(0, 1), (1, 2), (29, 36), (36, 64), (64, 71)] o_me o44 := hkp_me_2.trans (by rw [eo44]; exact Kp.tA (by decide) (by decide))
                  have t47 := igX9_43 hIo44
                  have t48 : ((gI o44 43) + (1 : Int32)).toInt = (gI o44 43).toInt + 1 := i32_add rfl (by decide) (zk_l t47.1 (by decide)) (zk_u (zu_e (k := 6) (zd_e (c := 0) (zq_0 ko44_k46) hh40 (by decide)) hh37.2 (by decide)) (by decide))
                  refine wp_lt (fun o49 eo49 => ?_)
                  have hIo49 : IvX9 o49 := by rw [eo49]; exact ipX9_43 hIo44 ⟨(zl_e (zq_r (c := (-1)) t48 (by decide)) t47.1 (by decide)), (zu_e (zd_e (c := 1) (zd_e (c := 1) (Int.le_of_eq t48) (zq_0 ko44_k46) (by decide)) hh40 (by decide)) hh37.2 (by decide))⟩
                  have ko49_k50 : (gA o49 42 v3_2.toNatClampNeg).toInt = (gA o44 42 v3_2.toNatClampNeg).toInt := by rw [eo49]; rfl
                  have ko49_k51 : (gI o49 20).toInt = (gI o44 20).toInt := by rw [eo49]; rfl
                  have ko49_v : (gI o49 43).toInt = ((gI o44 43) + (1 : Int32)).toInt := by rw [eo49]; rfl
                  have hkpo49 : Kp [1, 8, 11, 13, 14, 15, 16, 18, 19, 20, 21, 23, 26, 29, 56, 57, 58, 59, 62] [2, 3, 4, 5, 7, 10, 12, 22, 24, 25, 27, 28, 48, 50, 51, 55, 61] [(0, 1), (1, 2), (29, 36), (36, 64), (64, 71)] o_me o49 := hkpo44.trans (by rw [eo49]; exact Kp.sI (by decide))
                  unfold bk_X9_layPlaces_119
                  refine wp_lt (fun x52 ex52 => ?_)
                  have tx52 : x52.toInt = v2_2.toInt + 1 := by rw [ex52]; exact i32_add rfl (by decide) (zk_l hh37.1 (by decide)) (zk_u hh37.2 (by decide))
                  exact ih1 v1_2 x52 o49 hIo49 hkpo49 ⟨hh36.1, hh36.2⟩ ⟨(zl_e (zq_r (c := (-1)) tx52 (by decide)) hh37.1 (by decide)), (zu_e (Int.le_of_eq tx52) hh37.2 (by decide))⟩ ⟨(zl_e (zd_e (c := 0) (zq_0 ko44_k45.symm) (zq_0 ko49_k51.symm) (by decide)) hh39.1 (by decide)), (zu_e (zd_e (c := 0) (zq_0 ko49_k51) (zq_0 ko44_k45) (by decide)) hh39.2 (by decide))⟩ (by omega) (zms_u (c := 6) hN1 (zd_e (c := (-1)) hh41 (zq_r (c := (-1)) tx52 (by decide)) (by decide)) (zu_e (zl_d c12) t11.2 (by decide)) (by decide))
                · have c43 := cv_nle (a := v3_2.toInt) (b := 0) rfl (by decide) c43
                  have t53 : (v3_2 - (1 : Int32)).toInt = v3_2.toInt - 1 := i32_sub rfl (by decide) (zs_l (zlt_l (c := 1) c43 (by decide)) (by decide)) (zs_u hh38.2 (by decide))
                  refine wp_gd (zin_of (m := 7) rfl (zl_e (zq_t (c := 1) t53 (by decide)) (zlt_l (c := 1) c43 (by decide)) (by decide)) (zlt_m (c := 6) (zu_e (zq_s (c := (-1)) t53 (by decide)) hh38.2 (by decide)) (by decide))) ?_
                  have t54 := iaX9_42_0 hI_me_2 (j := v3_2 - (1 : Int32)) (zl_e (zq_t (c := 1) t53 (by decide)) (zlt_l (c := 1) c43 (by decide)) (by decide)) (zu_e (zq_s (c := (-1)) t53 (by decide)) hh38.2 (by decide))
                  refine wp_gd (zin_of (m := 7) rfl t54.1 (zlt_m (c := 6) t54.2 (by decide))) ?_
                  refine wp_gd (zin_of (m := 7) rfl hh37.1 (zlt_m (c := 6) hh37.2 (by decide))) ?_
                  have rg56 := i32_rg (gA o_me_2 41 (gA o_me_2 42 (v3_2 - (1 : Int32)).toNatClampNeg).toNatClampNeg)
                  have rg57 := i32_rg (gA o_me_2 41 v2_2.toNatClampNeg)
                  refine wp_if (fun c55 => ?_) (fun c55 => ?_)
                  · have c55 := cv_ge (a := (gA o_me_2 41 (gA o_me_2 42 (v3_2 - (1 : Int32)).toNatClampNeg).toNatClampNeg).toInt) (b := (gA o_me_2 41 v2_2.toNatClampNeg).toInt) rfl rfl c55
                    unfold bk_X9_layPlaces_102
                    refine wp_gd (zin_of (m := 7) rfl hh38.1 (zlt_m (c := 6) hh38.2 (by decide))) ?_
                    refine wp_lt (fun o58 eo58 => ?_)
                    have hIo58 : IvX9 o58 := by rw [eo58]; exact ibX9_42 hI_me_2 hh38.1  (Or.inr (Or.inr ⟨hh37.1, hh37.2⟩))
                    have ko58_k59 : (gA o58 41 (gA o_me_2 42 (v3_2 - (1 : Int32)).toNatClampNeg).toNatClampNeg).toInt = (gA o_me_2 41 (gA o_me_2 42 (v3_2 - (1 : Int32)).toNatClampNeg).toNatClampNeg).toInt := by rw [eo58]; rfl
                    have ko58_k60 : (gA o58 41 v2_2.toNatClampNeg).toInt = (gA o_me_2 41 v2_2.toNatClampNeg).toInt := by rw [eo58]; rfl
                    have ko58_k61 : (gI o58 20).toInt = (gI o_me_2 20).toInt := by rw [eo58]; rfl
                    have ko58_k62 : (gI o58 43).toInt = (gI o_me_2 43).toInt := by rw [eo58]; rfl
                    have ko58_v : (gA o58 42 v3_2.toNatClampNeg).toInt = v2_2.toInt := by rw [eo58]; exact congrArg Int32.toInt (upd_eq (g := gA o_me_2 42) (i := v3_2) (v := v2_2))
                    have hkpo58 : Kp [1, 8, 11, 13, 14, 15, 16, 18, 19, 20, 21, 23, 26, 29, 56, 57, 58, 59, 62] [2, 3, 4, 5, 7, 10, 12, 22, 24, 25, 27, 28, 48, 50, 51, 55, 61] [(0, 1), (1, 2), (29, 36), (36, 64), (64, 71)] o_me o58 := hkp_me_2.trans (by rw [eo58]; exact Kp.tA (by decide) (by decide))
                    have t63 := igX9_43 hIo58
                    have t64 : ((gI o58 43) + (1 : Int32)).toInt = (gI o58 43).toInt + 1 := i32_add rfl (by decide) (zk_l t63.1 (by decide)) (zk_u (zu_e (k := 6) (zd_e (c := 0) (zq_0 ko58_k62) hh40 (by decide)) hh37.2 (by decide)) (by decide))
                    refine wp_lt (fun o65 eo65 => ?_)
                    have hIo65 : IvX9 o65 := by rw [eo65]; exact ipX9_43 hIo58 ⟨(zl_e (zq_r (c := (-1)) t64 (by decide)) t63.1 (by decide)), (zu_e (zd_e (c := 1) (zd_e (c := 1) (Int.le_of_eq t64) (zq_0 ko58_k62) (by decide)) hh40 (by decide)) hh37.2 (by decide))⟩
                    have ko65_k66 : (gA o65 41 (gA o_me_2 42 (v3_2 - (1 : Int32)).toNatClampNeg).toNatClampNeg).toInt = (gA o58 41 (gA o_me_2 42 (v3_2 - (1 : Int32)).toNatClampNeg).toNatClampNeg).toInt := by rw [eo65]; rfl
                    have ko65_k67 : (gA o65 41 v2_2.toNatClampNeg).toInt = (gA o58 41 v2_2.toNatClampNeg).toInt := by rw [eo65]; rfl
                    have ko65_k68 : (gA o65 42 v3_2.toNatClampNeg).toInt = (gA o58 42 v3_2.toNatClampNeg).toInt := by rw [eo65]; rfl
                    have ko65_k69 : (gI o65 20).toInt = (gI o58 20).toInt := by rw [eo65]; rfl
                    have ko65_v : (gI o65 43).toInt = ((gI o58 43) + (1 : Int32)).toInt := by rw [eo65]; rfl
                    have hkpo65 : Kp [1, 8, 11, 13, 14, 15, 16, 18, 19, 20, 21, 23, 26, 29, 56, 57, 58, 59, 62] [2, 3, 4, 5, 7, 10, 12, 22, 24, 25, 27, 28, 48, 50, 51, 55, 61] [(0, 1), (1, 2), (29, 36), (36, 64), (64, 71)] o_me o65 := hkpo58.trans (by rw [eo65]; exact Kp.sI (by decide))
                    unfold bk_X9_layPlaces_119
                    refine wp_lt (fun x70 ex70 => ?_)
                    have tx70 : x70.toInt = v2_2.toInt + 1 := by rw [ex70]; exact i32_add rfl (by decide) (zk_l hh37.1 (by decide)) (zk_u hh37.2 (by decide))
                    exact ih1 v1_2 x70 o65 hIo65 hkpo65 ⟨hh36.1, hh36.2⟩ ⟨(zl_e (zq_r (c := (-1)) tx70 (by decide)) hh37.1 (by decide)), (zu_e (Int.le_of_eq tx70) hh37.2 (by decide))⟩ ⟨(zl_e (zd_e (c := 0) (zq_0 ko58_k61.symm) (zq_0 ko65_k69.symm) (by decide)) hh39.1 (by decide)), (zu_e (zd_e (c := 0) (zq_0 ko65_k69) (zq_0 ko58_k61) (by decide)) hh39.2 (by decide))⟩ (by omega) (zms_u (c := 6) hN1 (zd_e (c := (-1)) hh41 (zq_r (c := (-1)) tx70 (by decide)) (by decide)) (zu_e (zl_d c12) t11.2 (by decide)) (by decide))
                  · have c55 := cv_nge (a := (gA o_me_2 41 (gA o_me_2 42 (v3_2 - (1 : Int32)).toNatClampNeg).toNatClampNeg).toInt) (b := (gA o_me_2 41 v2_2.toNatClampNeg).toInt) rfl rfl c55
                    refine wp_gd (zin_of (m := 7) rfl (zl_e (zq_t (c := 1) t53 (by decide)) (zlt_l (c := 1) c43 (by decide)) (by decide)) (zlt_m (c := 6) (zu_e (zq_s (c := (-1)) t53 (by decide)) hh38.2 (by decide)) (by decide))) ?_
                    refine wp_gd (zin_of (m := 7) rfl hh38.1 (zlt_m (c := 6) hh38.2 (by decide))) ?_
                    refine wp_lt (fun o71 eo71 => ?_)
                    have hIo71 : IvX9 o71 := by rw [eo71]; exact ibX9_42 hI_me_2 hh38.1  (Or.inr (Or.inr ⟨t54.1, t54.2⟩))
                    have ko71_k72 : (gA o71 41 (gA o_me_2 42 (v3_2 - (1 : Int32)).toNatClampNeg).toNatClampNeg).toInt = (gA o_me_2 41 (gA o_me_2 42 (v3_2 - (1 : Int32)).toNatClampNeg).toNatClampNeg).toInt := by rw [eo71]; rfl
                    have ko71_k73 : (gA o71 41 v2_2.toNatClampNeg).toInt = (gA o_me_2 41 v2_2.toNatClampNeg).toInt := by rw [eo71]; rfl
                    have ko71_k74 : (gI o71 20).toInt = (gI o_me_2 20).toInt := by rw [eo71]; rfl
                    have ko71_k75 : (gI o71 43).toInt = (gI o_me_2 43).toInt := by rw [eo71]; rfl
                    have ko71_v : (gA o71 42 v3_2.toNatClampNeg).toInt = (gA o_me_2 42 (v3_2 - (1 : Int32)).toNatClampNeg).toInt := by rw [eo71]; exact congrArg Int32.toInt (upd_eq (g := gA o_me_2 42) (i := v3_2) (v := (gA o_me_2 42 (v3_2 - (1 : Int32)).toNatClampNeg)))
                    have hkpo71 : Kp [1, 8, 11, 13, 14, 15, 16, 18, 19, 20, 21, 23, 26, 29, 56, 57, 58, 59, 62] [2, 3, 4, 5, 7, 10, 12, 22, 24, 25, 27, 28, 48, 50, 51, 55, 61] [(0, 1), (1, 2), (29, 36), (36, 64), (64, 71)] o_me o71 := hkp_me_2.trans (by rw [eo71]; exact Kp.tA (by decide) (by decide))
                    refine wp_lt (fun x76 ex76 => ?_)
                    have tx76 : x76.toInt = v3_2.toInt + (-1) := by rw [ex76]; exact i32_add rfl (by decide) (zk_l (zlt_l (c := 1) c43 (by decide)) (by decide)) (zk_u hh38.2 (by decide))
                    have t77 := igX9_43 hIo71
                    exact ih2 v1_2 v2_2 x76 o71 hIo71 hkpo71 ⟨hh36.1, hh36.2⟩ ⟨hh37.1, hh37.2⟩ ⟨(zl_e (zq_r (c := 1) tx76 (by decide)) (zlt_l (c := 1) c43 (by decide)) (by decide)), (zu_e (Int.le_of_eq tx76) hh38.2 (by decide))⟩ ⟨(zl_e (zq_0 ko71_k74.symm) hh39.1 (by decide)), (zu_e (zq_0 ko71_k74) hh39.2 (by decide))⟩ (zd_e (c := 0) (zq_0 ko71_k75) hh40 (by decide)) hh41 (zms_d (c := 1) hN2 (Int.le_of_eq tx76) (zlt_l (c := 1) c43 (by decide)) (by decide))
            exact lp2 zfu v1_1 v2_1 x33 o27 hIo27 hkpo27 ⟨hh5.1, hh5.2⟩ ⟨hh6.1, (zu_e (zl_d c12) t11.2 (by decide))⟩ ⟨(zl_e (zq_0 tx33.symm) t32.1 (by decide)), (by omega)⟩ ⟨(zl_e (zd_e (c := 0) (zq_0 kz16_k19.symm) (zd_e (c := 0) (zq_0 kz22_k25.symm) (zq_0 ko27_k30.symm) (by decide)) (by decide)) hh7.1 (by decide)), (zu_e (zd_e (c := 0) (zd_e (c := 0) (zq_0 ko27_k30) (zq_0 kz22_k25) (by decide)) (zq_0 kz16_k19) (by decide)) hh7.2 (by decide))⟩ (zd_e (c := 0) (zd_e (c := 0) (zd_e (c := 0) (zq_0 ko27_k31) (zq_0 kz22_k26) (by decide)) (zq_0 kz16_k20) (by decide)) hh8 (by decide)) (zd_r (by decide)) (zme_d (u := 7) (zu_e (k := 7) (zq_0 tx33) t32.2 (by decide)) (by decide))
          · have c21z := c21
            have c21 := cv_ne (a := z16.1.toInt) (b := 0) rfl (by decide) c21
            unfold bk_X9_layPlaces_119
            refine wp_lt (fun x78 ex78 => ?_)
            have tx78 : x78.toInt = v2_1.toInt + 1 := by rw [ex78]; exact i32_add rfl (by decide) (zk_l hh6.1 (by decide)) (zk_u (zu_e (k := 6) (zl_d c12) t11.2 (by decide)) (by decide))
            have t79 := igX9_43 hz16_1
            exact ih1 v1_1 x78 z16.2 hz16_1 hkpz16_me ⟨hh5.1, hh5.2⟩ ⟨(zl_e (zq_r (c := (-1)) tx78 (by decide)) hh6.1 (by decide)), (zu_e (zd_e (c := 0) (Int.le_of_eq tx78) (zl_d c12) (by decide)) t11.2 (by decide))⟩ ⟨(zl_e (zq_0 kz16_k19.symm) hh7.1 (by decide)), (zu_e (zq_0 kz16_k19) hh7.2 (by decide))⟩ (zd_w (zd_e (c := (-1)) (zd_e (c := 0) (zq_0 kz16_k20) hh8 (by decide)) (zq_r (c := (-1)) tx78 (by decide)) (by decide)) (by decide)) (zms_u (c := 6) hN1 (zq_r (c := (-1)) tx78 (by decide)) (zu_e (zl_d c12) t11.2 (by decide)) (by decide))
        · have c15 := cv_ne (a := (gA o_me_1 3 ((22 : Int32) + v2_1).toNatClampNeg).toInt) (b := 1) rfl (by decide) c15
          unfold bk_X9_layPlaces_119
          refine wp_lt (fun x80 ex80 => ?_)
          have tx80 : x80.toInt = v2_1.toInt + 1 := by rw [ex80]; exact i32_add rfl (by decide) (zk_l hh6.1 (by decide)) (zk_u (zu_e (k := 6) (zl_d c12) t11.2 (by decide)) (by decide))
          have t81 := igX9_43 hI_me_1
          exact ih1 v1_1 x80 o_me_1 hI_me_1 hkp_me_1 ⟨hh5.1, hh5.2⟩ ⟨(zl_e (zq_r (c := (-1)) tx80 (by decide)) hh6.1 (by decide)), (zu_e (zd_e (c := 0) (Int.le_of_eq tx80) (zl_d c12) (by decide)) t11.2 (by decide))⟩ ⟨hh7.1, hh7.2⟩ (zd_w (zd_e (c := (-1)) hh8 (zq_r (c := (-1)) tx80 (by decide)) (by decide)) (by decide)) (zms_u (c := 6) hN1 (zq_r (c := (-1)) tx80 (by decide)) (zu_e (zl_d c12) t11.2 (by decide)) (by decide))
  exact lp1 zfu p0 (0 : Int32) o1 hIo1 hkpo1 ⟨q0.1, q0.2⟩ ⟨by decide, by decide⟩ ⟨(zl_e (zq_0 ko1_k2.symm) q1.1 (by decide)), (zu_e (zq_0 ko1_k2) q1.2 (by decide))⟩ (zd_b (Int.le_of_eq ko1_v) (Int.le_of_eq tz0.symm) (by decide)) (zme_u (l := 0) (Int.le_of_eq tz0.symm) (by decide))

set_option maxHeartbeats 4000000 in
set_option maxRecDepth 100000 in
theorem s_X9_keepAll (o_me : Ob) (p0 : Int32) (hI_me : IvX9 o_me) (q0 : 0 ≤ p0.toInt ∧ p0.toInt ≤ 17) : wp (f_X9_keepAll   o_me p0) (fun (y : Ob) => IvX9 y ∧ Kp [1, 8, 11, 13, 14, 15, 16, 18, 19, 20, 21, 23, 26, 29, 34, 38, 43, 56, 57, 58, 59, 62] [2, 3, 4, 5, 7, 10, 12, 22, 24, 25, 27, 28, 42, 48, 50, 51, 55, 61] [(0, 1), (1, 2), (29, 36), (36, 64), (64, 71)] o_me y) := by
  unfold f_X9_keepAll
  have lp1 : ∀ (N1 : Nat) (v1_1 : Int32) (v2_1 : Int32) (o_me_1 : Ob), IvX9 o_me_1 → Kp [1, 8, 11, 13, 14, 15, 16, 18, 19, 20, 21, 23, 26, 29, 34, 38, 43, 56, 57, 58, 59, 62] [2, 3, 4, 5, 7, 10, 12, 22, 24, 25, 27, 28, 42, 48, 50, 51, 55, 61] [(0, 1), (1, 2), (29, 36), (36, 64), (64, 71)] o_me o_me_1 → (0 ≤ v1_1.toInt ∧ v1_1.toInt ≤ 17) → (0 ≤ v2_1.toInt ∧ v2_1.toInt ≤ 25) → (25 - v2_1.toInt).toNat < N1 → wp (lp_X9_keepAll_2   N1 (v1_1, v2_1, o_me_1)) (fun (y : Ob) => IvX9 y ∧ Kp [1, 8, 11, 13, 14, 15, 16, 18, 19, 20, 21, 23, 26, 29, 34, 38, 43, 56, 57, 58, 59, 62] [2, 3, 4, 5, 7, 10, 12, 22, 24, 25, 27, 28, 42, 48, 50, 51, 55, 61] [(0, 1), (1, 2), (29, 36), (36, 64), (64, 71)] o_me y) := by
    intro N1
    induction N1 with
    | zero =>
      intro v1_1 v2_1 o_me_1 hI_me_1 hkp_me_1 hh1 hh2 hN1
      exact absurd hN1 (Nat.not_lt_zero _)
    | succ N1 ihx =>
      have ih1 := ihx
      intro v1_1 v2_1 o_me_1 hI_me_1 hkp_me_1 hh1 hh2 hN1
      show wp (lb_X9_keepAll_2   (lp_X9_keepAll_2   N1) v1_1 v2_1 o_me_1) (fun (y : Ob) => IvX9 y ∧ Kp [1, 8, 11, 13, 14, 15, 16, 18, 19, 20, 21, 23, 26, 29, 34, 38, 43, 56, 57, 58, 59, 62] [2, 3, 4, 5, 7, 10, 12, 22, 24, 25, 27, 28, 42, 48, 50, 51, 55, 61] [(0, 1), (1, 2), (29, 36), (36, 64), (64, 71)] o_me y)
      unfold lb_X9_keepAll_2
      refine wp_if (fun c3 => ?_) (fun c3 => ?_)
      · have c3 := cv_ge (a := v2_1.toInt) (b := 25) rfl (by decide) c3
        refine wp_some ?_
        exact (show IvX9 o_me_1 ∧ Kp [1, 8, 11, 13, 14, 15, 16, 18, 19, 20, 21, 23, 26, 29, 34, 38, 43, 56, 57, 58, 59, 62] [2, 3, 4, 5, 7, 10, 12, 22, 24, 25, 27, 28, 42, 48, 50, 51, 55, 61] [(0, 1), (1, 2), (29, 36), (36, 64), (64, 71)] o_me o_me_1 from ⟨hI_me_1, hkp_me_1⟩)
      · have c3 := cv_nge (a := v2_1.toInt) (b := 25) rfl (by decide) c3
        have t4 : ((25 : Int32) * v1_1).toInt = 25 * v1_1.toInt := i32_mul (by decide) rfl (zm_l hh1.1 (by decide) (by decide)) (zm_u hh1.2 (by decide) (by decide))
        have t5 : (((25 : Int32) * v1_1) + v2_1).toInt = ((25 : Int32) * v1_1).toInt + v2_1.toInt := i32_add rfl rfl (zk_ll (zmq_l (c := 0) t4 hh1.1 (by decide) (by decide)) hh2.1 (by decide)) (zk_uu (zmq_u (c := 425) t4 hh1.2 (by decide) (by decide)) (zlt_u (c := 24) c3 (by decide)) (by decide))
        have t6 : ((4 : Int32) + v2_1).toInt = 4 + v2_1.toInt := i32_add (by decide) rfl (zk_cl hh2.1 (by decide)) (zk_cu (zlt_u (c := 24) c3 (by decide)) (by decide))
        refine wp_gd (zin_of (m := 5484) rfl (Int.le_trans (by decide) (zaqc_l (c := 4) t6 hh2.1 (by decide))) (zlt_m (c := 5483) (Int.le_trans (zaqc_u (c := 28) t6 (zlt_u (c := 24) c3 (by decide)) (by decide)) (by decide)) (by decide))) ?_
        refine wp_gd (zin_of (m := 450) rfl (zaq_l (c := 0) t5 (zmq_l (c := 0) t4 hh1.1 (by decide) (by decide)) hh2.1 (by decide)) (zlt_m (c := 449) (zaq_u (c := 449) t5 (zmq_u (c := 425) t4 hh1.2 (by decide) (by decide)) (zlt_u (c := 24) c3 (by decide)) (by decide)) (by decide))) ?_
        refine wp_lt (fun o7 eo7 => ?_)
        have hIo7 : IvX9 o7 := by rw [eo7]; exact spX9_keep hI_me_1 ⟨hh1.1, hh1.2⟩ ⟨hh2.1, (zlt_u (c := 24) c3 (by decide))⟩
        have hkpo7 : Kp [1, 8, 11, 13, 14, 15, 16, 18, 19, 20, 21, 23, 26, 29, 34, 38, 43, 56, 57, 58, 59, 62] [2, 3, 4, 5, 7, 10, 12, 22, 24, 25, 27, 28, 42, 48, 50, 51, 55, 61] [(0, 1), (1, 2), (29, 36), (36, 64), (64, 71)] o_me o7 := hkp_me_1.trans (by rw [eo7]; exact Kp.tA (by decide) (by decide))
        refine wp_lt (fun x8 ex8 => ?_)
        have tx8 : x8.toInt = v2_1.toInt + 1 := by rw [ex8]; exact i32_add rfl (by decide) (zk_l hh2.1 (by decide)) (zk_u (zlt_u (c := 24) c3 (by decide)) (by decide))
        exact ih1 v1_1 x8 o7 hIo7 hkpo7 ⟨hh1.1, hh1.2⟩ ⟨(zl_e (zq_r (c := (-1)) tx8 (by decide)) hh2.1 (by decide)), (zu_e (Int.le_of_eq tx8) (zlt_u (c := 24) c3 (by decide)) (by decide))⟩ (zms_u (c := 24) hN1 (zq_r (c := (-1)) tx8 (by decide)) (zlt_u (c := 24) c3 (by decide)) (by decide))
  exact lp1 zfu p0 (0 : Int32) o_me hI_me Kp.rf ⟨q0.1, q0.2⟩ ⟨by decide, by decide⟩ (zme_u (l := 0) (Int.le_of_eq tz0.symm) (by decide))

set_option maxHeartbeats 4000000 in
set_option maxRecDepth 100000 in
theorem s_X9_remember (o_me : Ob) (p0 : Int32) (hI_me : IvX9 o_me) (q0 : 0 ≤ p0.toInt ∧ p0.toInt ≤ 3) : wp (f_X9_remember   o_me p0) (fun (y : Ob) => IvX9 y ∧ Kp [1, 11, 13, 14, 15, 16, 18, 19, 20, 21, 23, 26, 29, 34, 38, 43, 56, 57, 58, 59, 62] [2, 3, 4, 5, 10, 12, 22, 24, 25, 27, 28, 42, 48, 50, 51, 55, 61] [(0, 1), (1, 2), (29, 36), (36, 64), (64, 71)] o_me y) := by
  have li0 : (0 : Int32).toInt = 0 := by decide
  have li1 : (1 : Int32).toInt = 1 := by decide
  have li2 : (15 : Int32).toInt = 15 := by decide
  have li3 : (16 : Int32).toInt = 16 := by decide
  have li4 : (25 : Int32).toInt = 25 := by decide
  have li5 : (375 : Int32).toInt = 375 := by decide
  unfold f_X9_remember
  have t1 := igX9_8 hI_me
  refine wp_if (fun c2 => ?_) (fun c2 => ?_)
  · have c2 := cv_eq (a := (gI o_me 8).toInt) (b := 16) rfl (by decide) c2
    have lp1 : ∀ (N1 : Nat) (v1_1 : Int32) (v2_1 : Int32) (o_me_1 : Ob), IvX9 o_me_1 → Kp [1, 11, 13, 14, 15, 16, 18, 19, 20, 21, 23, 26, 29, 34, 38, 43, 56, 57, 58, 59, 62] [2, 3, 4, 5, 10, 12, 22, 24, 25, 27, 28, 42, 48, 50, 51, 55, 61] [(0, 1), (1, 2), (29, 36), (36, 64), (64, 71)] o_me o_me_1 → (0 ≤ v1_1.toInt ∧ v1_1.toInt ≤ 3) → (0 ≤ v2_1.toInt ∧ v2_1.toInt ≤ 375) → (16 ≤ (gI o_me_1 8).toInt ∧ (gI o_me_1 8).toInt ≤ 16) → (375 - v2_1.toInt).toNat < N1 → wp (lp_X9_remember_11   N1 (v1_1, v2_1, o_me_1)) (fun (y : Ob) => IvX9 y ∧ Kp [1, 11, 13, 14, 15, 16, 18, 19, 20, 21, 23, 26, 29, 34, 38, 43, 56, 57, 58, 59, 62] [2, 3, 4, 5, 10, 12, 22, 24, 25, 27, 28, 42, 48, 50, 51, 55, 61] [(0, 1), (1, 2), (29, 36), (36, 64), (64, 71)] o_me y) := by
      intro N1
      induction N1 with
      | zero =>
        intro v1_1 v2_1 o_me_1 hI_me_1 hkp_me_1 hh4 hh5 hh6 hN1
        exact absurd hN1 (Nat.not_lt_zero _)
      | succ N1 ihx =>
        have ih1 := ihx
        intro v1_1 v2_1 o_me_1 hI_me_1 hkp_me_1 hh4 hh5 hh6 hN1
        show wp (lb_X9_remember_11   (lp_X9_remember_11   N1) v1_1 v2_1 o_me_1) (fun (y : Ob) => IvX9 y ∧ Kp [1, 11, 13, 14, 15, 16, 18, 19, 20, 21, 23, 26, 29, 34, 38, 43, 56, 57, 58, 59, 62] [2, 3, 4, 5, 10, 12, 22, 24, 25, 27, 28, 42, 48, 50, 51, 55, 61] [(0, 1), (1, 2), (29, 36), (36, 64), (64, 71)] o_me y)
        unfold lb_X9_remember_11
        refine wp_if (fun c7 => ?_) (fun c7 => ?_)
        · have c7 := cv_ge (a := v2_1.toInt) (b := 375) rfl (by decide) c7
          have lp2 : ∀ (N2 : Nat) (v1_2 : Int32) (v2_2 : Int32) (o_me_2 : Ob), IvX9 o_me_2 → Kp [1, 11, 13, 14, 15, 16, 18, 19, 20, 21, 23, 26, 29, 34, 38, 43, 56, 57, 58, 59, 62] [2, 3, 4, 5, 10, 12, 22, 24, 25, 27, 28, 42, 48, 50, 51, 55, 61] [(0, 1), (1, 2), (29, 36), (36, 64), (64, 71)] o_me o_me_2 → (0 ≤ v1_2.toInt ∧ v1_2.toInt ≤ 3) → (0 ≤ v2_2.toInt ∧ v2_2.toInt ≤ 15) → (16 ≤ (gI o_me_2 8).toInt ∧ (gI o_me_2 8).toInt ≤ 16) → (15 - v2_2.toInt).toNat < N2 → wp (lp_X9_remember_41   N2 (v1_2, v2_2, o_me_2)) (fun (y : Ob) => IvX9 y ∧ Kp [1, 11, 13, 14, 15, 16, 18, 19, 20, 21, 23, 26, 29, 34, 38, 43, 56, 57, 58, 59, 62] [2, 3, 4, 5, 10, 12, 22, 24, 25, 27, 28, 42, 48, 50, 51, 55, 61] [(0, 1), (1, 2), (29, 36), (36, 64), (64, 71)] o_me y) := by
            intro N2
            induction N2 with
            | zero =>
              intro v1_2 v2_2 o_me_2 hI_me_2 hkp_me_2 hh9 hh10 hh11 hN2
              exact absurd hN2 (Nat.not_lt_zero _)
            | succ N2 ihx =>
              have ih2 := ihx
              intro v1_2 v2_2 o_me_2 hI_me_2 hkp_me_2 hh9 hh10 hh11 hN2
              show wp (lb_X9_remember_41   (lp_X9_remember_41   N2) v1_2 v2_2 o_me_2) (fun (y : Ob) => IvX9 y ∧ Kp [1, 11, 13, 14, 15, 16, 18, 19, 20, 21, 23, 26, 29, 34, 38, 43, 56, 57, 58, 59, 62] [2, 3, 4, 5, 10, 12, 22, 24, 25, 27, 28, 42, 48, 50, 51, 55, 61] [(0, 1), (1, 2), (29, 36), (36, 64), (64, 71)] o_me y)
              unfold lb_X9_remember_41
              refine wp_if (fun c12 => ?_) (fun c12 => ?_)
              · have c12 := cv_ge (a := v2_2.toInt) (b := 15) rfl (by decide) c12
                have t13 : ((gI o_me_2 8) - (1 : Int32)).toInt = (gI o_me_2 8).toInt - 1 := i32_sub rfl (by decide) (zs_l hh11.1 (by decide)) (zs_u hh11.2 (by decide))
                refine wp_lt (fun o14 eo14 => ?_)
                have hIo14 : IvX9 o14 := by rw [eo14]; exact ipX9_8 hI_me_2 ⟨(zl_e (zq_t (c := 1) t13 (by decide)) hh11.1 (by decide)), (zu_e (zq_s (c := (-1)) t13 (by decide)) hh11.2 (by decide))⟩
                have ko14_v : (gI o14 8).toInt = ((gI o_me_2 8) - (1 : Int32)).toInt := by rw [eo14]; rfl
                have hkpo14 : Kp [1, 11, 13, 14, 15, 16, 18, 19, 20, 21, 23, 26, 29, 34, 38, 43, 56, 57, 58, 59, 62] [2, 3, 4, 5, 10, 12, 22, 24, 25, 27, 28, 42, 48, 50, 51, 55, 61] [(0, 1), (1, 2), (29, 36), (36, 64), (64, 71)] o_me o14 := hkp_me_2.trans (by rw [eo14]; exact Kp.sI (by decide))
                unfold bk_X9_remember_77
                refine wp_bd (s_X9_keepAll   o14 (gI o14 8)  hIo14  ⟨(zl_e (zd_e (c := 1) (zq_t (c := 1) t13 (by decide)) (zq_0 ko14_v.symm) (by decide)) hh11.1 (by decide)), (zu_e (zd_e (c := (-1)) (zq_0 ko14_v) (zq_s (c := (-1)) t13 (by decide)) (by decide)) hh11.2 (by decide))⟩) (fun z15 hz15 => ?_)
                obtain ⟨hz15_0, hz15_1⟩ := hz15
                have hkpz15_me : Kp [1, 11, 13, 14, 15, 16, 18, 19, 20, 21, 23, 26, 29, 34, 38, 43, 56, 57, 58, 59, 62] [2, 3, 4, 5, 10, 12, 22, 24, 25, 27, 28, 42, 48, 50, 51, 55, 61] [(0, 1), (1, 2), (29, 36), (36, 64), (64, 71)] o_me z15 := hkpo14.trans (hz15_1.mono (by decide) (by decide) (by decide))
                have kz15_k16 : (gI z15 8).toInt = (gI o14 8).toInt := congrArg Int32.toInt (hz15_1.1 8 (by decide))
                refine wp_gd (zin_of (m := 16) rfl (zl_e (zd_e (c := 1) (zq_t (c := 1) t13 (by decide)) (zd_e (c := 0) (zq_0 ko14_v.symm) (zq_0 kz15_k16.symm) (by decide)) (by decide)) hh11.1 (by decide)) (zlt_m (c := 15) (zu_e (zd_e (c := (-1)) (zd_e (c := 0) (zq_0 kz15_k16) (zq_0 ko14_v) (by decide)) (zq_s (c := (-1)) t13 (by decide)) (by decide)) hh11.2 (by decide)) (by decide))) ?_
                refine wp_lt (fun o17 eo17 => ?_)
                have hIo17 : IvX9 o17 := by rw [eo17]; exact ibX9_7 hz15_0 (zl_e (zd_e (c := 1) (zq_t (c := 1) t13 (by decide)) (zd_e (c := 0) (zq_0 ko14_v.symm) (zq_0 kz15_k16.symm) (by decide)) (by decide)) hh11.1 (by decide))  (Or.inr (Or.inr ⟨hh9.1, hh9.2⟩))
                have ko17_k18 : (gI o17 8).toInt = (gI z15 8).toInt := by rw [eo17]; rfl
                have ko17_v : (gA o17 7 (gI z15 8).toNatClampNeg).toInt = v1_2.toInt := by rw [eo17]; exact congrArg Int32.toInt (upd_eq (g := gA z15 7) (i := (gI z15 8)) (v := v1_2))
                have hkpo17 : Kp [1, 11, 13, 14, 15, 16, 18, 19, 20, 21, 23, 26, 29, 34, 38, 43, 56, 57, 58, 59, 62] [2, 3, 4, 5, 10, 12, 22, 24, 25, 27, 28, 42, 48, 50, 51, 55, 61] [(0, 1), (1, 2), (29, 36), (36, 64), (64, 71)] o_me o17 := hkpz15_me.trans (by rw [eo17]; exact Kp.tA (by decide) (by decide))
                have t19 : ((gI o17 8) + (1 : Int32)).toInt = (gI o17 8).toInt + 1 := i32_add rfl (by decide) (zk_l (zl_e (k := 15) (zd_e (c := 1) (zq_t (c := 1) t13 (by decide)) (zd_e (c := 0) (zq_0 ko14_v.symm) (zd_e (c := 0) (zq_0 kz15_k16.symm) (zq_0 ko17_k18.symm) (by decide)) (by decide)) (by decide)) hh11.1 (by decide)) (by decide)) (zk_u (zu_e (k := 15) (zd_e (c := (-1)) (zd_e (c := 0) (zd_e (c := 0) (zq_0 ko17_k18) (zq_0 kz15_k16) (by decide)) (zq_0 ko14_v) (by decide)) (zq_s (c := (-1)) t13 (by decide)) (by decide)) hh11.2 (by decide)) (by decide))
                refine wp_lt (fun o20 eo20 => ?_)
                have hIo20 : IvX9 o20 := by rw [eo20]; exact ipX9_8 hIo17 ⟨(by omega), (by omega)⟩
                have ko20_k21 : (gA o20 7 (gI z15 8).toNatClampNeg).toInt = (gA o17 7 (gI z15 8).toNatClampNeg).toInt := by rw [eo20]; rfl
                have ko20_v : (gI o20 8).toInt = ((gI o17 8) + (1 : Int32)).toInt := by rw [eo20]; rfl
                have hkpo20 : Kp [1, 11, 13, 14, 15, 16, 18, 19, 20, 21, 23, 26, 29, 34, 38, 43, 56, 57, 58, 59, 62] [2, 3, 4, 5, 10, 12, 22, 24, 25, 27, 28, 42, 48, 50, 51, 55, 61] [(0, 1), (1, 2), (29, 36), (36, 64), (64, 71)] o_me o20 := hkpo17.trans (by rw [eo20]; exact Kp.sI (by decide))
                refine wp_some ?_
                exact (show IvX9 o20 ∧ Kp [1, 11, 13, 14, 15, 16, 18, 19, 20, 21, 23, 26, 29, 34, 38, 43, 56, 57, 58, 59, 62] [2, 3, 4, 5, 10, 12, 22, 24, 25, 27, 28, 42, 48, 50, 51, 55, 61] [(0, 1), (1, 2), (29, 36), (36, 64), (64, 71)] o_me o20 from ⟨hIo20, hkpo20⟩)
              · have c12 := cv_nge (a := v2_2.toInt) (b := 15) rfl (by decide) c12
                have t22 : (v2_2 + (1 : Int32)).toInt = v2_2.toInt + 1 := i32_add rfl (by decide) (zk_l hh10.1 (by decide)) (zk_u (zlt_u (c := 14) c12 (by decide)) (by decide))
                refine wp_gd (zin_of (m := 16) rfl (zl_e (zq_r (c := (-1)) t22 (by decide)) hh10.1 (by decide)) (zlt_m (c := 15) (zu_e (Int.le_of_eq t22) (zlt_u (c := 14) c12 (by decide)) (by decide)) (by decide))) ?_
                have t23 := iaX9_7_0 hI_me_2 (j := v2_2 + (1 : Int32)) (zl_e (zq_r (c := (-1)) t22 (by decide)) hh10.1 (by decide)) (zu_e (Int.le_of_eq t22) (zlt_u (c := 14) c12 (by decide)) (by decide))
                refine wp_gd (zin_of (m := 16) rfl hh10.1 (zlt_m (c := 15) hh10.2 (by decide))) ?_
                refine wp_lt (fun o24 eo24 => ?_)
                have hIo24 : IvX9 o24 := by rw [eo24]; exact ibX9_7 hI_me_2 hh10.1  (Or.inr (Or.inr ⟨t23.1, t23.2⟩))
                have ko24_k25 : (gI o24 8).toInt = (gI o_me_2 8).toInt := by rw [eo24]; rfl
                have ko24_v : (gA o24 7 v2_2.toNatClampNeg).toInt = (gA o_me_2 7 (v2_2 + (1 : Int32)).toNatClampNeg).toInt := by rw [eo24]; exact congrArg Int32.toInt (upd_eq (g := gA o_me_2 7) (i := v2_2) (v := (gA o_me_2 7 (v2_2 + (1 : Int32)).toNatClampNeg)))
                have hkpo24 : Kp [1, 11, 13, 14, 15, 16, 18, 19, 20, 21, 23, 26, 29, 34, 38, 43, 56, 57, 58, 59, 62] [2, 3, 4, 5, 10, 12, 22, 24, 25, 27, 28, 42, 48, 50, 51, 55, 61] [(0, 1), (1, 2), (29, 36), (36, 64), (64, 71)] o_me o24 := hkp_me_2.trans (by rw [eo24]; exact Kp.tA (by decide) (by decide))
                refine wp_lt (fun x26 ex26 => ?_)
                have tx26 : x26.toInt = v2_2.toInt + 1 := by rw [ex26]; exact i32_add rfl (by decide) (zk_l hh10.1 (by decide)) (zk_u (zlt_u (c := 14) c12 (by decide)) (by decide))
                exact ih2 v1_2 x26 o24 hIo24 hkpo24 ⟨hh9.1, hh9.2⟩ ⟨(zl_e (zq_r (c := (-1)) tx26 (by decide)) hh10.1 (by decide)), (zu_e (Int.le_of_eq tx26) (zlt_u (c := 14) c12 (by decide)) (by decide))⟩ ⟨(zl_e (zq_0 ko24_k25.symm) hh11.1 (by decide)), (zu_e (zq_0 ko24_k25) hh11.2 (by decide))⟩ (zms_u (c := 14) hN2 (zq_r (c := (-1)) tx26 (by decide)) (zlt_u (c := 14) c12 (by decide)) (by decide))
          exact lp2 zfu v1_1 (0 : Int32) o_me_1 hI_me_1 hkp_me_1 ⟨hh4.1, hh4.2⟩ ⟨by decide, by decide⟩ ⟨hh6.1, hh6.2⟩ (zme_u (l := 0) (Int.le_of_eq tz0.symm) (by decide))
        · have c7 := cv_nge (a := v2_1.toInt) (b := 375) rfl (by decide) c7
          have t27 : (v2_1 + (25 : Int32)).toInt = v2_1.toInt + 25 := i32_add rfl (by decide) (zk_l hh5.1 (by decide)) (zk_u (zlt_u (c := 374) c7 (by decide)) (by decide))
          refine wp_gd (zin_of (m := 450) rfl (zl_e (zq_r (c := (-25)) t27 (by decide)) hh5.1 (by decide)) (zlt_m (c := 449) (zu_e (Int.le_of_eq t27) hh5.2 (by decide)) (by decide))) ?_
          refine wp_gd (zin_of (m := 450) rfl hh5.1 (zlt_m (c := 449) (Int.le_trans hh5.2 (by decide)) (by decide))) ?_
          refine wp_lt (fun o28 eo28 => ?_)
          have hIo28 : IvX9 o28 := by rw [eo28]; exact spX9_shift hI_me_1 ⟨hh5.1, (zlt_u (c := 374) c7 (by decide))⟩
          have ko28_k29 : (gI o28 8).toInt = (gI o_me_1 8).toInt := by rw [eo28]; rfl
          have ko28_v : (gA o28 6 v2_1.toNatClampNeg).toInt = (gA o_me_1 6 (v2_1 + (25 : Int32)).toNatClampNeg).toInt := by rw [eo28]; exact congrArg Int32.toInt (upd_eq (g := gA o_me_1 6) (i := v2_1) (v := (gA o_me_1 6 (v2_1 + (25 : Int32)).toNatClampNeg)))
          have hkpo28 : Kp [1, 11, 13, 14, 15, 16, 18, 19, 20, 21, 23, 26, 29, 34, 38, 43, 56, 57, 58, 59, 62] [2, 3, 4, 5, 10, 12, 22, 24, 25, 27, 28, 42, 48, 50, 51, 55, 61] [(0, 1), (1, 2), (29, 36), (36, 64), (64, 71)] o_me o28 := hkp_me_1.trans (by rw [eo28]; exact Kp.tA (by decide) (by decide))
          refine wp_lt (fun x30 ex30 => ?_)
          have tx30 : x30.toInt = v2_1.toInt + 1 := by rw [ex30]; exact i32_add rfl (by decide) (zk_l hh5.1 (by decide)) (zk_u (zlt_u (c := 374) c7 (by decide)) (by decide))
          exact ih1 v1_1 x30 o28 hIo28 hkpo28 ⟨hh4.1, hh4.2⟩ ⟨(zl_e (zq_r (c := (-1)) tx30 (by decide)) hh5.1 (by decide)), (zu_e (Int.le_of_eq tx30) (zlt_u (c := 374) c7 (by decide)) (by decide))⟩ ⟨(zl_e (zq_0 ko28_k29.symm) hh6.1 (by decide)), (zu_e (zq_0 ko28_k29) hh6.2 (by decide))⟩ (zms_u (c := 374) hN1 (zq_r (c := (-1)) tx30 (by decide)) (zlt_u (c := 374) c7 (by decide)) (by decide))
    exact lp1 zfu p0 (0 : Int32) o_me hI_me Kp.rf ⟨q0.1, q0.2⟩ ⟨by decide, by decide⟩ ⟨(Int.le_of_eq c2.symm), t1.2⟩ (zme_u (l := 0) (Int.le_of_eq tz0.symm) (by decide))
  · have c2 := cv_ne (a := (gI o_me 8).toInt) (b := 16) rfl (by decide) c2
    unfold bk_X9_remember_77
    refine wp_bd (s_X9_keepAll   o_me (gI o_me 8)  hI_me  ⟨t1.1, (Int.le_trans t1.2 (by decide))⟩) (fun z31 hz31 => ?_)
    obtain ⟨hz31_0, hz31_1⟩ := hz31
    have hkpz31_me : Kp [1, 11, 13, 14, 15, 16, 18, 19, 20, 21, 23, 26, 29, 34, 38, 43, 56, 57, 58, 59, 62] [2, 3, 4, 5, 10, 12, 22, 24, 25, 27, 28, 42, 48, 50, 51, 55, 61] [(0, 1), (1, 2), (29, 36), (36, 64), (64, 71)] o_me z31 := Kp.rf.trans (hz31_1.mono (by decide) (by decide) (by decide))
    have kz31_k32 : (gI z31 8).toInt = (gI o_me 8).toInt := congrArg Int32.toInt (hz31_1.1 8 (by decide))
    refine wp_gd (zin_of (m := 16) rfl (zl_e (zq_0 kz31_k32.symm) t1.1 (by decide)) (zlt_m (c := 15) (zu_e (zq_0 kz31_k32) (zn_u (c := 15) t1.2 c2 (by decide)) (by decide)) (by decide))) ?_
    refine wp_lt (fun o33 eo33 => ?_)
    have hIo33 : IvX9 o33 := by rw [eo33]; exact ibX9_7 hz31_0 (zl_e (zq_0 kz31_k32.symm) t1.1 (by decide))  (Or.inr (Or.inr ⟨q0.1, q0.2⟩))
    have ko33_k34 : (gI o33 8).toInt = (gI z31 8).toInt := by rw [eo33]; rfl
    have ko33_v : (gA o33 7 (gI z31 8).toNatClampNeg).toInt = p0.toInt := by rw [eo33]; exact congrArg Int32.toInt (upd_eq (g := gA z31 7) (i := (gI z31 8)) (v := p0))
    have hkpo33 : Kp [1, 11, 13, 14, 15, 16, 18, 19, 20, 21, 23, 26, 29, 34, 38, 43, 56, 57, 58, 59, 62] [2, 3, 4, 5, 10, 12, 22, 24, 25, 27, 28, 42, 48, 50, 51, 55, 61] [(0, 1), (1, 2), (29, 36), (36, 64), (64, 71)] o_me o33 := hkpz31_me.trans (by rw [eo33]; exact Kp.tA (by decide) (by decide))
    have t35 : ((gI o33 8) + (1 : Int32)).toInt = (gI o33 8).toInt + 1 := i32_add rfl (by decide) (zk_l (zl_e (k := 0) (zd_e (c := 0) (zq_0 kz31_k32.symm) (zq_0 ko33_k34.symm) (by decide)) t1.1 (by decide)) (by decide)) (zk_u (zu_e (k := 16) (zd_e (c := 0) (zq_0 ko33_k34) (zq_0 kz31_k32) (by decide)) t1.2 (by decide)) (by decide))
    refine wp_lt (fun o36 eo36 => ?_)
    have hIo36 : IvX9 o36 := by rw [eo36]; exact ipX9_8 hIo33 ⟨(zl_e (zd_e (c := (-1)) (zq_0 kz31_k32.symm) (zd_e (c := (-1)) (zq_0 ko33_k34.symm) (zq_r (c := (-1)) t35 (by decide)) (by decide)) (by decide)) t1.1 (by decide)), (zu_e (zd_e (c := 1) (zd_e (c := 1) (Int.le_of_eq t35) (zq_0 ko33_k34) (by decide)) (zq_0 kz31_k32) (by decide)) (zn_u (c := 15) t1.2 c2 (by decide)) (by decide))⟩
    have ko36_k37 : (gA o36 7 (gI z31 8).toNatClampNeg).toInt = (gA o33 7 (gI z31 8).toNatClampNeg).toInt := by rw [eo36]; rfl
    have ko36_v : (gI o36 8).toInt = ((gI o33 8) + (1 : Int32)).toInt := by rw [eo36]; rfl
    have hkpo36 : Kp [1, 11, 13, 14, 15, 16, 18, 19, 20, 21, 23, 26, 29, 34, 38, 43, 56, 57, 58, 59, 62] [2, 3, 4, 5, 10, 12, 22, 24, 25, 27, 28, 42, 48, 50, 51, 55, 61] [(0, 1), (1, 2), (29, 36), (36, 64), (64, 71)] o_me o36 := hkpo33.trans (by rw [eo36]; exact Kp.sI (by decide))
    refine wp_some ?_
    exact (show IvX9 o36 ∧ Kp [1, 11, 13, 14, 15, 16, 18, 19, 20, 21, 23, 26, 29, 34, 38, 43, 56, 57, 58, 59, 62] [2, 3, 4, 5, 10, 12, 22, 24, 25, 27, 28, 42, 48, 50, 51, 55, 61] [(0, 1), (1, 2), (29, 36), (36, 64), (64, 71)] o_me o36 from ⟨hIo36, hkpo36⟩)

set_option maxHeartbeats 4000000 in
set_option maxRecDepth 100000 in
theorem s_X9_winsOf (o_me : Ob) (p0 : Int32) (p1 : Int32) (p2 : Int32) (hI_me : IvX9 o_me) (q0 : 0 ≤ p0.toInt ∧ p0.toInt ≤ 6) (q1 : 0 ≤ p1.toInt ∧ p1.toInt ≤ 9) (q2 : 0 ≤ (gI o_me 20).toInt ∧ (gI o_me 20).toInt ≤ 0) : wp (f_X9_winsOf   o_me p0 p1 p2) (fun (y : Int32 × Ob) => (0 ≤ y.1.toInt ∧ y.1.toInt ≤ 9) ∧ IvX9 y.2 ∧ Kp [1, 8, 11, 13, 14, 15, 16, 18, 19, 20, 21, 23, 26, 29, 43, 56, 57, 58, 59, 62] [2, 3, 4, 5, 7, 10, 12, 22, 24, 25, 27, 28, 42, 48, 50, 51, 55, 61] [(0, 1), (1, 2), (29, 36), (36, 64), (64, 71)] o_me y.2) := by
  unfold f_X9_winsOf
  refine wp_bd (s_X9_tells   o_me (2 : Int32) p0 p1 p2 ((4 : Int64) - p2.toInt64)  hI_me  ⟨q0.1, q0.2⟩ ⟨q1.1, q1.2⟩ ⟨q2.1, q2.2⟩) (fun z4 hz4 => ?_)
  obtain ⟨hz4_0, hz4_1⟩ := hz4
  have hkpz4_me : Kp [1, 8, 11, 13, 14, 15, 16, 18, 19, 20, 21, 23, 26, 29, 43, 56, 57, 58, 59, 62] [2, 3, 4, 5, 7, 10, 12, 22, 24, 25, 27, 28, 42, 48, 50, 51, 55, 61] [(0, 1), (1, 2), (29, 36), (36, 64), (64, 71)] o_me z4.2 := Kp.rf.trans (hz4_1.mono (by decide) (by decide) (by decide))
  refine wp_bd (s_X9_within   z4.1 (0 : Int32) (9 : Int32)    (zd_b (Int.le_of_eq tz0) (Int.le_of_eq tz9.symm) (by decide))) (fun z6 hz6 => ?_)
  obtain ⟨hz6_0, hz6_1⟩ := hz6
  refine wp_some ?_
  exact (show (0 ≤ z6.toInt ∧ z6.toInt ≤ 9) ∧ IvX9 z4.2 ∧ Kp [1, 8, 11, 13, 14, 15, 16, 18, 19, 20, 21, 23, 26, 29, 43, 56, 57, 58, 59, 62] [2, 3, 4, 5, 7, 10, 12, 22, 24, 25, 27, 28, 42, 48, 50, 51, 55, 61] [(0, 1), (1, 2), (29, 36), (36, 64), (64, 71)] o_me z4.2 from ⟨⟨(zl_e hz6_1 (Int.le_of_eq tz0.symm) (by decide)), (zu_e hz6_0 (Int.le_of_eq tz9) (by decide))⟩, hz4_0, hkpz4_me⟩)

set_option maxHeartbeats 4000000 in
set_option maxRecDepth 100000 in
theorem s_X9_turnsOf (o_me : Ob) (p0 : Int32) (p1 : Int32) (hI_me : IvX9 o_me) (q0 : 0 ≤ p0.toInt ∧ p0.toInt ≤ 6) (q1 : 0 ≤ p1.toInt ∧ p1.toInt ≤ 9) (q2 : 0 ≤ (gI o_me 20).toInt ∧ (gI o_me 20).toInt ≤ 0) : wp (f_X9_turnsOf   o_me p0 p1) (fun (y : Int32 × Ob) => (0 ≤ y.1.toInt ∧ y.1.toInt ≤ 9) ∧ IvX9 y.2 ∧ Kp [1, 8, 11, 13, 14, 15, 16, 18, 19, 20, 21, 23, 26, 29, 43, 56, 57, 58, 59, 62] [2, 3, 4, 5, 7, 10, 12, 22, 24, 25, 27, 28, 42, 48, 50, 51, 55, 61] [(0, 1), (1, 2), (29, 36), (36, 64), (64, 71)] o_me y.2) := by
  unfold f_X9_turnsOf
  have t1 : ((8 : Int32) + p0).toInt = 8 + p0.toInt := i32_add (by decide) rfl (zk_cl q0.1 (by decide)) (zk_cu q0.2 (by decide))
  refine wp_gd (zin_of (m := 5484) rfl (Int.le_trans (by decide) (zaqc_l (c := 8) t1 q0.1 (by decide))) (zlt_m (c := 5483) (Int.le_trans (zaqc_u (c := 14) t1 q0.2 (by decide)) (by decide)) (by decide))) ?_
  refine wp_bd (s_X9_tells   o_me (1 : Int32) p0 p1 (2 : Int32) ((((gA o_me 3 ((8 : Int32) + p0).toNatClampNeg) + (1 : Int32)) - ((gA o_me 3 ((8 : Int32) + p0).toNatClampNeg) + (1 : Int32)) / (10 : Int32) * (10 : Int32)).toInt64)  hI_me  ⟨q0.1, q0.2⟩ ⟨q1.1, q1.2⟩ ⟨q2.1, q2.2⟩) (fun z6 hz6 => ?_)
  obtain ⟨hz6_0, hz6_1⟩ := hz6
  have hkpz6_me : Kp [1, 8, 11, 13, 14, 15, 16, 18, 19, 20, 21, 23, 26, 29, 43, 56, 57, 58, 59, 62] [2, 3, 4, 5, 7, 10, 12, 22, 24, 25, 27, 28, 42, 48, 50, 51, 55, 61] [(0, 1), (1, 2), (29, 36), (36, 64), (64, 71)] o_me z6.2 := Kp.rf.trans (hz6_1.mono (by decide) (by decide) (by decide))
  refine wp_bd (s_X9_within   z6.1 (0 : Int32) (9 : Int32)    (zd_b (Int.le_of_eq tz0) (Int.le_of_eq tz9.symm) (by decide))) (fun z9 hz9 => ?_)
  obtain ⟨hz9_0, hz9_1⟩ := hz9
  refine wp_some ?_
  exact (show (0 ≤ z9.toInt ∧ z9.toInt ≤ 9) ∧ IvX9 z6.2 ∧ Kp [1, 8, 11, 13, 14, 15, 16, 18, 19, 20, 21, 23, 26, 29, 43, 56, 57, 58, 59, 62] [2, 3, 4, 5, 7, 10, 12, 22, 24, 25, 27, 28, 42, 48, 50, 51, 55, 61] [(0, 1), (1, 2), (29, 36), (36, 64), (64, 71)] o_me z6.2 from ⟨⟨(zl_e hz9_1 (Int.le_of_eq tz0.symm) (by decide)), (zu_e hz9_0 (Int.le_of_eq tz9) (by decide))⟩, hz6_0, hkpz6_me⟩)

set_option maxHeartbeats 4000000 in
set_option maxRecDepth 100000 in
theorem s_X9_raceIt (o_me : Ob) (p0 : Int32) (hI_me : IvX9 o_me) (q0 : 0 ≤ p0.toInt ∧ p0.toInt ≤ 3) (q1 : 0 ≤ (gI o_me 20).toInt ∧ (gI o_me 20).toInt ≤ 0) : wp (f_X9_raceIt   o_me p0) (fun (y : Int32 × Ob) => (0 ≤ y.1.toInt ∧ y.1.toInt ≤ 6) ∧ IvX9 y.2 ∧ Kp [1, 8, 11, 13, 14, 15, 16, 18, 19, 20, 21, 23, 26, 29, 43, 56, 57, 58, 59, 62] [2, 4, 5, 7, 10, 12, 22, 24, 25, 27, 28, 42, 48, 50, 51, 55, 61] [(0, 1), (1, 2), (29, 36), (36, 64), (64, 71)] o_me y.2) := by
  have li0 : (0 : Int32).toInt = 0 := by decide
  have li1 : (1 : Int32).toInt = 1 := by decide
  have li2 : (15 : Int32).toInt = 15 := by decide
  have li3 : (2 : Int32).toInt = 2 := by decide
  have li4 : (22 : Int32).toInt = 22 := by decide
  have li5 : (3 : Int32).toInt = 3 := by decide
  have li6 : (7 : Int32).toInt = 7 := by decide
  have li7 : (8 : Int32).toInt = 8 := by decide
  have li8 : (999 : Int32).toInt = 999 := by decide
  unfold f_X9_raceIt
  have t1 := iaX9_42_0 hI_me (j := (0 : Int32)) (by decide) (by decide)
  refine wp_lt (fun x2 ex2 => ?_)
  have tx2 : x2.toInt = (gA o_me 42 (0 : Int32).toNatClampNeg).toInt := by rw [ex2]
  refine wp_bd (s_X9_winsOf   o_me x2 p0 (1 : Int32)  hI_me  ⟨(zl_e (zq_0 tx2.symm) t1.1 (by decide)), (zu_e (zq_0 tx2) t1.2 (by decide))⟩ ⟨q0.1, (Int.le_trans q0.2 (by decide))⟩ ⟨q1.1, q1.2⟩) (fun z3 hz3 => ?_)
  obtain ⟨hz3_0, hz3_1, hz3_2⟩ := hz3
  have hkpz3_me : Kp [1, 8, 11, 13, 14, 15, 16, 18, 19, 20, 21, 23, 26, 29, 43, 56, 57, 58, 59, 62] [2, 4, 5, 7, 10, 12, 22, 24, 25, 27, 28, 42, 48, 50, 51, 55, 61] [(0, 1), (1, 2), (29, 36), (36, 64), (64, 71)] o_me z3.2 := Kp.rf.trans (hz3_2.mono (by decide) (by decide) (by decide))
  have kz3_k4 : (gA z3.2 42 (0 : Int32).toNatClampNeg).toInt = (gA o_me 42 (0 : Int32).toNatClampNeg).toInt := congrArg (fun g => (g (0 : Int32).toNatClampNeg).toInt) (hz3_2.2.1 42 (by decide))
  have kz3_k5 : (gI z3.2 20).toInt = (gI o_me 20).toInt := congrArg Int32.toInt (hz3_2.1 20 (by decide))
  have t6 := igX9_43 hz3_1
  refine wp_if (fun c7 => ?_) (fun c7 => ?_)
  · have c7 := cv_le (a := (gI z3.2 43).toInt) (b := 1) rfl (by decide) c7
    obtain ⟨w8, ew8⟩ : ∃ z : Int32, z = (0 : Int32) := ⟨_, rfl⟩
    have tw8 : w8.toInt = 0 := by rw [ew8]; decide
    rw [show bk_X9_raceIt_39   p0 x2 z3.1 (0 : Int32) z3.2 = bk_X9_raceIt_39   p0 x2 z3.1 w8 z3.2 from by rw [ew8]]
    unfold bk_X9_raceIt_39
    refine wp_if (fun c9 => ?_) (fun c9 => ?_)
    · have c9 := cv_le (a := (gI z3.2 43).toInt) (b := 1) rfl (by decide) c9
      obtain ⟨w10, ew10⟩ : ∃ z : Int32, z = (0 : Int32) := ⟨_, rfl⟩
      have tw10 : w10.toInt = 0 := by rw [ew10]; decide
      rw [show bk_X9_raceIt_64   p0 x2 z3.1 w8 (0 : Int32) z3.2 = bk_X9_raceIt_64   p0 x2 z3.1 w8 w10 z3.2 from by rw [ew10]]
      unfold bk_X9_raceIt_64
      refine wp_if (fun c11 => ?_) (fun c11 => ?_)
      · have c11 := cv_le (a := (gI z3.2 43).toInt) (b := 2) rfl (by decide) c11
        obtain ⟨w12, ew12⟩ : ∃ z : Int32, z = (0 : Int32) := ⟨_, rfl⟩
        have tw12 : w12.toInt = 0 := by rw [ew12]; decide
        rw [show bk_X9_raceIt_90   x2 z3.1 w8 w10 (0 : Int32) z3.2 = bk_X9_raceIt_90   x2 z3.1 w8 w10 w12 z3.2 from by rw [ew12]]
        unfold bk_X9_raceIt_90
        have t13 : ((15 : Int32) + x2).toInt = 15 + x2.toInt := i32_add (by decide) rfl (zk_cl (zl_e (k := 0) (zq_0 tx2.symm) t1.1 (by decide)) (by decide)) (zk_cu (zu_e (k := 6) (zq_0 tx2) t1.2 (by decide)) (by decide))
        refine wp_gd (zin_of (m := 5484) rfl (Int.le_trans (by decide) (zaqc_l (c := 15) t13 (zl_e (k := 0) (zq_0 tx2.symm) t1.1 (by decide)) (by decide))) (zlt_m (c := 5483) (Int.le_trans (zaqc_u (c := 21) t13 (zu_e (k := 6) (zq_0 tx2) t1.2 (by decide)) (by decide)) (by decide)) (by decide))) ?_
        have rg14 := i32_rg ((gA z3.2 3 ((15 : Int32) + x2).toNatClampNeg) + z3.1)
        have t15 : (((gA z3.2 3 ((15 : Int32) + x2).toNatClampNeg) + z3.1).toInt64).toInt = ((gA z3.2 3 ((15 : Int32) + x2).toNatClampNeg) + z3.1).toInt := Int32.toInt_toInt64 _
        refine wp_bd (s_X9_within   (((gA z3.2 3 ((15 : Int32) + x2).toNatClampNeg) + z3.1).toInt64) (0 : Int32) (999 : Int32)    (zd_b (Int.le_of_eq tz0) (Int.le_of_eq tz999.symm) (by decide))) (fun z16 hz16 => ?_)
        obtain ⟨hz16_0, hz16_1⟩ := hz16
        refine wp_gd (zin_of (m := 5484) rfl (Int.le_trans (by decide) (zaqc_l (c := 15) t13 (zl_e (k := 0) (zq_0 tx2.symm) t1.1 (by decide)) (by decide))) (zlt_m (c := 5483) (Int.le_trans (zaqc_u (c := 21) t13 (zu_e (k := 6) (zq_0 tx2) t1.2 (by decide)) (by decide)) (by decide)) (by decide))) ?_
        refine wp_lt (fun o17 eo17 => ?_)
        have hIo17 : IvX9 o17 := by rw [eo17]; exact ibX9_3 hz3_1 (Int.le_trans (by decide) (zaqc_l (c := 15) t13 (zl_e (k := 0) (zq_0 tx2.symm) t1.1 (by decide)) (by decide))) (Int.le_trans (zaqc_u (c := 21) t13 (zu_e (k := 6) (zq_0 tx2) t1.2 (by decide)) (by decide)) (by decide)) (Or.inr (Or.inl (zlt_k (c := 1) (Int.le_trans (by decide) (zaqc_l (c := 15) t13 (zl_e (k := 0) (zq_0 tx2.symm) t1.1 (by decide)) (by decide))) (by decide)))) (Or.inr (Or.inl (zlt_k (c := 2) (Int.le_trans (by decide) (zaqc_l (c := 15) t13 (zl_e (k := 0) (zq_0 tx2.symm) t1.1 (by decide)) (by decide))) (by decide)))) (Or.inr (Or.inl (zlt_k (c := 3) (Int.le_trans (by decide) (zaqc_l (c := 15) t13 (zl_e (k := 0) (zq_0 tx2.symm) t1.1 (by decide)) (by decide))) (by decide)))) (Or.inr (Or.inl (zlt_k (c := 4) (Int.le_trans (by decide) (zaqc_l (c := 15) t13 (zl_e (k := 0) (zq_0 tx2.symm) t1.1 (by decide)) (by decide))) (by decide)))) (Or.inr (Or.inl (zlt_k (c := 8) (Int.le_trans (by decide) (zaqc_l (c := 15) t13 (zl_e (k := 0) (zq_0 tx2.symm) t1.1 (by decide)) (by decide))) (by decide)))) (Or.inr (Or.inl (zlt_k (c := 15) (zaqc_l (c := 15) t13 (zl_e (k := 0) (zq_0 tx2.symm) t1.1 (by decide)) (by decide)) (by decide)))) (Or.inl (zlt_m (c := 21) (zaqc_u (c := 21) t13 (zu_e (k := 6) (zq_0 tx2) t1.2 (by decide)) (by decide)) (by decide))) (Or.inl (zlt_m (c := 28) (Int.le_trans (zaqc_u (c := 21) t13 (zu_e (k := 6) (zq_0 tx2) t1.2 (by decide)) (by decide)) (by decide)) (by decide))) (Or.inl (zlt_m (c := 70) (Int.le_trans (zaqc_u (c := 21) t13 (zu_e (k := 6) (zq_0 tx2) t1.2 (by decide)) (by decide)) (by decide)) (by decide)))
        have ko17_k18 : (gA o17 42 (0 : Int32).toNatClampNeg).toInt = (gA z3.2 42 (0 : Int32).toNatClampNeg).toInt := by rw [eo17]; rfl
        have ko17_k19 : (gI o17 20).toInt = (gI z3.2 20).toInt := by rw [eo17]; rfl
        have ko17_k20 : (gI o17 43).toInt = (gI z3.2 43).toInt := by rw [eo17]; rfl
        have ko17_v : (gA o17 3 ((15 : Int32) + x2).toNatClampNeg).toInt = z16.toInt := by rw [eo17]; exact congrArg Int32.toInt (upd_eq (g := gA z3.2 3) (i := ((15 : Int32) + x2)) (v := z16))
        have hkpo17 : Kp [1, 8, 11, 13, 14, 15, 16, 18, 19, 20, 21, 23, 26, 29, 43, 56, 57, 58, 59, 62] [2, 4, 5, 7, 10, 12, 22, 24, 25, 27, 28, 42, 48, 50, 51, 55, 61] [(0, 1), (1, 2), (29, 36), (36, 64), (64, 71)] o_me o17 := hkpz3_me.trans (by rw [eo17]; exact kp_bw (a := 2) (b := 29) (by decide) (by decide) (Int.le_trans (by decide) (zaqc_l (c := 15) t13 (zl_e (k := 0) (zq_0 tx2.symm) t1.1 (by decide)) (by decide))) (Int.lt_of_le_of_lt (zaqc_u (c := 21) t13 (zu_e (k := 6) (zq_0 tx2) t1.2 (by decide)) (by decide)) (by decide)))
        have t21 := iaX9_3_4 hIo17 (j := (7 : Int32)) (by decide) (by decide)
        have t22 : ((gA o17 3 (7 : Int32).toNatClampNeg) + w8).toInt = (gA o17 3 (7 : Int32).toNatClampNeg).toInt + w8.toInt := i32_add rfl rfl (zk_ll t21.1 (Int.le_of_eq tw8.symm) (by decide)) (zk_uu t21.2 (Int.le_of_eq tw8) (by decide))
        have t23 : (((gA o17 3 (7 : Int32).toNatClampNeg) + w8).toInt64).toInt = ((gA o17 3 (7 : Int32).toNatClampNeg) + w8).toInt := Int32.toInt_toInt64 _
        refine wp_bd (s_X9_within   (((gA o17 3 (7 : Int32).toNatClampNeg) + w8).toInt64) (0 : Int32) (999 : Int32)    (zd_e (c := 0) hz16_1 hz16_0 (by decide))) (fun z24 hz24 => ?_)
        obtain ⟨hz24_0, hz24_1⟩ := hz24
        refine wp_lt (fun o25 eo25 => ?_)
        have hIo25 : IvX9 o25 := by rw [eo25]; exact ibX9_3 hIo17 (by decide) (by decide) (Or.inr (Or.inl (by decide))) (Or.inr (Or.inl (by decide))) (Or.inr (Or.inl (by decide))) (Or.inr (Or.inl (by decide))) (Or.inr (Or.inr ⟨(zl_e hz24_1 (Int.le_of_eq tz0.symm) (by decide)), (zu_e hz24_0 (Int.le_of_eq tz999) (by decide))⟩)) (Or.inl (by decide)) (Or.inl (by decide)) (Or.inl (by decide)) (Or.inl (by decide))
        have ko25_k26 : (gA o25 3 ((15 : Int32) + x2).toNatClampNeg).toInt = (gA o17 3 ((15 : Int32) + x2).toNatClampNeg).toInt := by rw [eo25]; exact congrArg Int32.toInt (upd_ne (g := gA o17 3) (i := (7 : Int32)) (j := ((15 : Int32) + x2)) (v := z24) (by decide) (Int.le_trans (by decide) (zaqc_l (c := 15) t13 (zl_e (k := 0) (zq_0 tx2.symm) t1.1 (by decide)) (by decide))) (zne_l (k := 7) (l := 15) (by decide) (zaqc_l (c := 15) t13 (zl_e (k := 0) (zq_0 tx2.symm) t1.1 (by decide)) (by decide)) (by decide)))
        have ko25_k27 : (gA o25 42 (0 : Int32).toNatClampNeg).toInt = (gA o17 42 (0 : Int32).toNatClampNeg).toInt := by rw [eo25]; rfl
        have ko25_k28 : (gI o25 20).toInt = (gI o17 20).toInt := by rw [eo25]; rfl
        have ko25_k29 : (gI o25 43).toInt = (gI o17 43).toInt := by rw [eo25]; rfl
        have ko25_v : (gA o25 3 (7 : Int32).toNatClampNeg).toInt = z24.toInt := by rw [eo25]; exact congrArg Int32.toInt (upd_eq (g := gA o17 3) (i := (7 : Int32)) (v := z24))
        have hkpo25 : Kp [1, 8, 11, 13, 14, 15, 16, 18, 19, 20, 21, 23, 26, 29, 43, 56, 57, 58, 59, 62] [2, 4, 5, 7, 10, 12, 22, 24, 25, 27, 28, 42, 48, 50, 51, 55, 61] [(0, 1), (1, 2), (29, 36), (36, 64), (64, 71)] o_me o25 := hkpo17.trans (by rw [eo25]; exact kp_bw (a := 7) (b := 8) (by decide) (by decide) (by decide) (by decide))
        refine wp_if (fun c30 => ?_) (fun c30 => ?_)
        · have c30 := cv_le (a := (gI o25 43).toInt) (b := 1) rfl (by decide) c30
          unfold bk_X9_raceIt_169
          refine wp_if (fun c31 => ?_) (fun c31 => ?_)
          · have c31 := cv_le (a := (gI o25 43).toInt) (b := 2) rfl (by decide) c31
            unfold bk_X9_raceIt_216
            have lp1 : ∀ (N1 : Nat) (v2_1 : Int32) (v7_1 : Int32) (o_me_1 : Ob), IvX9 o_me_1 → Kp [1, 8, 11, 13, 14, 15, 16, 18, 19, 20, 21, 23, 26, 29, 43, 56, 57, 58, 59, 62] [2, 4, 5, 7, 10, 12, 22, 24, 25, 27, 28, 42, 48, 50, 51, 55, 61] [(0, 1), (1, 2), (29, 36), (36, 64), (64, 71)] o_me o_me_1 → (0 ≤ v2_1.toInt ∧ v2_1.toInt ≤ 6) → (0 ≤ v7_1.toInt ∧ v7_1.toInt ≤ 7) → (7 - v7_1.toInt).toNat < N1 → wp (lp_X9_raceIt_219   N1 (v2_1, v7_1, o_me_1)) (fun (y : Int32 × Ob) => (0 ≤ y.1.toInt ∧ y.1.toInt ≤ 6) ∧ IvX9 y.2 ∧ Kp [1, 8, 11, 13, 14, 15, 16, 18, 19, 20, 21, 23, 26, 29, 43, 56, 57, 58, 59, 62] [2, 4, 5, 7, 10, 12, 22, 24, 25, 27, 28, 42, 48, 50, 51, 55, 61] [(0, 1), (1, 2), (29, 36), (36, 64), (64, 71)] o_me y.2) := by
              intro N1
              induction N1 with
              | zero =>
                intro v2_1 v7_1 o_me_1 hI_me_1 hkp_me_1 hh32 hh33 hN1
                exact absurd hN1 (Nat.not_lt_zero _)
              | succ N1 ihx =>
                have ih1 := ihx
                intro v2_1 v7_1 o_me_1 hI_me_1 hkp_me_1 hh32 hh33 hN1
                show wp (lb_X9_raceIt_219   (lp_X9_raceIt_219   N1) v2_1 v7_1 o_me_1) (fun (y : Int32 × Ob) => (0 ≤ y.1.toInt ∧ y.1.toInt ≤ 6) ∧ IvX9 y.2 ∧ Kp [1, 8, 11, 13, 14, 15, 16, 18, 19, 20, 21, 23, 26, 29, 43, 56, 57, 58, 59, 62] [2, 4, 5, 7, 10, 12, 22, 24, 25, 27, 28, 42, 48, 50, 51, 55, 61] [(0, 1), (1, 2), (29, 36), (36, 64), (64, 71)] o_me y.2)
                unfold lb_X9_raceIt_219
                have t34 := igX9_43 hI_me_1
                refine wp_if (fun c35 => ?_) (fun c35 => ?_)
                · have c35 := cv_ge (a := v7_1.toInt) (b := (gI o_me_1 43).toInt) rfl rfl c35
                  refine wp_some ?_
                  exact (show (0 ≤ v2_1.toInt ∧ v2_1.toInt ≤ 6) ∧ IvX9 o_me_1 ∧ Kp [1, 8, 11, 13, 14, 15, 16, 18, 19, 20, 21, 23, 26, 29, 43, 56, 57, 58, 59, 62] [2, 4, 5, 7, 10, 12, 22, 24, 25, 27, 28, 42, 48, 50, 51, 55, 61] [(0, 1), (1, 2), (29, 36), (36, 64), (64, 71)] o_me o_me_1 from ⟨⟨hh32.1, hh32.2⟩, hI_me_1, hkp_me_1⟩)
                · have c35 := cv_nge (a := v7_1.toInt) (b := (gI o_me_1 43).toInt) rfl rfl c35
                  refine wp_gd (zin_of (m := 7) rfl hh33.1 (zlt_m (c := 6) (zu_e (zl_d c35) t34.2 (by decide)) (by decide))) ?_
                  have t36 := iaX9_42_0 hI_me_1 (j := v7_1) hh33.1 (zu_e (zl_d c35) t34.2 (by decide))
                  have t37 : ((22 : Int32) + (gA o_me_1 42 v7_1.toNatClampNeg)).toInt = 22 + (gA o_me_1 42 v7_1.toNatClampNeg).toInt := i32_add (by decide) rfl (zk_cl t36.1 (by decide)) (zk_cu t36.2 (by decide))
                  refine wp_gd (zin_of (m := 5484) rfl (Int.le_trans (by decide) (zaqc_l (c := 22) t37 t36.1 (by decide))) (zlt_m (c := 5483) (Int.le_trans (zaqc_u (c := 28) t37 t36.2 (by decide)) (by decide)) (by decide))) ?_
                  refine wp_lt (fun o38 eo38 => ?_)
                  have hIo38 : IvX9 o38 := by rw [eo38]; exact ibX9_3 hI_me_1 (Int.le_trans (by decide) (zaqc_l (c := 22) t37 t36.1 (by decide))) (Int.le_trans (zaqc_u (c := 28) t37 t36.2 (by decide)) (by decide)) (Or.inr (Or.inl (zlt_k (c := 1) (Int.le_trans (by decide) (zaqc_l (c := 22) t37 t36.1 (by decide))) (by decide)))) (Or.inr (Or.inl (zlt_k (c := 2) (Int.le_trans (by decide) (zaqc_l (c := 22) t37 t36.1 (by decide))) (by decide)))) (Or.inr (Or.inl (zlt_k (c := 3) (Int.le_trans (by decide) (zaqc_l (c := 22) t37 t36.1 (by decide))) (by decide)))) (Or.inr (Or.inl (zlt_k (c := 4) (Int.le_trans (by decide) (zaqc_l (c := 22) t37 t36.1 (by decide))) (by decide)))) (Or.inr (Or.inl (zlt_k (c := 8) (Int.le_trans (by decide) (zaqc_l (c := 22) t37 t36.1 (by decide))) (by decide)))) (Or.inr (Or.inl (zlt_k (c := 15) (Int.le_trans (by decide) (zaqc_l (c := 22) t37 t36.1 (by decide))) (by decide)))) (Or.inr (Or.inr ⟨by decide, by decide⟩)) (Or.inl (zlt_m (c := 28) (zaqc_u (c := 28) t37 t36.2 (by decide)) (by decide))) (Or.inl (zlt_m (c := 70) (Int.le_trans (zaqc_u (c := 28) t37 t36.2 (by decide)) (by decide)) (by decide)))
                  have ko38_k39 : (gA o38 42 v7_1.toNatClampNeg).toInt = (gA o_me_1 42 v7_1.toNatClampNeg).toInt := by rw [eo38]; rfl
                  have ko38_k40 : (gI o38 43).toInt = (gI o_me_1 43).toInt := by rw [eo38]; rfl
                  have ko38_v : (gA o38 3 ((22 : Int32) + (gA o_me_1 42 v7_1.toNatClampNeg)).toNatClampNeg).toInt = 0 := by rw [eo38]; exact (congrArg Int32.toInt (upd_eq (g := gA o_me_1 3) (i := ((22 : Int32) + (gA o_me_1 42 v7_1.toNatClampNeg))) (v := (0 : Int32)))).trans (show ((0 : Int32)).toInt = 0 by decide)
                  have hkpo38 : Kp [1, 8, 11, 13, 14, 15, 16, 18, 19, 20, 21, 23, 26, 29, 43, 56, 57, 58, 59, 62] [2, 4, 5, 7, 10, 12, 22, 24, 25, 27, 28, 42, 48, 50, 51, 55, 61] [(0, 1), (1, 2), (29, 36), (36, 64), (64, 71)] o_me o38 := hkp_me_1.trans (by rw [eo38]; exact kp_bw (a := 2) (b := 29) (by decide) (by decide) (Int.le_trans (by decide) (zaqc_l (c := 22) t37 t36.1 (by decide))) (Int.lt_of_le_of_lt (zaqc_u (c := 28) t37 t36.2 (by decide)) (by decide)))
                  refine wp_lt (fun x41 ex41 => ?_)
                  have tx41 : x41.toInt = v7_1.toInt + 1 := by rw [ex41]; exact i32_add rfl (by decide) (zk_l hh33.1 (by decide)) (zk_u (zu_e (k := 6) (zl_d c35) t34.2 (by decide)) (by decide))
                  exact ih1 v2_1 x41 o38 hIo38 hkpo38 ⟨hh32.1, hh32.2⟩ ⟨(zl_e (zq_r (c := (-1)) tx41 (by decide)) hh33.1 (by decide)), (zu_e (zd_e (c := 0) (Int.le_of_eq tx41) (zl_d c35) (by decide)) t34.2 (by decide))⟩ (zms_u (c := 6) hN1 (zq_r (c := (-1)) tx41 (by decide)) (zu_e (zl_d c35) t34.2 (by decide)) (by decide))
            exact lp1 zfu x2 (0 : Int32) o25 hIo25 hkpo25 ⟨(zl_e (zq_0 tx2.symm) t1.1 (by decide)), (zu_e (zq_0 tx2) t1.2 (by decide))⟩ ⟨by decide, by decide⟩ (zme_u (l := 0) (Int.le_of_eq tz0.symm) (by decide))
          · have c31 := cv_nle (a := (gI o25 43).toInt) (b := 2) rfl (by decide) c31
            exact absurd c31 (Int.not_lt.mpr (Int.le_trans c30 (by decide)))
        · have c30 := cv_nle (a := (gI o25 43).toInt) (b := 1) rfl (by decide) c30
          exact absurd c30 (Int.not_lt.mpr (zu_e (zd_e (c := 0) (zq_0 ko25_k29) (zq_0 ko17_k20) (by decide)) c7 (by decide)))
      · have c11 := cv_nle (a := (gI z3.2 43).toInt) (b := 2) rfl (by decide) c11
        exact absurd c11 (Int.not_lt.mpr (Int.le_trans c7 (by decide)))
    · have c9 := cv_nle (a := (gI z3.2 43).toInt) (b := 1) rfl (by decide) c9
      exact absurd c9 (Int.not_lt.mpr c7)
  · have c7 := cv_nle (a := (gI z3.2 43).toInt) (b := 1) rfl (by decide) c7
    have t42 := iaX9_42_0 hz3_1 (j := (1 : Int32)) (by decide) (by decide)
    refine wp_bd (s_X9_winsOf   z3.2 (gA z3.2 42 (1 : Int32).toNatClampNeg) p0 (2 : Int32)  hz3_1  ⟨t42.1, t42.2⟩ ⟨q0.1, (Int.le_trans q0.2 (by decide))⟩ ⟨(zl_e (zq_0 kz3_k5.symm) q1.1 (by decide)), (zu_e (zq_0 kz3_k5) q1.2 (by decide))⟩) (fun z43 hz43 => ?_)
    obtain ⟨hz43_0, hz43_1, hz43_2⟩ := hz43
    have hkpz43_me : Kp [1, 8, 11, 13, 14, 15, 16, 18, 19, 20, 21, 23, 26, 29, 43, 56, 57, 58, 59, 62] [2, 4, 5, 7, 10, 12, 22, 24, 25, 27, 28, 42, 48, 50, 51, 55, 61] [(0, 1), (1, 2), (29, 36), (36, 64), (64, 71)] o_me z43.2 := hkpz3_me.trans (hz43_2.mono (by decide) (by decide) (by decide))
    have kz43_k44 : (gA z43.2 42 (0 : Int32).toNatClampNeg).toInt = (gA z3.2 42 (0 : Int32).toNatClampNeg).toInt := congrArg (fun g => (g (0 : Int32).toNatClampNeg).toInt) (hz43_2.2.1 42 (by decide))
    have kz43_k45 : (gA z43.2 42 (1 : Int32).toNatClampNeg).toInt = (gA z3.2 42 (1 : Int32).toNatClampNeg).toInt := congrArg (fun g => (g (1 : Int32).toNatClampNeg).toInt) (hz43_2.2.1 42 (by decide))
    have kz43_k46 : (gI z43.2 20).toInt = (gI z3.2 20).toInt := congrArg Int32.toInt (hz43_2.1 20 (by decide))
    have kz43_k47 : (gI z43.2 43).toInt = (gI z3.2 43).toInt := congrArg Int32.toInt (hz43_2.1 43 (by decide))
    unfold bk_X9_raceIt_39
    refine wp_if (fun c48 => ?_) (fun c48 => ?_)
    · have c48 := cv_le (a := (gI z43.2 43).toInt) (b := 1) rfl (by decide) c48
      exact absurd c48 (Int.not_le.mpr (zlt_k (c := 2) (zl_e (zq_0 kz43_k47.symm) (zlt_l (c := 2) c7 (by decide)) (by decide)) (by decide)))
    · have c48 := cv_nle (a := (gI z43.2 43).toInt) (b := 1) rfl (by decide) c48
      refine wp_bd (s_X9_turnsOf   z43.2 (gA z43.2 42 (1 : Int32).toNatClampNeg) p0  hz43_1  ⟨(zl_e (zq_0 kz43_k45.symm) t42.1 (by decide)), (zu_e (zq_0 kz43_k45) t42.2 (by decide))⟩ ⟨q0.1, (Int.le_trans q0.2 (by decide))⟩ ⟨(zl_e (zd_e (c := 0) (zq_0 kz3_k5.symm) (zq_0 kz43_k46.symm) (by decide)) q1.1 (by decide)), (zu_e (zd_e (c := 0) (zq_0 kz43_k46) (zq_0 kz3_k5) (by decide)) q1.2 (by decide))⟩) (fun z49 hz49 => ?_)
      obtain ⟨hz49_0, hz49_1, hz49_2⟩ := hz49
      have hkpz49_me : Kp [1, 8, 11, 13, 14, 15, 16, 18, 19, 20, 21, 23, 26, 29, 43, 56, 57, 58, 59, 62] [2, 4, 5, 7, 10, 12, 22, 24, 25, 27, 28, 42, 48, 50, 51, 55, 61] [(0, 1), (1, 2), (29, 36), (36, 64), (64, 71)] o_me z49.2 := hkpz43_me.trans (hz49_2.mono (by decide) (by decide) (by decide))
      have kz49_k50 : (gA z49.2 42 (0 : Int32).toNatClampNeg).toInt = (gA z43.2 42 (0 : Int32).toNatClampNeg).toInt := congrArg (fun g => (g (0 : Int32).toNatClampNeg).toInt) (hz49_2.2.1 42 (by decide))
      have kz49_k51 : (gA z49.2 42 (1 : Int32).toNatClampNeg).toInt = (gA z43.2 42 (1 : Int32).toNatClampNeg).toInt := congrArg (fun g => (g (1 : Int32).toNatClampNeg).toInt) (hz49_2.2.1 42 (by decide))
      have kz49_k52 : (gI z49.2 20).toInt = (gI z43.2 20).toInt := congrArg Int32.toInt (hz49_2.1 20 (by decide))
      have kz49_k53 : (gI z49.2 43).toInt = (gI z43.2 43).toInt := congrArg Int32.toInt (hz49_2.1 43 (by decide))
      unfold bk_X9_raceIt_64
      refine wp_if (fun c54 => ?_) (fun c54 => ?_)
      · have c54 := cv_le (a := (gI z49.2 43).toInt) (b := 2) rfl (by decide) c54
        obtain ⟨w55, ew55⟩ : ∃ z : Int32, z = (0 : Int32) := ⟨_, rfl⟩
        have tw55 : w55.toInt = 0 := by rw [ew55]; decide
        rw [show bk_X9_raceIt_90   x2 z3.1 z43.1 z49.1 (0 : Int32) z49.2 = bk_X9_raceIt_90   x2 z3.1 z43.1 z49.1 w55 z49.2 from by rw [ew55]]
        unfold bk_X9_raceIt_90
        have t56 : ((15 : Int32) + x2).toInt = 15 + x2.toInt := i32_add (by decide) rfl (zk_cl (zl_e (k := 0) (zq_0 tx2.symm) t1.1 (by decide)) (by decide)) (zk_cu (zu_e (k := 6) (zq_0 tx2) t1.2 (by decide)) (by decide))
        refine wp_gd (zin_of (m := 5484) rfl (Int.le_trans (by decide) (zaqc_l (c := 15) t56 (zl_e (k := 0) (zq_0 tx2.symm) t1.1 (by decide)) (by decide))) (zlt_m (c := 5483) (Int.le_trans (zaqc_u (c := 21) t56 (zu_e (k := 6) (zq_0 tx2) t1.2 (by decide)) (by decide)) (by decide)) (by decide))) ?_
        have rg57 := i32_rg ((gA z49.2 3 ((15 : Int32) + x2).toNatClampNeg) + z3.1)
        have t58 : (((gA z49.2 3 ((15 : Int32) + x2).toNatClampNeg) + z3.1).toInt64).toInt = ((gA z49.2 3 ((15 : Int32) + x2).toNatClampNeg) + z3.1).toInt := Int32.toInt_toInt64 _
        refine wp_bd (s_X9_within   (((gA z49.2 3 ((15 : Int32) + x2).toNatClampNeg) + z3.1).toInt64) (0 : Int32) (999 : Int32)    (zd_b (Int.le_of_eq tz0) (Int.le_of_eq tz999.symm) (by decide))) (fun z59 hz59 => ?_)
        obtain ⟨hz59_0, hz59_1⟩ := hz59
        refine wp_gd (zin_of (m := 5484) rfl (Int.le_trans (by decide) (zaqc_l (c := 15) t56 (zl_e (k := 0) (zq_0 tx2.symm) t1.1 (by decide)) (by decide))) (zlt_m (c := 5483) (Int.le_trans (zaqc_u (c := 21) t56 (zu_e (k := 6) (zq_0 tx2) t1.2 (by decide)) (by decide)) (by decide)) (by decide))) ?_
        refine wp_lt (fun o60 eo60 => ?_)
        have hIo60 : IvX9 o60 := by rw [eo60]; exact ibX9_3 hz49_1 (Int.le_trans (by decide) (zaqc_l (c := 15) t56 (zl_e (k := 0) (zq_0 tx2.symm) t1.1 (by decide)) (by decide))) (Int.le_trans (zaqc_u (c := 21) t56 (zu_e (k := 6) (zq_0 tx2) t1.2 (by decide)) (by decide)) (by decide)) (Or.inr (Or.inl (zlt_k (c := 1) (Int.le_trans (by decide) (zaqc_l (c := 15) t56 (zl_e (k := 0) (zq_0 tx2.symm) t1.1 (by decide)) (by decide))) (by decide)))) (Or.inr (Or.inl (zlt_k (c := 2) (Int.le_trans (by decide) (zaqc_l (c := 15) t56 (zl_e (k := 0) (zq_0 tx2.symm) t1.1 (by decide)) (by decide))) (by decide)))) (Or.inr (Or.inl (zlt_k (c := 3) (Int.le_trans (by decide) (zaqc_l (c := 15) t56 (zl_e (k := 0) (zq_0 tx2.symm) t1.1 (by decide)) (by decide))) (by decide)))) (Or.inr (Or.inl (zlt_k (c := 4) (Int.le_trans (by decide) (zaqc_l (c := 15) t56 (zl_e (k := 0) (zq_0 tx2.symm) t1.1 (by decide)) (by decide))) (by decide)))) (Or.inr (Or.inl (zlt_k (c := 8) (Int.le_trans (by decide) (zaqc_l (c := 15) t56 (zl_e (k := 0) (zq_0 tx2.symm) t1.1 (by decide)) (by decide))) (by decide)))) (Or.inr (Or.inl (zlt_k (c := 15) (zaqc_l (c := 15) t56 (zl_e (k := 0) (zq_0 tx2.symm) t1.1 (by decide)) (by decide)) (by decide)))) (Or.inl (zlt_m (c := 21) (zaqc_u (c := 21) t56 (zu_e (k := 6) (zq_0 tx2) t1.2 (by decide)) (by decide)) (by decide))) (Or.inl (zlt_m (c := 28) (Int.le_trans (zaqc_u (c := 21) t56 (zu_e (k := 6) (zq_0 tx2) t1.2 (by decide)) (by decide)) (by decide)) (by decide))) (Or.inl (zlt_m (c := 70) (Int.le_trans (zaqc_u (c := 21) t56 (zu_e (k := 6) (zq_0 tx2) t1.2 (by decide)) (by decide)) (by decide)) (by decide)))
        have ko60_k61 : (gA o60 42 (0 : Int32).toNatClampNeg).toInt = (gA z49.2 42 (0 : Int32).toNatClampNeg).toInt := by rw [eo60]; rfl
        have ko60_k62 : (gA o60 42 (1 : Int32).toNatClampNeg).toInt = (gA z49.2 42 (1 : Int32).toNatClampNeg).toInt := by rw [eo60]; rfl
        have ko60_k63 : (gI o60 20).toInt = (gI z49.2 20).toInt := by rw [eo60]; rfl
        have ko60_k64 : (gI o60 43).toInt = (gI z49.2 43).toInt := by rw [eo60]; rfl
        have ko60_v : (gA o60 3 ((15 : Int32) + x2).toNatClampNeg).toInt = z59.toInt := by rw [eo60]; exact congrArg Int32.toInt (upd_eq (g := gA z49.2 3) (i := ((15 : Int32) + x2)) (v := z59))
        have hkpo60 : Kp [1, 8, 11, 13, 14, 15, 16, 18, 19, 20, 21, 23, 26, 29, 43, 56, 57, 58, 59, 62] [2, 4, 5, 7, 10, 12, 22, 24, 25, 27, 28, 42, 48, 50, 51, 55, 61] [(0, 1), (1, 2), (29, 36), (36, 64), (64, 71)] o_me o60 := hkpz49_me.trans (by rw [eo60]; exact kp_bw (a := 2) (b := 29) (by decide) (by decide) (Int.le_trans (by decide) (zaqc_l (c := 15) t56 (zl_e (k := 0) (zq_0 tx2.symm) t1.1 (by decide)) (by decide))) (Int.lt_of_le_of_lt (zaqc_u (c := 21) t56 (zu_e (k := 6) (zq_0 tx2) t1.2 (by decide)) (by decide)) (by decide)))
        have t65 := iaX9_3_4 hIo60 (j := (7 : Int32)) (by decide) (by decide)
        have t66 : ((gA o60 3 (7 : Int32).toNatClampNeg) + z43.1).toInt = (gA o60 3 (7 : Int32).toNatClampNeg).toInt + z43.1.toInt := i32_add rfl rfl (zk_ll t65.1 hz43_0.1 (by decide)) (zk_uu t65.2 hz43_0.2 (by decide))
        have t67 : (((gA o60 3 (7 : Int32).toNatClampNeg) + z43.1).toInt64).toInt = ((gA o60 3 (7 : Int32).toNatClampNeg) + z43.1).toInt := Int32.toInt_toInt64 _
        refine wp_bd (s_X9_within   (((gA o60 3 (7 : Int32).toNatClampNeg) + z43.1).toInt64) (0 : Int32) (999 : Int32)    (zd_e (c := 0) hz59_1 hz59_0 (by decide))) (fun z68 hz68 => ?_)
        obtain ⟨hz68_0, hz68_1⟩ := hz68
        refine wp_lt (fun o69 eo69 => ?_)
        have hIo69 : IvX9 o69 := by rw [eo69]; exact ibX9_3 hIo60 (by decide) (by decide) (Or.inr (Or.inl (by decide))) (Or.inr (Or.inl (by decide))) (Or.inr (Or.inl (by decide))) (Or.inr (Or.inl (by decide))) (Or.inr (Or.inr ⟨(zl_e hz68_1 (Int.le_of_eq tz0.symm) (by decide)), (zu_e hz68_0 (Int.le_of_eq tz999) (by decide))⟩)) (Or.inl (by decide)) (Or.inl (by decide)) (Or.inl (by decide)) (Or.inl (by decide))
        have ko69_k70 : (gA o69 3 ((15 : Int32) + x2).toNatClampNeg).toInt = (gA o60 3 ((15 : Int32) + x2).toNatClampNeg).toInt := by rw [eo69]; exact congrArg Int32.toInt (upd_ne (g := gA o60 3) (i := (7 : Int32)) (j := ((15 : Int32) + x2)) (v := z68) (by decide) (Int.le_trans (by decide) (zaqc_l (c := 15) t56 (zl_e (k := 0) (zq_0 tx2.symm) t1.1 (by decide)) (by decide))) (zne_l (k := 7) (l := 15) (by decide) (zaqc_l (c := 15) t56 (zl_e (k := 0) (zq_0 tx2.symm) t1.1 (by decide)) (by decide)) (by decide)))
        have ko69_k71 : (gA o69 42 (0 : Int32).toNatClampNeg).toInt = (gA o60 42 (0 : Int32).toNatClampNeg).toInt := by rw [eo69]; rfl
        have ko69_k72 : (gA o69 42 (1 : Int32).toNatClampNeg).toInt = (gA o60 42 (1 : Int32).toNatClampNeg).toInt := by rw [eo69]; rfl
        have ko69_k73 : (gI o69 20).toInt = (gI o60 20).toInt := by rw [eo69]; rfl
        have ko69_k74 : (gI o69 43).toInt = (gI o60 43).toInt := by rw [eo69]; rfl
        have ko69_v : (gA o69 3 (7 : Int32).toNatClampNeg).toInt = z68.toInt := by rw [eo69]; exact congrArg Int32.toInt (upd_eq (g := gA o60 3) (i := (7 : Int32)) (v := z68))
        have hkpo69 : Kp [1, 8, 11, 13, 14, 15, 16, 18, 19, 20, 21, 23, 26, 29, 43, 56, 57, 58, 59, 62] [2, 4, 5, 7, 10, 12, 22, 24, 25, 27, 28, 42, 48, 50, 51, 55, 61] [(0, 1), (1, 2), (29, 36), (36, 64), (64, 71)] o_me o69 := hkpo60.trans (by rw [eo69]; exact kp_bw (a := 7) (b := 8) (by decide) (by decide) (by decide) (by decide))
        refine wp_if (fun c75 => ?_) (fun c75 => ?_)
        · have c75 := cv_le (a := (gI o69 43).toInt) (b := 1) rfl (by decide) c75
          exact absurd c75 (Int.not_le.mpr (zlt_k (c := 2) (zl_e (zd_e (c := 0) (zq_0 kz49_k53.symm) (zd_e (c := 0) (zq_0 ko60_k64.symm) (zq_0 ko69_k74.symm) (by decide)) (by decide)) (zlt_l (c := 2) c48 (by decide)) (by decide)) (by decide)))
        · have c75 := cv_nle (a := (gI o69 43).toInt) (b := 1) rfl (by decide) c75
          have t76 : ((8 : Int32) + (gA o69 42 (1 : Int32).toNatClampNeg)).toInt = 8 + (gA o69 42 (1 : Int32).toNatClampNeg).toInt := i32_add (by decide) rfl (zk_cl (zl_e (k := 0) (zd_e (c := 0) (zq_0 kz43_k45.symm) (zd_e (c := 0) (zq_0 kz49_k51.symm) (zd_e (c := 0) (zq_0 ko60_k62.symm) (zq_0 ko69_k72.symm) (by decide)) (by decide)) (by decide)) t42.1 (by decide)) (by decide)) (zk_cu (zu_e (k := 6) (zd_e (c := 0) (zd_e (c := 0) (zd_e (c := 0) (zq_0 ko69_k72) (zq_0 ko60_k62) (by decide)) (zq_0 kz49_k51) (by decide)) (zq_0 kz43_k45) (by decide)) t42.2 (by decide)) (by decide))
          refine wp_gd (zin_of (m := 5484) rfl (Int.le_trans (by decide) (zaqc_l (c := 8) t76 (zl_e (k := 0) (zd_e (c := 0) (zq_0 kz43_k45.symm) (zd_e (c := 0) (zq_0 kz49_k51.symm) (zd_e (c := 0) (zq_0 ko60_k62.symm) (zq_0 ko69_k72.symm) (by decide)) (by decide)) (by decide)) t42.1 (by decide)) (by decide))) (zlt_m (c := 5483) (Int.le_trans (zaqc_u (c := 14) t76 (zu_e (k := 6) (zd_e (c := 0) (zd_e (c := 0) (zd_e (c := 0) (zq_0 ko69_k72) (zq_0 ko60_k62) (by decide)) (zq_0 kz49_k51) (by decide)) (zq_0 kz43_k45) (by decide)) t42.2 (by decide)) (by decide)) (by decide)) (by decide))) ?_
          refine wp_lt (fun o77 eo77 => ?_)
          have hIo77 : IvX9 o77 := by rw [eo77]; exact ibX9_3 hIo69 (Int.le_trans (by decide) (zaqc_l (c := 8) t76 (zl_e (k := 0) (zd_e (c := 0) (zq_0 kz43_k45.symm) (zd_e (c := 0) (zq_0 kz49_k51.symm) (zd_e (c := 0) (zq_0 ko60_k62.symm) (zq_0 ko69_k72.symm) (by decide)) (by decide)) (by decide)) t42.1 (by decide)) (by decide))) (Int.le_trans (zaqc_u (c := 14) t76 (zu_e (k := 6) (zd_e (c := 0) (zd_e (c := 0) (zd_e (c := 0) (zq_0 ko69_k72) (zq_0 ko60_k62) (by decide)) (zq_0 kz49_k51) (by decide)) (zq_0 kz43_k45) (by decide)) t42.2 (by decide)) (by decide)) (by decide)) (Or.inr (Or.inl (zlt_k (c := 1) (Int.le_trans (by decide) (zaqc_l (c := 8) t76 (zl_e (k := 0) (zd_e (c := 0) (zq_0 kz43_k45.symm) (zd_e (c := 0) (zq_0 kz49_k51.symm) (zd_e (c := 0) (zq_0 ko60_k62.symm) (zq_0 ko69_k72.symm) (by decide)) (by decide)) (by decide)) t42.1 (by decide)) (by decide))) (by decide)))) (Or.inr (Or.inl (zlt_k (c := 2) (Int.le_trans (by decide) (zaqc_l (c := 8) t76 (zl_e (k := 0) (zd_e (c := 0) (zq_0 kz43_k45.symm) (zd_e (c := 0) (zq_0 kz49_k51.symm) (zd_e (c := 0) (zq_0 ko60_k62.symm) (zq_0 ko69_k72.symm) (by decide)) (by decide)) (by decide)) t42.1 (by decide)) (by decide))) (by decide)))) (Or.inr (Or.inl (zlt_k (c := 3) (Int.le_trans (by decide) (zaqc_l (c := 8) t76 (zl_e (k := 0) (zd_e (c := 0) (zq_0 kz43_k45.symm) (zd_e (c := 0) (zq_0 kz49_k51.symm) (zd_e (c := 0) (zq_0 ko60_k62.symm) (zq_0 ko69_k72.symm) (by decide)) (by decide)) (by decide)) t42.1 (by decide)) (by decide))) (by decide)))) (Or.inr (Or.inl (zlt_k (c := 4) (Int.le_trans (by decide) (zaqc_l (c := 8) t76 (zl_e (k := 0) (zd_e (c := 0) (zq_0 kz43_k45.symm) (zd_e (c := 0) (zq_0 kz49_k51.symm) (zd_e (c := 0) (zq_0 ko60_k62.symm) (zq_0 ko69_k72.symm) (by decide)) (by decide)) (by decide)) t42.1 (by decide)) (by decide))) (by decide)))) (Or.inr (Or.inl (zlt_k (c := 8) (zaqc_l (c := 8) t76 (zl_e (k := 0) (zd_e (c := 0) (zq_0 kz43_k45.symm) (zd_e (c := 0) (zq_0 kz49_k51.symm) (zd_e (c := 0) (zq_0 ko60_k62.symm) (zq_0 ko69_k72.symm) (by decide)) (by decide)) (by decide)) t42.1 (by decide)) (by decide)) (by decide)))) (Or.inr (Or.inr ⟨hz49_0.1, hz49_0.2⟩)) (Or.inl (zlt_m (c := 21) (Int.le_trans (zaqc_u (c := 14) t76 (zu_e (k := 6) (zd_e (c := 0) (zd_e (c := 0) (zd_e (c := 0) (zq_0 ko69_k72) (zq_0 ko60_k62) (by decide)) (zq_0 kz49_k51) (by decide)) (zq_0 kz43_k45) (by decide)) t42.2 (by decide)) (by decide)) (by decide)) (by decide))) (Or.inl (zlt_m (c := 28) (Int.le_trans (zaqc_u (c := 14) t76 (zu_e (k := 6) (zd_e (c := 0) (zd_e (c := 0) (zd_e (c := 0) (zq_0 ko69_k72) (zq_0 ko60_k62) (by decide)) (zq_0 kz49_k51) (by decide)) (zq_0 kz43_k45) (by decide)) t42.2 (by decide)) (by decide)) (by decide)) (by decide))) (Or.inl (zlt_m (c := 70) (Int.le_trans (zaqc_u (c := 14) t76 (zu_e (k := 6) (zd_e (c := 0) (zd_e (c := 0) (zd_e (c := 0) (zq_0 ko69_k72) (zq_0 ko60_k62) (by decide)) (zq_0 kz49_k51) (by decide)) (zq_0 kz43_k45) (by decide)) t42.2 (by decide)) (by decide)) (by decide)) (by decide)))
          have ko77_k78 : (gA o77 3 ((15 : Int32) + x2).toNatClampNeg).toInt = (gA o69 3 ((15 : Int32) + x2).toNatClampNeg).toInt := by rw [eo77]; exact congrArg Int32.toInt (upd_ne (g := gA o69 3) (i := ((8 : Int32) + (gA o69 42 (1 : Int32).toNatClampNeg))) (j := ((15 : Int32) + x2)) (v := z49.1) (Int.le_trans (by decide) (zaqc_l (c := 8) t76 (zl_e (k := 0) (zd_e (c := 0) (zq_0 kz43_k45.symm) (zd_e (c := 0) (zq_0 kz49_k51.symm) (zd_e (c := 0) (zq_0 ko60_k62.symm) (zq_0 ko69_k72.symm) (by decide)) (by decide)) (by decide)) t42.1 (by decide)) (by decide))) (Int.le_trans (by decide) (zaqc_l (c := 15) t56 (zl_e (k := 0) (zq_0 tx2.symm) t1.1 (by decide)) (by decide))) (zne_l (k := 14) (l := 15) (zaqc_u (c := 14) t76 (zu_e (k := 6) (zd_e (c := 0) (zd_e (c := 0) (zd_e (c := 0) (zq_0 ko69_k72) (zq_0 ko60_k62) (by decide)) (zq_0 kz49_k51) (by decide)) (zq_0 kz43_k45) (by decide)) t42.2 (by decide)) (by decide)) (zaqc_l (c := 15) t56 (zl_e (k := 0) (zq_0 tx2.symm) t1.1 (by decide)) (by decide)) (by decide)))
          have ko77_k79 : (gA o77 3 (7 : Int32).toNatClampNeg).toInt = (gA o69 3 (7 : Int32).toNatClampNeg).toInt := by rw [eo77]; exact congrArg Int32.toInt (upd_ne (g := gA o69 3) (i := ((8 : Int32) + (gA o69 42 (1 : Int32).toNatClampNeg))) (j := (7 : Int32)) (v := z49.1) (Int.le_trans (by decide) (zaqc_l (c := 8) t76 (zl_e (k := 0) (zd_e (c := 0) (zq_0 kz43_k45.symm) (zd_e (c := 0) (zq_0 kz49_k51.symm) (zd_e (c := 0) (zq_0 ko60_k62.symm) (zq_0 ko69_k72.symm) (by decide)) (by decide)) (by decide)) t42.1 (by decide)) (by decide))) (by decide) (zne_r (k := 7) (l := 8) (by decide) (zaqc_l (c := 8) t76 (zl_e (k := 0) (zd_e (c := 0) (zq_0 kz43_k45.symm) (zd_e (c := 0) (zq_0 kz49_k51.symm) (zd_e (c := 0) (zq_0 ko60_k62.symm) (zq_0 ko69_k72.symm) (by decide)) (by decide)) (by decide)) t42.1 (by decide)) (by decide)) (by decide)))
          have ko77_k80 : (gA o77 42 (0 : Int32).toNatClampNeg).toInt = (gA o69 42 (0 : Int32).toNatClampNeg).toInt := by rw [eo77]; rfl
          have ko77_k81 : (gA o77 42 (1 : Int32).toNatClampNeg).toInt = (gA o69 42 (1 : Int32).toNatClampNeg).toInt := by rw [eo77]; rfl
          have ko77_k82 : (gI o77 20).toInt = (gI o69 20).toInt := by rw [eo77]; rfl
          have ko77_k83 : (gI o77 43).toInt = (gI o69 43).toInt := by rw [eo77]; rfl
          have ko77_v : (gA o77 3 ((8 : Int32) + (gA o69 42 (1 : Int32).toNatClampNeg)).toNatClampNeg).toInt = z49.1.toInt := by rw [eo77]; exact congrArg Int32.toInt (upd_eq (g := gA o69 3) (i := ((8 : Int32) + (gA o69 42 (1 : Int32).toNatClampNeg))) (v := z49.1))
          have hkpo77 : Kp [1, 8, 11, 13, 14, 15, 16, 18, 19, 20, 21, 23, 26, 29, 43, 56, 57, 58, 59, 62] [2, 4, 5, 7, 10, 12, 22, 24, 25, 27, 28, 42, 48, 50, 51, 55, 61] [(0, 1), (1, 2), (29, 36), (36, 64), (64, 71)] o_me o77 := hkpo69.trans (by rw [eo77]; exact kp_bw (a := 2) (b := 29) (by decide) (by decide) (Int.le_trans (by decide) (zaqc_l (c := 8) t76 (zl_e (k := 0) (zd_e (c := 0) (zq_0 kz43_k45.symm) (zd_e (c := 0) (zq_0 kz49_k51.symm) (zd_e (c := 0) (zq_0 ko60_k62.symm) (zq_0 ko69_k72.symm) (by decide)) (by decide)) (by decide)) t42.1 (by decide)) (by decide))) (Int.lt_of_le_of_lt (zaqc_u (c := 14) t76 (zu_e (k := 6) (zd_e (c := 0) (zd_e (c := 0) (zd_e (c := 0) (zq_0 ko69_k72) (zq_0 ko60_k62) (by decide)) (zq_0 kz49_k51) (by decide)) (zq_0 kz43_k45) (by decide)) t42.2 (by decide)) (by decide)) (by decide)))
          unfold bk_X9_raceIt_169
          refine wp_if (fun c84 => ?_) (fun c84 => ?_)
          · have c84 := cv_le (a := (gI o77 43).toInt) (b := 2) rfl (by decide) c84
            unfold bk_X9_raceIt_216
            have lp2 : ∀ (N2 : Nat) (v2_2 : Int32) (v7_2 : Int32) (o_me_2 : Ob), IvX9 o_me_2 → Kp [1, 8, 11, 13, 14, 15, 16, 18, 19, 20, 21, 23, 26, 29, 43, 56, 57, 58, 59, 62] [2, 4, 5, 7, 10, 12, 22, 24, 25, 27, 28, 42, 48, 50, 51, 55, 61] [(0, 1), (1, 2), (29, 36), (36, 64), (64, 71)] o_me o_me_2 → (0 ≤ v2_2.toInt ∧ v2_2.toInt ≤ 6) → (0 ≤ v7_2.toInt ∧ v7_2.toInt ≤ 7) → (7 - v7_2.toInt).toNat < N2 → wp (lp_X9_raceIt_219   N2 (v2_2, v7_2, o_me_2)) (fun (y : Int32 × Ob) => (0 ≤ y.1.toInt ∧ y.1.toInt ≤ 6) ∧ IvX9 y.2 ∧ Kp [1, 8, 11, 13, 14, 15, 16, 18, 19, 20, 21, 23, 26, 29, 43, 56, 57, 58, 59, 62] [2, 4, 5, 7, 10, 12, 22, 24, 25, 27, 28, 42, 48, 50, 51, 55, 61] [(0, 1), (1, 2), (29, 36), (36, 64), (64, 71)] o_me y.2) := by
              intro N2
              induction N2 with
              | zero =>
                intro v2_2 v7_2 o_me_2 hI_me_2 hkp_me_2 hh85 hh86 hN2
                exact absurd hN2 (Nat.not_lt_zero _)
              | succ N2 ihx =>
                have ih2 := ihx
                intro v2_2 v7_2 o_me_2 hI_me_2 hkp_me_2 hh85 hh86 hN2
                show wp (lb_X9_raceIt_219   (lp_X9_raceIt_219   N2) v2_2 v7_2 o_me_2) (fun (y : Int32 × Ob) => (0 ≤ y.1.toInt ∧ y.1.toInt ≤ 6) ∧ IvX9 y.2 ∧ Kp [1, 8, 11, 13, 14, 15, 16, 18, 19, 20, 21, 23, 26, 29, 43, 56, 57, 58, 59, 62] [2, 4, 5, 7, 10, 12, 22, 24, 25, 27, 28, 42, 48, 50, 51, 55, 61] [(0, 1), (1, 2), (29, 36), (36, 64), (64, 71)] o_me y.2)
                unfold lb_X9_raceIt_219
                have t87 := igX9_43 hI_me_2
                refine wp_if (fun c88 => ?_) (fun c88 => ?_)
                · have c88 := cv_ge (a := v7_2.toInt) (b := (gI o_me_2 43).toInt) rfl rfl c88
                  refine wp_some ?_
                  exact (show (0 ≤ v2_2.toInt ∧ v2_2.toInt ≤ 6) ∧ IvX9 o_me_2 ∧ Kp [1, 8, 11, 13, 14, 15, 16, 18, 19, 20, 21, 23, 26, 29, 43, 56, 57, 58, 59, 62] [2, 4, 5, 7, 10, 12, 22, 24, 25, 27, 28, 42, 48, 50, 51, 55, 61] [(0, 1), (1, 2), (29, 36), (36, 64), (64, 71)] o_me o_me_2 from ⟨⟨hh85.1, hh85.2⟩, hI_me_2, hkp_me_2⟩)
                · have c88 := cv_nge (a := v7_2.toInt) (b := (gI o_me_2 43).toInt) rfl rfl c88
                  refine wp_gd (zin_of (m := 7) rfl hh86.1 (zlt_m (c := 6) (zu_e (zl_d c88) t87.2 (by decide)) (by decide))) ?_
                  have t89 := iaX9_42_0 hI_me_2 (j := v7_2) hh86.1 (zu_e (zl_d c88) t87.2 (by decide))
                  have t90 : ((22 : Int32) + (gA o_me_2 42 v7_2.toNatClampNeg)).toInt = 22 + (gA o_me_2 42 v7_2.toNatClampNeg).toInt := i32_add (by decide) rfl (zk_cl t89.1 (by decide)) (zk_cu t89.2 (by decide))
                  refine wp_gd (zin_of (m := 5484) rfl (Int.le_trans (by decide) (zaqc_l (c := 22) t90 t89.1 (by decide))) (zlt_m (c := 5483) (Int.le_trans (zaqc_u (c := 28) t90 t89.2 (by decide)) (by decide)) (by decide))) ?_
                  refine wp_lt (fun o91 eo91 => ?_)
                  have hIo91 : IvX9 o91 := by rw [eo91]; exact ibX9_3 hI_me_2 (Int.le_trans (by decide) (zaqc_l (c := 22) t90 t89.1 (by decide))) (Int.le_trans (zaqc_u (c := 28) t90 t89.2 (by decide)) (by decide)) (Or.inr (Or.inl (zlt_k (c := 1) (Int.le_trans (by decide) (zaqc_l (c := 22) t90 t89.1 (by decide))) (by decide)))) (Or.inr (Or.inl (zlt_k (c := 2) (Int.le_trans (by decide) (zaqc_l (c := 22) t90 t89.1 (by decide))) (by decide)))) (Or.inr (Or.inl (zlt_k (c := 3) (Int.le_trans (by decide) (zaqc_l (c := 22) t90 t89.1 (by decide))) (by decide)))) (Or.inr (Or.inl (zlt_k (c := 4) (Int.le_trans (by decide) (zaqc_l (c := 22) t90 t89.1 (by decide))) (by decide)))) (Or.inr (Or.inl (zlt_k (c := 8) (Int.le_trans (by decide) (zaqc_l (c := 22) t90 t89.1 (by decide))) (by decide)))) (Or.inr (Or.inl (zlt_k (c := 15) (Int.le_trans (by decide) (zaqc_l (c := 22) t90 t89.1 (by decide))) (by decide)))) (Or.inr (Or.inr ⟨by decide, by decide⟩)) (Or.inl (zlt_m (c := 28) (zaqc_u (c := 28) t90 t89.2 (by decide)) (by decide))) (Or.inl (zlt_m (c := 70) (Int.le_trans (zaqc_u (c := 28) t90 t89.2 (by decide)) (by decide)) (by decide)))
                  have ko91_k92 : (gA o91 42 v7_2.toNatClampNeg).toInt = (gA o_me_2 42 v7_2.toNatClampNeg).toInt := by rw [eo91]; rfl
                  have ko91_k93 : (gI o91 43).toInt = (gI o_me_2 43).toInt := by rw [eo91]; rfl
                  have ko91_v : (gA o91 3 ((22 : Int32) + (gA o_me_2 42 v7_2.toNatClampNeg)).toNatClampNeg).toInt = 0 := by rw [eo91]; exact (congrArg Int32.toInt (upd_eq (g := gA o_me_2 3) (i := ((22 : Int32) + (gA o_me_2 42 v7_2.toNatClampNeg))) (v := (0 : Int32)))).trans (show ((0 : Int32)).toInt = 0 by decide)
                  have hkpo91 : Kp [1, 8, 11, 13, 14, 15, 16, 18, 19, 20, 21, 23, 26, 29, 43, 56, 57, 58, 59, 62] [2, 4, 5, 7, 10, 12, 22, 24, 25, 27, 28, 42, 48, 50, 51, 55, 61] [(0, 1), (1, 2), (29, 36), (36, 64), (64, 71)] o_me o91 := hkp_me_2.trans (by rw [eo91]; exact kp_bw (a := 2) (b := 29) (by decide) (by decide) (Int.le_trans (by decide) (zaqc_l (c := 22) t90 t89.1 (by decide))) (Int.lt_of_le_of_lt (zaqc_u (c := 28) t90 t89.2 (by decide)) (by decide)))
                  refine wp_lt (fun x94 ex94 => ?_)
                  have tx94 : x94.toInt = v7_2.toInt + 1 := by rw [ex94]; exact i32_add rfl (by decide) (zk_l hh86.1 (by decide)) (zk_u (zu_e (k := 6) (zl_d c88) t87.2 (by decide)) (by decide))
                  exact ih2 v2_2 x94 o91 hIo91 hkpo91 ⟨hh85.1, hh85.2⟩ ⟨(zl_e (zq_r (c := (-1)) tx94 (by decide)) hh86.1 (by decide)), (zu_e (zd_e (c := 0) (Int.le_of_eq tx94) (zl_d c88) (by decide)) t87.2 (by decide))⟩ (zms_u (c := 6) hN2 (zq_r (c := (-1)) tx94 (by decide)) (zu_e (zl_d c88) t87.2 (by decide)) (by decide))
            exact lp2 zfu x2 (0 : Int32) o77 hIo77 hkpo77 ⟨(zl_e (zq_0 tx2.symm) t1.1 (by decide)), (zu_e (zq_0 tx2) t1.2 (by decide))⟩ ⟨by decide, by decide⟩ (zme_u (l := 0) (Int.le_of_eq tz0.symm) (by decide))
          · have c84 := cv_nle (a := (gI o77 43).toInt) (b := 2) rfl (by decide) c84
            exact absurd c84 (Int.not_lt.mpr (zu_e (zd_e (c := 0) (zd_e (c := 0) (zq_0 ko77_k83) (zq_0 ko69_k74) (by decide)) (zq_0 ko60_k64) (by decide)) c54 (by decide)))
      · have c54 := cv_nle (a := (gI z49.2 43).toInt) (b := 2) rfl (by decide) c54
        have t95 := iaX9_42_0 hz49_1 (j := (2 : Int32)) (by decide) (by decide)
        refine wp_bd (s_X9_winsOf   z49.2 (gA z49.2 42 (2 : Int32).toNatClampNeg) p0 (3 : Int32)  hz49_1  ⟨t95.1, t95.2⟩ ⟨q0.1, (Int.le_trans q0.2 (by decide))⟩ ⟨(zl_e (zd_e (c := 0) (zq_0 kz3_k5.symm) (zd_e (c := 0) (zq_0 kz43_k46.symm) (zq_0 kz49_k52.symm) (by decide)) (by decide)) q1.1 (by decide)), (zu_e (zd_e (c := 0) (zd_e (c := 0) (zq_0 kz49_k52) (zq_0 kz43_k46) (by decide)) (zq_0 kz3_k5) (by decide)) q1.2 (by decide))⟩) (fun z96 hz96 => ?_)
        obtain ⟨hz96_0, hz96_1, hz96_2⟩ := hz96
        have hkpz96_me : Kp [1, 8, 11, 13, 14, 15, 16, 18, 19, 20, 21, 23, 26, 29, 43, 56, 57, 58, 59, 62] [2, 4, 5, 7, 10, 12, 22, 24, 25, 27, 28, 42, 48, 50, 51, 55, 61] [(0, 1), (1, 2), (29, 36), (36, 64), (64, 71)] o_me z96.2 := hkpz49_me.trans (hz96_2.mono (by decide) (by decide) (by decide))
        have kz96_k97 : (gA z96.2 42 (0 : Int32).toNatClampNeg).toInt = (gA z49.2 42 (0 : Int32).toNatClampNeg).toInt := congrArg (fun g => (g (0 : Int32).toNatClampNeg).toInt) (hz96_2.2.1 42 (by decide))
        have kz96_k98 : (gA z96.2 42 (1 : Int32).toNatClampNeg).toInt = (gA z49.2 42 (1 : Int32).toNatClampNeg).toInt := congrArg (fun g => (g (1 : Int32).toNatClampNeg).toInt) (hz96_2.2.1 42 (by decide))
        have kz96_k99 : (gA z96.2 42 (2 : Int32).toNatClampNeg).toInt = (gA z49.2 42 (2 : Int32).toNatClampNeg).toInt := congrArg (fun g => (g (2 : Int32).toNatClampNeg).toInt) (hz96_2.2.1 42 (by decide))
        have kz96_k100 : (gI z96.2 20).toInt = (gI z49.2 20).toInt := congrArg Int32.toInt (hz96_2.1 20 (by decide))
        have kz96_k101 : (gI z96.2 43).toInt = (gI z49.2 43).toInt := congrArg Int32.toInt (hz96_2.1 43 (by decide))
        unfold bk_X9_raceIt_90
        have t102 : ((15 : Int32) + x2).toInt = 15 + x2.toInt := i32_add (by decide) rfl (zk_cl (zl_e (k := 0) (zq_0 tx2.symm) t1.1 (by decide)) (by decide)) (zk_cu (zu_e (k := 6) (zq_0 tx2) t1.2 (by decide)) (by decide))
        refine wp_gd (zin_of (m := 5484) rfl (Int.le_trans (by decide) (zaqc_l (c := 15) t102 (zl_e (k := 0) (zq_0 tx2.symm) t1.1 (by decide)) (by decide))) (zlt_m (c := 5483) (Int.le_trans (zaqc_u (c := 21) t102 (zu_e (k := 6) (zq_0 tx2) t1.2 (by decide)) (by decide)) (by decide)) (by decide))) ?_
        have rg103 := i32_rg ((gA z96.2 3 ((15 : Int32) + x2).toNatClampNeg) + z3.1)
        have t104 : (((gA z96.2 3 ((15 : Int32) + x2).toNatClampNeg) + z3.1).toInt64).toInt = ((gA z96.2 3 ((15 : Int32) + x2).toNatClampNeg) + z3.1).toInt := Int32.toInt_toInt64 _
        refine wp_bd (s_X9_within   (((gA z96.2 3 ((15 : Int32) + x2).toNatClampNeg) + z3.1).toInt64) (0 : Int32) (999 : Int32)    (zd_b (Int.le_of_eq tz0) (Int.le_of_eq tz999.symm) (by decide))) (fun z105 hz105 => ?_)
        obtain ⟨hz105_0, hz105_1⟩ := hz105
        refine wp_gd (zin_of (m := 5484) rfl (Int.le_trans (by decide) (zaqc_l (c := 15) t102 (zl_e (k := 0) (zq_0 tx2.symm) t1.1 (by decide)) (by decide))) (zlt_m (c := 5483) (Int.le_trans (zaqc_u (c := 21) t102 (zu_e (k := 6) (zq_0 tx2) t1.2 (by decide)) (by decide)) (by decide)) (by decide))) ?_
        refine wp_lt (fun o106 eo106 => ?_)
        have hIo106 : IvX9 o106 := by rw [eo106]; exact ibX9_3 hz96_1 (Int.le_trans (by decide) (zaqc_l (c := 15) t102 (zl_e (k := 0) (zq_0 tx2.symm) t1.1 (by decide)) (by decide))) (Int.le_trans (zaqc_u (c := 21) t102 (zu_e (k := 6) (zq_0 tx2) t1.2 (by decide)) (by decide)) (by decide)) (Or.inr (Or.inl (zlt_k (c := 1) (Int.le_trans (by decide) (zaqc_l (c := 15) t102 (zl_e (k := 0) (zq_0 tx2.symm) t1.1 (by decide)) (by decide))) (by decide)))) (Or.inr (Or.inl (zlt_k (c := 2) (Int.le_trans (by decide) (zaqc_l (c := 15) t102 (zl_e (k := 0) (zq_0 tx2.symm) t1.1 (by decide)) (by decide))) (by decide)))) (Or.inr (Or.inl (zlt_k (c := 3) (Int.le_trans (by decide) (zaqc_l (c := 15) t102 (zl_e (k := 0) (zq_0 tx2.symm) t1.1 (by decide)) (by decide))) (by decide)))) (Or.inr (Or.inl (zlt_k (c := 4) (Int.le_trans (by decide) (zaqc_l (c := 15) t102 (zl_e (k := 0) (zq_0 tx2.symm) t1.1 (by decide)) (by decide))) (by decide)))) (Or.inr (Or.inl (zlt_k (c := 8) (Int.le_trans (by decide) (zaqc_l (c := 15) t102 (zl_e (k := 0) (zq_0 tx2.symm) t1.1 (by decide)) (by decide))) (by decide)))) (Or.inr (Or.inl (zlt_k (c := 15) (zaqc_l (c := 15) t102 (zl_e (k := 0) (zq_0 tx2.symm) t1.1 (by decide)) (by decide)) (by decide)))) (Or.inl (zlt_m (c := 21) (zaqc_u (c := 21) t102 (zu_e (k := 6) (zq_0 tx2) t1.2 (by decide)) (by decide)) (by decide))) (Or.inl (zlt_m (c := 28) (Int.le_trans (zaqc_u (c := 21) t102 (zu_e (k := 6) (zq_0 tx2) t1.2 (by decide)) (by decide)) (by decide)) (by decide))) (Or.inl (zlt_m (c := 70) (Int.le_trans (zaqc_u (c := 21) t102 (zu_e (k := 6) (zq_0 tx2) t1.2 (by decide)) (by decide)) (by decide)) (by decide)))
        have ko106_k107 : (gA o106 42 (0 : Int32).toNatClampNeg).toInt = (gA z96.2 42 (0 : Int32).toNatClampNeg).toInt := by rw [eo106]; rfl
        have ko106_k108 : (gA o106 42 (1 : Int32).toNatClampNeg).toInt = (gA z96.2 42 (1 : Int32).toNatClampNeg).toInt := by rw [eo106]; rfl
        have ko106_k109 : (gA o106 42 (2 : Int32).toNatClampNeg).toInt = (gA z96.2 42 (2 : Int32).toNatClampNeg).toInt := by rw [eo106]; rfl
        have ko106_k110 : (gI o106 20).toInt = (gI z96.2 20).toInt := by rw [eo106]; rfl
        have ko106_k111 : (gI o106 43).toInt = (gI z96.2 43).toInt := by rw [eo106]; rfl
        have ko106_v : (gA o106 3 ((15 : Int32) + x2).toNatClampNeg).toInt = z105.toInt := by rw [eo106]; exact congrArg Int32.toInt (upd_eq (g := gA z96.2 3) (i := ((15 : Int32) + x2)) (v := z105))
        have hkpo106 : Kp [1, 8, 11, 13, 14, 15, 16, 18, 19, 20, 21, 23, 26, 29, 43, 56, 57, 58, 59, 62] [2, 4, 5, 7, 10, 12, 22, 24, 25, 27, 28, 42, 48, 50, 51, 55, 61] [(0, 1), (1, 2), (29, 36), (36, 64), (64, 71)] o_me o106 := hkpz96_me.trans (by rw [eo106]; exact kp_bw (a := 2) (b := 29) (by decide) (by decide) (Int.le_trans (by decide) (zaqc_l (c := 15) t102 (zl_e (k := 0) (zq_0 tx2.symm) t1.1 (by decide)) (by decide))) (Int.lt_of_le_of_lt (zaqc_u (c := 21) t102 (zu_e (k := 6) (zq_0 tx2) t1.2 (by decide)) (by decide)) (by decide)))
        have t112 := iaX9_3_4 hIo106 (j := (7 : Int32)) (by decide) (by decide)
        have t113 : ((gA o106 3 (7 : Int32).toNatClampNeg) + z43.1).toInt = (gA o106 3 (7 : Int32).toNatClampNeg).toInt + z43.1.toInt := i32_add rfl rfl (zk_ll t112.1 hz43_0.1 (by decide)) (zk_uu t112.2 hz43_0.2 (by decide))
        have t114 : (((gA o106 3 (7 : Int32).toNatClampNeg) + z43.1).toInt64).toInt = ((gA o106 3 (7 : Int32).toNatClampNeg) + z43.1).toInt := Int32.toInt_toInt64 _
        refine wp_bd (s_X9_within   (((gA o106 3 (7 : Int32).toNatClampNeg) + z43.1).toInt64) (0 : Int32) (999 : Int32)    (zd_e (c := 0) hz105_1 hz105_0 (by decide))) (fun z115 hz115 => ?_)
        obtain ⟨hz115_0, hz115_1⟩ := hz115
        refine wp_lt (fun o116 eo116 => ?_)
        have hIo116 : IvX9 o116 := by rw [eo116]; exact ibX9_3 hIo106 (by decide) (by decide) (Or.inr (Or.inl (by decide))) (Or.inr (Or.inl (by decide))) (Or.inr (Or.inl (by decide))) (Or.inr (Or.inl (by decide))) (Or.inr (Or.inr ⟨(zl_e hz115_1 (Int.le_of_eq tz0.symm) (by decide)), (zu_e hz115_0 (Int.le_of_eq tz999) (by decide))⟩)) (Or.inl (by decide)) (Or.inl (by decide)) (Or.inl (by decide)) (Or.inl (by decide))
        have ko116_k117 : (gA o116 3 ((15 : Int32) + x2).toNatClampNeg).toInt = (gA o106 3 ((15 : Int32) + x2).toNatClampNeg).toInt := by rw [eo116]; exact congrArg Int32.toInt (upd_ne (g := gA o106 3) (i := (7 : Int32)) (j := ((15 : Int32) + x2)) (v := z115) (by decide) (Int.le_trans (by decide) (zaqc_l (c := 15) t102 (zl_e (k := 0) (zq_0 tx2.symm) t1.1 (by decide)) (by decide))) (zne_l (k := 7) (l := 15) (by decide) (zaqc_l (c := 15) t102 (zl_e (k := 0) (zq_0 tx2.symm) t1.1 (by decide)) (by decide)) (by decide)))
        have ko116_k118 : (gA o116 42 (0 : Int32).toNatClampNeg).toInt = (gA o106 42 (0 : Int32).toNatClampNeg).toInt := by rw [eo116]; rfl
        have ko116_k119 : (gA o116 42 (1 : Int32).toNatClampNeg).toInt = (gA o106 42 (1 : Int32).toNatClampNeg).toInt := by rw [eo116]; rfl
        have ko116_k120 : (gA o116 42 (2 : Int32).toNatClampNeg).toInt = (gA o106 42 (2 : Int32).toNatClampNeg).toInt := by rw [eo116]; rfl
        have ko116_k121 : (gI o116 20).toInt = (gI o106 20).toInt := by rw [eo116]; rfl
        have ko116_k122 : (gI o116 43).toInt = (gI o106 43).toInt := by rw [eo116]; rfl
        have ko116_v : (gA o116 3 (7 : Int32).toNatClampNeg).toInt = z115.toInt := by rw [eo116]; exact congrArg Int32.toInt (upd_eq (g := gA o106 3) (i := (7 : Int32)) (v := z115))
        have hkpo116 : Kp [1, 8, 11, 13, 14, 15, 16, 18, 19, 20, 21, 23, 26, 29, 43, 56, 57, 58, 59, 62] [2, 4, 5, 7, 10, 12, 22, 24, 25, 27, 28, 42, 48, 50, 51, 55, 61] [(0, 1), (1, 2), (29, 36), (36, 64), (64, 71)] o_me o116 := hkpo106.trans (by rw [eo116]; exact kp_bw (a := 7) (b := 8) (by decide) (by decide) (by decide) (by decide))
        refine wp_if (fun c123 => ?_) (fun c123 => ?_)
        · have c123 := cv_le (a := (gI o116 43).toInt) (b := 1) rfl (by decide) c123
          exact absurd c123 (Int.not_le.mpr (zlt_k (c := 2) (zl_e (zd_e (c := 0) (zq_0 kz96_k101.symm) (zd_e (c := 0) (zq_0 ko106_k111.symm) (zq_0 ko116_k122.symm) (by decide)) (by decide)) (zlt_l (c := 3) c54 (by decide)) (by decide)) (by decide)))
        · have c123 := cv_nle (a := (gI o116 43).toInt) (b := 1) rfl (by decide) c123
          have t124 : ((8 : Int32) + (gA o116 42 (1 : Int32).toNatClampNeg)).toInt = 8 + (gA o116 42 (1 : Int32).toNatClampNeg).toInt := i32_add (by decide) rfl (by omega) (by omega)
          refine wp_gd (zin_of (m := 5484) rfl (by omega) (by omega)) ?_
          refine wp_lt (fun o125 eo125 => ?_)
          have hIo125 : IvX9 o125 := by rw [eo125]; exact ibX9_3 hIo116 (by omega) (by omega) (Or.inr (Or.inl (by omega))) (Or.inr (Or.inl (by omega))) (Or.inr (Or.inl (by omega))) (Or.inr (Or.inl (by omega))) (Or.inr (Or.inl (by omega))) (Or.inr (Or.inr ⟨hz49_0.1, hz49_0.2⟩)) (Or.inl (by omega)) (Or.inl (by omega)) (Or.inl (by omega))
          have ko125_k126 : (gA o125 3 ((15 : Int32) + x2).toNatClampNeg).toInt = (gA o116 3 ((15 : Int32) + x2).toNatClampNeg).toInt := by rw [eo125]; exact congrArg Int32.toInt (upd_ne (g := gA o116 3) (i := ((8 : Int32) + (gA o116 42 (1 : Int32).toNatClampNeg))) (j := ((15 : Int32) + x2)) (v := z49.1) (by omega) (Int.le_trans (by decide) (zaqc_l (c := 15) t102 (zl_e (k := 0) (zq_0 tx2.symm) t1.1 (by decide)) (by decide))) (by omega))
          have ko125_k127 : (gA o125 3 (7 : Int32).toNatClampNeg).toInt = (gA o116 3 (7 : Int32).toNatClampNeg).toInt := by rw [eo125]; exact congrArg Int32.toInt (upd_ne (g := gA o116 3) (i := ((8 : Int32) + (gA o116 42 (1 : Int32).toNatClampNeg))) (j := (7 : Int32)) (v := z49.1) (by omega) (by decide) (by omega))
          have ko125_k128 : (gA o125 42 (0 : Int32).toNatClampNeg).toInt = (gA o116 42 (0 : Int32).toNatClampNeg).toInt := by rw [eo125]; rfl
          have ko125_k129 : (gA o125 42 (1 : Int32).toNatClampNeg).toInt = (gA o116 42 (1 : Int32).toNatClampNeg).toInt := by rw [eo125]; rfl
          have ko125_k130 : (gA o125 42 (2 : Int32).toNatClampNeg).toInt = (gA o116 42 (2 : Int32).toNatClampNeg).toInt := by rw [eo125]; rfl
          have ko125_k131 : (gI o125 20).toInt = (gI o116 20).toInt := by rw [eo125]; rfl
          have ko125_k132 : (gI o125 43).toInt = (gI o116 43).toInt := by rw [eo125]; rfl
          have ko125_v : (gA o125 3 ((8 : Int32) + (gA o116 42 (1 : Int32).toNatClampNeg)).toNatClampNeg).toInt = z49.1.toInt := by rw [eo125]; exact congrArg Int32.toInt (upd_eq (g := gA o116 3) (i := ((8 : Int32) + (gA o116 42 (1 : Int32).toNatClampNeg))) (v := z49.1))
          have hkpo125 : Kp [1, 8, 11, 13, 14, 15, 16, 18, 19, 20, 21, 23, 26, 29, 43, 56, 57, 58, 59, 62] [2, 4, 5, 7, 10, 12, 22, 24, 25, 27, 28, 42, 48, 50, 51, 55, 61] [(0, 1), (1, 2), (29, 36), (36, 64), (64, 71)] o_me o125 := hkpo116.trans (by rw [eo125]; exact kp_bw (a := 2) (b := 29) (by decide) (by decide) (by omega) (by omega))
          unfold bk_X9_raceIt_169
          refine wp_if (fun c133 => ?_) (fun c133 => ?_)
          · have c133 := cv_le (a := (gI o125 43).toInt) (b := 2) rfl (by decide) c133
            exact absurd c133 (Int.not_le.mpr (zlt_k (c := 3) (zl_e (zd_e (c := 0) (zq_0 kz96_k101.symm) (zd_e (c := 0) (zq_0 ko106_k111.symm) (zd_e (c := 0) (zq_0 ko116_k122.symm) (zq_0 ko125_k132.symm) (by decide)) (by decide)) (by decide)) (zlt_l (c := 3) c54 (by decide)) (by decide)) (by decide)))
          · have c133 := cv_nle (a := (gI o125 43).toInt) (b := 2) rfl (by decide) c133
            have t134 : ((15 : Int32) + (gA o125 42 (2 : Int32).toNatClampNeg)).toInt = 15 + (gA o125 42 (2 : Int32).toNatClampNeg).toInt := i32_add (by decide) rfl (zk_cl (zl_e (k := 0) (zd_e (c := 0) (zq_0 kz96_k99.symm) (zd_e (c := 0) (zq_0 ko106_k109.symm) (zd_e (c := 0) (zq_0 ko116_k120.symm) (zq_0 ko125_k130.symm) (by decide)) (by decide)) (by decide)) t95.1 (by decide)) (by decide)) (zk_cu (zu_e (k := 6) (zd_e (c := 0) (zd_e (c := 0) (zd_e (c := 0) (zq_0 ko125_k130) (zq_0 ko116_k120) (by decide)) (zq_0 ko106_k109) (by decide)) (zq_0 kz96_k99) (by decide)) t95.2 (by decide)) (by decide))
            refine wp_gd (zin_of (m := 5484) rfl (Int.le_trans (by decide) (zaqc_l (c := 15) t134 (zl_e (k := 0) (zd_e (c := 0) (zq_0 kz96_k99.symm) (zd_e (c := 0) (zq_0 ko106_k109.symm) (zd_e (c := 0) (zq_0 ko116_k120.symm) (zq_0 ko125_k130.symm) (by decide)) (by decide)) (by decide)) t95.1 (by decide)) (by decide))) (zlt_m (c := 5483) (Int.le_trans (zaqc_u (c := 21) t134 (zu_e (k := 6) (zd_e (c := 0) (zd_e (c := 0) (zd_e (c := 0) (zq_0 ko125_k130) (zq_0 ko116_k120) (by decide)) (zq_0 ko106_k109) (by decide)) (zq_0 kz96_k99) (by decide)) t95.2 (by decide)) (by decide)) (by decide)) (by decide))) ?_
            have rg135 := i32_rg ((gA o125 3 ((15 : Int32) + (gA o125 42 (2 : Int32).toNatClampNeg)).toNatClampNeg) + z96.1)
            have t136 : (((gA o125 3 ((15 : Int32) + (gA o125 42 (2 : Int32).toNatClampNeg)).toNatClampNeg) + z96.1).toInt64).toInt = ((gA o125 3 ((15 : Int32) + (gA o125 42 (2 : Int32).toNatClampNeg)).toNatClampNeg) + z96.1).toInt := Int32.toInt_toInt64 _
            refine wp_bd (s_X9_within   (((gA o125 3 ((15 : Int32) + (gA o125 42 (2 : Int32).toNatClampNeg)).toNatClampNeg) + z96.1).toInt64) (0 : Int32) (999 : Int32)    (zd_e (c := 0) hz105_1 hz105_0 (by decide))) (fun z137 hz137 => ?_)
            obtain ⟨hz137_0, hz137_1⟩ := hz137
            refine wp_gd (zin_of (m := 5484) rfl (Int.le_trans (by decide) (zaqc_l (c := 15) t134 (zl_e (k := 0) (zd_e (c := 0) (zq_0 kz96_k99.symm) (zd_e (c := 0) (zq_0 ko106_k109.symm) (zd_e (c := 0) (zq_0 ko116_k120.symm) (zq_0 ko125_k130.symm) (by decide)) (by decide)) (by decide)) t95.1 (by decide)) (by decide))) (zlt_m (c := 5483) (Int.le_trans (zaqc_u (c := 21) t134 (zu_e (k := 6) (zd_e (c := 0) (zd_e (c := 0) (zd_e (c := 0) (zq_0 ko125_k130) (zq_0 ko116_k120) (by decide)) (zq_0 ko106_k109) (by decide)) (zq_0 kz96_k99) (by decide)) t95.2 (by decide)) (by decide)) (by decide)) (by decide))) ?_
            refine wp_lt (fun o138 eo138 => ?_)
            have hIo138 : IvX9 o138 := by rw [eo138]; exact ibX9_3 hIo125 (Int.le_trans (by decide) (zaqc_l (c := 15) t134 (zl_e (k := 0) (zd_e (c := 0) (zq_0 kz96_k99.symm) (zd_e (c := 0) (zq_0 ko106_k109.symm) (zd_e (c := 0) (zq_0 ko116_k120.symm) (zq_0 ko125_k130.symm) (by decide)) (by decide)) (by decide)) t95.1 (by decide)) (by decide))) (Int.le_trans (zaqc_u (c := 21) t134 (zu_e (k := 6) (zd_e (c := 0) (zd_e (c := 0) (zd_e (c := 0) (zq_0 ko125_k130) (zq_0 ko116_k120) (by decide)) (zq_0 ko106_k109) (by decide)) (zq_0 kz96_k99) (by decide)) t95.2 (by decide)) (by decide)) (by decide)) (Or.inr (Or.inl (zlt_k (c := 1) (Int.le_trans (by decide) (zaqc_l (c := 15) t134 (zl_e (k := 0) (zd_e (c := 0) (zq_0 kz96_k99.symm) (zd_e (c := 0) (zq_0 ko106_k109.symm) (zd_e (c := 0) (zq_0 ko116_k120.symm) (zq_0 ko125_k130.symm) (by decide)) (by decide)) (by decide)) t95.1 (by decide)) (by decide))) (by decide)))) (Or.inr (Or.inl (zlt_k (c := 2) (Int.le_trans (by decide) (zaqc_l (c := 15) t134 (zl_e (k := 0) (zd_e (c := 0) (zq_0 kz96_k99.symm) (zd_e (c := 0) (zq_0 ko106_k109.symm) (zd_e (c := 0) (zq_0 ko116_k120.symm) (zq_0 ko125_k130.symm) (by decide)) (by decide)) (by decide)) t95.1 (by decide)) (by decide))) (by decide)))) (Or.inr (Or.inl (zlt_k (c := 3) (Int.le_trans (by decide) (zaqc_l (c := 15) t134 (zl_e (k := 0) (zd_e (c := 0) (zq_0 kz96_k99.symm) (zd_e (c := 0) (zq_0 ko106_k109.symm) (zd_e (c := 0) (zq_0 ko116_k120.symm) (zq_0 ko125_k130.symm) (by decide)) (by decide)) (by decide)) t95.1 (by decide)) (by decide))) (by decide)))) (Or.inr (Or.inl (zlt_k (c := 4) (Int.le_trans (by decide) (zaqc_l (c := 15) t134 (zl_e (k := 0) (zd_e (c := 0) (zq_0 kz96_k99.symm) (zd_e (c := 0) (zq_0 ko106_k109.symm) (zd_e (c := 0) (zq_0 ko116_k120.symm) (zq_0 ko125_k130.symm) (by decide)) (by decide)) (by decide)) t95.1 (by decide)) (by decide))) (by decide)))) (Or.inr (Or.inl (zlt_k (c := 8) (Int.le_trans (by decide) (zaqc_l (c := 15) t134 (zl_e (k := 0) (zd_e (c := 0) (zq_0 kz96_k99.symm) (zd_e (c := 0) (zq_0 ko106_k109.symm) (zd_e (c := 0) (zq_0 ko116_k120.symm) (zq_0 ko125_k130.symm) (by decide)) (by decide)) (by decide)) t95.1 (by decide)) (by decide))) (by decide)))) (Or.inr (Or.inl (zlt_k (c := 15) (zaqc_l (c := 15) t134 (zl_e (k := 0) (zd_e (c := 0) (zq_0 kz96_k99.symm) (zd_e (c := 0) (zq_0 ko106_k109.symm) (zd_e (c := 0) (zq_0 ko116_k120.symm) (zq_0 ko125_k130.symm) (by decide)) (by decide)) (by decide)) t95.1 (by decide)) (by decide)) (by decide)))) (Or.inl (zlt_m (c := 21) (zaqc_u (c := 21) t134 (zu_e (k := 6) (zd_e (c := 0) (zd_e (c := 0) (zd_e (c := 0) (zq_0 ko125_k130) (zq_0 ko116_k120) (by decide)) (zq_0 ko106_k109) (by decide)) (zq_0 kz96_k99) (by decide)) t95.2 (by decide)) (by decide)) (by decide))) (Or.inl (zlt_m (c := 28) (Int.le_trans (zaqc_u (c := 21) t134 (zu_e (k := 6) (zd_e (c := 0) (zd_e (c := 0) (zd_e (c := 0) (zq_0 ko125_k130) (zq_0 ko116_k120) (by decide)) (zq_0 ko106_k109) (by decide)) (zq_0 kz96_k99) (by decide)) t95.2 (by decide)) (by decide)) (by decide)) (by decide))) (Or.inl (zlt_m (c := 70) (Int.le_trans (zaqc_u (c := 21) t134 (zu_e (k := 6) (zd_e (c := 0) (zd_e (c := 0) (zd_e (c := 0) (zq_0 ko125_k130) (zq_0 ko116_k120) (by decide)) (zq_0 ko106_k109) (by decide)) (zq_0 kz96_k99) (by decide)) t95.2 (by decide)) (by decide)) (by decide)) (by decide)))
            have ko138_k139 : (gA o138 3 ((8 : Int32) + (gA o116 42 (1 : Int32).toNatClampNeg)).toNatClampNeg).toInt = (gA o125 3 ((8 : Int32) + (gA o116 42 (1 : Int32).toNatClampNeg)).toNatClampNeg).toInt := by rw [eo138]; exact congrArg Int32.toInt (upd_ne (g := gA o125 3) (i := ((15 : Int32) + (gA o125 42 (2 : Int32).toNatClampNeg))) (j := ((8 : Int32) + (gA o116 42 (1 : Int32).toNatClampNeg))) (v := z137) (Int.le_trans (by decide) (zaqc_l (c := 15) t134 (zl_e (k := 0) (zd_e (c := 0) (zq_0 kz96_k99.symm) (zd_e (c := 0) (zq_0 ko106_k109.symm) (zd_e (c := 0) (zq_0 ko116_k120.symm) (zq_0 ko125_k130.symm) (by decide)) (by decide)) (by decide)) t95.1 (by decide)) (by decide))) (by omega) (by omega))
            have ko138_k140 : (gA o138 3 (7 : Int32).toNatClampNeg).toInt = (gA o125 3 (7 : Int32).toNatClampNeg).toInt := by rw [eo138]; exact congrArg Int32.toInt (upd_ne (g := gA o125 3) (i := ((15 : Int32) + (gA o125 42 (2 : Int32).toNatClampNeg))) (j := (7 : Int32)) (v := z137) (Int.le_trans (by decide) (zaqc_l (c := 15) t134 (zl_e (k := 0) (zd_e (c := 0) (zq_0 kz96_k99.symm) (zd_e (c := 0) (zq_0 ko106_k109.symm) (zd_e (c := 0) (zq_0 ko116_k120.symm) (zq_0 ko125_k130.symm) (by decide)) (by decide)) (by decide)) t95.1 (by decide)) (by decide))) (by decide) (zne_r (k := 7) (l := 15) (by decide) (zaqc_l (c := 15) t134 (zl_e (k := 0) (zd_e (c := 0) (zq_0 kz96_k99.symm) (zd_e (c := 0) (zq_0 ko106_k109.symm) (zd_e (c := 0) (zq_0 ko116_k120.symm) (zq_0 ko125_k130.symm) (by decide)) (by decide)) (by decide)) t95.1 (by decide)) (by decide)) (by decide)))
            have ko138_k141 : (gA o138 42 (0 : Int32).toNatClampNeg).toInt = (gA o125 42 (0 : Int32).toNatClampNeg).toInt := by rw [eo138]; rfl
            have ko138_k142 : (gA o138 42 (1 : Int32).toNatClampNeg).toInt = (gA o125 42 (1 : Int32).toNatClampNeg).toInt := by rw [eo138]; rfl
            have ko138_k143 : (gA o138 42 (2 : Int32).toNatClampNeg).toInt = (gA o125 42 (2 : Int32).toNatClampNeg).toInt := by rw [eo138]; rfl
            have ko138_k144 : (gI o138 20).toInt = (gI o125 20).toInt := by rw [eo138]; rfl
            have ko138_k145 : (gI o138 43).toInt = (gI o125 43).toInt := by rw [eo138]; rfl
            have ko138_v : (gA o138 3 ((15 : Int32) + (gA o125 42 (2 : Int32).toNatClampNeg)).toNatClampNeg).toInt = z137.toInt := by rw [eo138]; exact congrArg Int32.toInt (upd_eq (g := gA o125 3) (i := ((15 : Int32) + (gA o125 42 (2 : Int32).toNatClampNeg))) (v := z137))
            have hkpo138 : Kp [1, 8, 11, 13, 14, 15, 16, 18, 19, 20, 21, 23, 26, 29, 43, 56, 57, 58, 59, 62] [2, 4, 5, 7, 10, 12, 22, 24, 25, 27, 28, 42, 48, 50, 51, 55, 61] [(0, 1), (1, 2), (29, 36), (36, 64), (64, 71)] o_me o138 := hkpo125.trans (by rw [eo138]; exact kp_bw (a := 2) (b := 29) (by decide) (by decide) (Int.le_trans (by decide) (zaqc_l (c := 15) t134 (zl_e (k := 0) (zd_e (c := 0) (zq_0 kz96_k99.symm) (zd_e (c := 0) (zq_0 ko106_k109.symm) (zd_e (c := 0) (zq_0 ko116_k120.symm) (zq_0 ko125_k130.symm) (by decide)) (by decide)) (by decide)) t95.1 (by decide)) (by decide))) (Int.lt_of_le_of_lt (zaqc_u (c := 21) t134 (zu_e (k := 6) (zd_e (c := 0) (zd_e (c := 0) (zd_e (c := 0) (zq_0 ko125_k130) (zq_0 ko116_k120) (by decide)) (zq_0 ko106_k109) (by decide)) (zq_0 kz96_k99) (by decide)) t95.2 (by decide)) (by decide)) (by decide)))
            unfold bk_X9_raceIt_216
            have lp3 : ∀ (N3 : Nat) (v2_3 : Int32) (v7_3 : Int32) (o_me_3 : Ob), IvX9 o_me_3 → Kp [1, 8, 11, 13, 14, 15, 16, 18, 19, 20, 21, 23, 26, 29, 43, 56, 57, 58, 59, 62] [2, 4, 5, 7, 10, 12, 22, 24, 25, 27, 28, 42, 48, 50, 51, 55, 61] [(0, 1), (1, 2), (29, 36), (36, 64), (64, 71)] o_me o_me_3 → (0 ≤ v2_3.toInt ∧ v2_3.toInt ≤ 6) → (0 ≤ v7_3.toInt ∧ v7_3.toInt ≤ 7) → (7 - v7_3.toInt).toNat < N3 → wp (lp_X9_raceIt_219   N3 (v2_3, v7_3, o_me_3)) (fun (y : Int32 × Ob) => (0 ≤ y.1.toInt ∧ y.1.toInt ≤ 6) ∧ IvX9 y.2 ∧ Kp [1, 8, 11, 13, 14, 15, 16, 18, 19, 20, 21, 23, 26, 29, 43, 56, 57, 58, 59, 62] [2, 4, 5, 7, 10, 12, 22, 24, 25, 27, 28, 42, 48, 50, 51, 55, 61] [(0, 1), (1, 2), (29, 36), (36, 64), (64, 71)] o_me y.2) := by
              intro N3
              induction N3 with
              | zero =>
                intro v2_3 v7_3 o_me_3 hI_me_3 hkp_me_3 hh146 hh147 hN3
                exact absurd hN3 (Nat.not_lt_zero _)
              | succ N3 ihx =>
                have ih3 := ihx
                intro v2_3 v7_3 o_me_3 hI_me_3 hkp_me_3 hh146 hh147 hN3
                show wp (lb_X9_raceIt_219   (lp_X9_raceIt_219   N3) v2_3 v7_3 o_me_3) (fun (y : Int32 × Ob) => (0 ≤ y.1.toInt ∧ y.1.toInt ≤ 6) ∧ IvX9 y.2 ∧ Kp [1, 8, 11, 13, 14, 15, 16, 18, 19, 20, 21, 23, 26, 29, 43, 56, 57, 58, 59, 62] [2, 4, 5, 7, 10, 12, 22, 24, 25, 27, 28, 42, 48, 50, 51, 55, 61] [(0, 1), (1, 2), (29, 36), (36, 64), (64, 71)] o_me y.2)
                unfold lb_X9_raceIt_219
                have t148 := igX9_43 hI_me_3
                refine wp_if (fun c149 => ?_) (fun c149 => ?_)
                · have c149 := cv_ge (a := v7_3.toInt) (b := (gI o_me_3 43).toInt) rfl rfl c149
                  refine wp_some ?_
                  exact (show (0 ≤ v2_3.toInt ∧ v2_3.toInt ≤ 6) ∧ IvX9 o_me_3 ∧ Kp [1, 8, 11, 13, 14, 15, 16, 18, 19, 20, 21, 23, 26, 29, 43, 56, 57, 58, 59, 62] [2, 4, 5, 7, 10, 12, 22, 24, 25, 27, 28, 42, 48, 50, 51, 55, 61] [(0, 1), (1, 2), (29, 36), (36, 64), (64, 71)] o_me o_me_3 from ⟨⟨hh146.1, hh146.2⟩, hI_me_3, hkp_me_3⟩)
                · have c149 := cv_nge (a := v7_3.toInt) (b := (gI o_me_3 43).toInt) rfl rfl c149
                  refine wp_gd (zin_of (m := 7) rfl hh147.1 (zlt_m (c := 6) (zu_e (zl_d c149) t148.2 (by decide)) (by decide))) ?_
                  have t150 := iaX9_42_0 hI_me_3 (j := v7_3) hh147.1 (zu_e (zl_d c149) t148.2 (by decide))
                  have t151 : ((22 : Int32) + (gA o_me_3 42 v7_3.toNatClampNeg)).toInt = 22 + (gA o_me_3 42 v7_3.toNatClampNeg).toInt := i32_add (by decide) rfl (zk_cl t150.1 (by decide)) (zk_cu t150.2 (by decide))
                  refine wp_gd (zin_of (m := 5484) rfl (Int.le_trans (by decide) (zaqc_l (c := 22) t151 t150.1 (by decide))) (zlt_m (c := 5483) (Int.le_trans (zaqc_u (c := 28) t151 t150.2 (by decide)) (by decide)) (by decide))) ?_
                  refine wp_lt (fun o152 eo152 => ?_)
                  have hIo152 : IvX9 o152 := by rw [eo152]; exact ibX9_3 hI_me_3 (Int.le_trans (by decide) (zaqc_l (c := 22) t151 t150.1 (by decide))) (Int.le_trans (zaqc_u (c := 28) t151 t150.2 (by decide)) (by decide)) (Or.inr (Or.inl (zlt_k (c := 1) (Int.le_trans (by decide) (zaqc_l (c := 22) t151 t150.1 (by decide))) (by decide)))) (Or.inr (Or.inl (zlt_k (c := 2) (Int.le_trans (by decide) (zaqc_l (c := 22) t151 t150.1 (by decide))) (by decide)))) (Or.inr (Or.inl (zlt_k (c := 3) (Int.le_trans (by decide) (zaqc_l (c := 22) t151 t150.1 (by decide))) (by decide)))) (Or.inr (Or.inl (zlt_k (c := 4) (Int.le_trans (by decide) (zaqc_l (c := 22) t151 t150.1 (by decide))) (by decide)))) (Or.inr (Or.inl (zlt_k (c := 8) (Int.le_trans (by decide) (zaqc_l (c := 22) t151 t150.1 (by decide))) (by decide)))) (Or.inr (Or.inl (zlt_k (c := 15) (Int.le_trans (by decide) (zaqc_l (c := 22) t151 t150.1 (by decide))) (by decide)))) (Or.inr (Or.inr ⟨by decide, by decide⟩)) (Or.inl (zlt_m (c := 28) (zaqc_u (c := 28) t151 t150.2 (by decide)) (by decide))) (Or.inl (zlt_m (c := 70) (Int.le_trans (zaqc_u (c := 28) t151 t150.2 (by decide)) (by decide)) (by decide)))
                  have ko152_k153 : (gA o152 42 v7_3.toNatClampNeg).toInt = (gA o_me_3 42 v7_3.toNatClampNeg).toInt := by rw [eo152]; rfl
                  have ko152_k154 : (gI o152 43).toInt = (gI o_me_3 43).toInt := by rw [eo152]; rfl
                  have ko152_v : (gA o152 3 ((22 : Int32) + (gA o_me_3 42 v7_3.toNatClampNeg)).toNatClampNeg).toInt = 0 := by rw [eo152]; exact (congrArg Int32.toInt (upd_eq (g := gA o_me_3 3) (i := ((22 : Int32) + (gA o_me_3 42 v7_3.toNatClampNeg))) (v := (0 : Int32)))).trans (show ((0 : Int32)).toInt = 0 by decide)
                  have hkpo152 : Kp [1, 8, 11, 13, 14, 15, 16, 18, 19, 20, 21, 23, 26, 29, 43, 56, 57, 58, 59, 62] [2, 4, 5, 7, 10, 12, 22, 24, 25, 27, 28, 42, 48, 50, 51, 55, 61] [(0, 1), (1, 2), (29, 36), (36, 64), (64, 71)] o_me o152 := hkp_me_3.trans (by rw [eo152]; exact kp_bw (a := 2) (b := 29) (by decide) (by decide) (Int.le_trans (by decide) (zaqc_l (c := 22) t151 t150.1 (by decide))) (Int.lt_of_le_of_lt (zaqc_u (c := 28) t151 t150.2 (by decide)) (by decide)))
                  refine wp_lt (fun x155 ex155 => ?_)
                  have tx155 : x155.toInt = v7_3.toInt + 1 := by rw [ex155]; exact i32_add rfl (by decide) (zk_l hh147.1 (by decide)) (zk_u (zu_e (k := 6) (zl_d c149) t148.2 (by decide)) (by decide))
                  exact ih3 v2_3 x155 o152 hIo152 hkpo152 ⟨hh146.1, hh146.2⟩ ⟨(zl_e (zq_r (c := (-1)) tx155 (by decide)) hh147.1 (by decide)), (zu_e (zd_e (c := 0) (Int.le_of_eq tx155) (zl_d c149) (by decide)) t148.2 (by decide))⟩ (zms_u (c := 6) hN3 (zq_r (c := (-1)) tx155 (by decide)) (zu_e (zl_d c149) t148.2 (by decide)) (by decide))
            exact lp3 zfu x2 (0 : Int32) o138 hIo138 hkpo138 ⟨(zl_e (zq_0 tx2.symm) t1.1 (by decide)), (zu_e (zq_0 tx2) t1.2 (by decide))⟩ ⟨by decide, by decide⟩ (zme_u (l := 0) (Int.le_of_eq tz0.symm) (by decide))

set_option maxHeartbeats 4000000 in
set_option maxRecDepth 100000 in
theorem s_X9_raceNow (o_me : Ob) (p0 : Int32) (hI_me : IvX9 o_me) (q0 : 0 ≤ (gI o_me 20).toInt ∧ (gI o_me 20).toInt ≤ 0) : wp (f_X9_raceNow   o_me p0) (fun (y : Int32 × Ob) => ((-3) ≤ y.1.toInt ∧ y.1.toInt ≤ 6) ∧ IvX9 y.2 ∧ Kp [1, 11, 13, 14, 15, 16, 18, 19, 20, 21, 23, 26, 29, 56, 57, 58, 59, 62] [2, 4, 5, 10, 12, 22, 24, 25, 27, 28, 48, 50, 51, 55, 61] [(0, 1), (1, 2), (29, 36), (36, 64), (64, 71)] o_me y.2) := by
  unfold f_X9_raceNow
  refine wp_bd (s_X9_isRace   p0    ) (fun z1 hz1 => ?_)
  obtain ⟨hz1_0, hz1_1⟩ := hz1
  refine wp_if (fun c2 => ?_) (fun c2 => ?_)
  · have c2 := cv_eq (a := z1.toInt) (b := 0) rfl (by decide) c2
    refine wp_some ?_
    exact (show ((-3) ≤ (-1 : Int32).toInt ∧ (-1 : Int32).toInt ≤ 6) ∧ IvX9 o_me ∧ Kp [1, 11, 13, 14, 15, 16, 18, 19, 20, 21, 23, 26, 29, 56, 57, 58, 59, 62] [2, 4, 5, 10, 12, 22, 24, 25, 27, 28, 48, 50, 51, 55, 61] [(0, 1), (1, 2), (29, 36), (36, 64), (64, 71)] o_me o_me from ⟨⟨by decide, by decide⟩, hI_me, Kp.rf⟩)
  · have c2i := hz1_1 c2
    refine wp_bd (s_X9_layPlaces   o_me p0  hI_me  ⟨c2i.1, c2i.2⟩ ⟨q0.1, q0.2⟩) (fun z3 hz3 => ?_)
    obtain ⟨hz3_0, hz3_1⟩ := hz3
    have hkpz3_me : Kp [1, 11, 13, 14, 15, 16, 18, 19, 20, 21, 23, 26, 29, 56, 57, 58, 59, 62] [2, 4, 5, 10, 12, 22, 24, 25, 27, 28, 48, 50, 51, 55, 61] [(0, 1), (1, 2), (29, 36), (36, 64), (64, 71)] o_me z3 := Kp.rf.trans (hz3_1.mono (by decide) (by decide) (by decide))
    have kz3_k4 : (gI z3 20).toInt = (gI o_me 20).toInt := congrArg Int32.toInt (hz3_1.1 20 (by decide))
    refine wp_if (fun c6 => ?_) (fun c6 => ?_)
    · refine wp_some ?_
      exact (show ((-3) ≤ (-3 : Int32).toInt ∧ (-3 : Int32).toInt ≤ 6) ∧ IvX9 z3 ∧ Kp [1, 11, 13, 14, 15, 16, 18, 19, 20, 21, 23, 26, 29, 56, 57, 58, 59, 62] [2, 4, 5, 10, 12, 22, 24, 25, 27, 28, 48, 50, 51, 55, 61] [(0, 1), (1, 2), (29, 36), (36, 64), (64, 71)] o_me z3 from ⟨⟨by decide, by decide⟩, hz3_0, hkpz3_me⟩)
    · refine wp_bd (s_X9_remember   z3 (0 : Int32)  hz3_0  ⟨by decide, by decide⟩) (fun z7 hz7 => ?_)
      obtain ⟨hz7_0, hz7_1⟩ := hz7
      have hkpz7_me : Kp [1, 11, 13, 14, 15, 16, 18, 19, 20, 21, 23, 26, 29, 56, 57, 58, 59, 62] [2, 4, 5, 10, 12, 22, 24, 25, 27, 28, 48, 50, 51, 55, 61] [(0, 1), (1, 2), (29, 36), (36, 64), (64, 71)] o_me z7 := hkpz3_me.trans (hz7_1.mono (by decide) (by decide) (by decide))
      have kz7_k8 : (gI z7 20).toInt = (gI z3 20).toInt := congrArg Int32.toInt (hz7_1.1 20 (by decide))
      refine wp_bd (s_X9_raceIt   z7 p0  hz7_0  ⟨c2i.1, c2i.2⟩ ⟨(zl_e (zd_e (c := 0) (zq_0 kz3_k4.symm) (zq_0 kz7_k8.symm) (by decide)) q0.1 (by decide)), (zu_e (zd_e (c := 0) (zq_0 kz7_k8) (zq_0 kz3_k4) (by decide)) q0.2 (by decide))⟩) (fun z10 hz10 => ?_)
      obtain ⟨hz10_0, hz10_1, hz10_2⟩ := hz10
      have hkpz10_me : Kp [1, 11, 13, 14, 15, 16, 18, 19, 20, 21, 23, 26, 29, 56, 57, 58, 59, 62] [2, 4, 5, 10, 12, 22, 24, 25, 27, 28, 48, 50, 51, 55, 61] [(0, 1), (1, 2), (29, 36), (36, 64), (64, 71)] o_me z10.2 := hkpz7_me.trans (hz10_2.mono (by decide) (by decide) (by decide))
      refine wp_some ?_
      exact (show ((-3) ≤ z10.1.toInt ∧ z10.1.toInt ≤ 6) ∧ IvX9 z10.2 ∧ Kp [1, 11, 13, 14, 15, 16, 18, 19, 20, 21, 23, 26, 29, 56, 57, 58, 59, 62] [2, 4, 5, 10, 12, 22, 24, 25, 27, 28, 48, 50, 51, 55, 61] [(0, 1), (1, 2), (29, 36), (36, 64), (64, 71)] o_me z10.2 from ⟨⟨(Int.le_trans (by decide) hz10_0.1), hz10_0.2⟩, hz10_1, hkpz10_me⟩)

set_option maxHeartbeats 4000000 in
set_option maxRecDepth 100000 in
theorem s_X9_enterNow (o_me : Ob) (p0 : Int32) (hI_me : IvX9 o_me) (q0 : 0 ≤ (gI o_me 20).toInt ∧ (gI o_me 20).toInt ≤ 0) : wp (f_X9_enterNow   o_me p0) (fun (y : Int32 × Ob) => ((-2) ≤ y.1.toInt ∧ y.1.toInt ≤ 1) ∧ IvX9 y.2 ∧ Kp [1, 11, 13, 14, 15, 16, 18, 19, 20, 21, 23, 26, 29, 34, 38, 43, 56, 57, 58, 59, 62] [2, 4, 5, 10, 12, 22, 24, 25, 27, 28, 42, 48, 50, 51, 55, 61] [(0, 1), (1, 2), (29, 36), (36, 64), (64, 71)] o_me y.2) := by
  unfold f_X9_enterNow
  refine wp_bd (s_X9_isPerson   o_me p0  hI_me  ) (fun z1 hz1 => ?_)
  obtain ⟨hz1_0, hz1_1⟩ := hz1
  refine wp_if (fun c2 => ?_) (fun c2 => ?_)
  · have c2 := cv_eq (a := z1.toInt) (b := 0) rfl (by decide) c2
    refine wp_some ?_
    exact (show ((-2) ≤ (-2 : Int32).toInt ∧ (-2 : Int32).toInt ≤ 1) ∧ IvX9 o_me ∧ Kp [1, 11, 13, 14, 15, 16, 18, 19, 20, 21, 23, 26, 29, 34, 38, 43, 56, 57, 58, 59, 62] [2, 4, 5, 10, 12, 22, 24, 25, 27, 28, 42, 48, 50, 51, 55, 61] [(0, 1), (1, 2), (29, 36), (36, 64), (64, 71)] o_me o_me from ⟨⟨by decide, by decide⟩, hI_me, Kp.rf⟩)
  · have c2i := hz1_1 c2
    refine wp_bd (s_X9_remember   o_me (1 : Int32)  hI_me  ⟨by decide, by decide⟩) (fun z3 hz3 => ?_)
    obtain ⟨hz3_0, hz3_1⟩ := hz3
    have hkpz3_me : Kp [1, 11, 13, 14, 15, 16, 18, 19, 20, 21, 23, 26, 29, 34, 38, 43, 56, 57, 58, 59, 62] [2, 4, 5, 10, 12, 22, 24, 25, 27, 28, 42, 48, 50, 51, 55, 61] [(0, 1), (1, 2), (29, 36), (36, 64), (64, 71)] o_me z3 := Kp.rf.trans (hz3_1.mono (by decide) (by decide) (by decide))
    have t5 : ((22 : Int32) + p0).toInt = 22 + p0.toInt := i32_add (by decide) rfl (zk_cl c2i.1 (by decide)) (zk_cu c2i.2 (by decide))
    refine wp_gd (zin_of (m := 5484) rfl (Int.le_trans (by decide) (zaqc_l (c := 22) t5 c2i.1 (by decide))) (zlt_m (c := 5483) (Int.le_trans (zaqc_u (c := 28) t5 c2i.2 (by decide)) (by decide)) (by decide))) ?_
    have t6 := iaX9_3_6 hz3_0 (j := (22 : Int32) + p0) (zaqc_l (c := 22) t5 c2i.1 (by decide)) (zaqc_u (c := 28) t5 c2i.2 (by decide))
    have t7 : ((1 : Int32) - (gA z3 3 ((22 : Int32) + p0).toNatClampNeg)).toInt = 1 - (gA z3 3 ((22 : Int32) + p0).toNatClampNeg).toInt := i32_sub (by decide) rfl (zs_cl t6.2 (by decide)) (zs_cu t6.1 (by decide))
    refine wp_gd (zin_of (m := 5484) rfl (Int.le_trans (by decide) (zaqc_l (c := 22) t5 c2i.1 (by decide))) (zlt_m (c := 5483) (Int.le_trans (zaqc_u (c := 28) t5 c2i.2 (by decide)) (by decide)) (by decide))) ?_
    refine wp_lt (fun o8 eo8 => ?_)
    have hIo8 : IvX9 o8 := by rw [eo8]; exact ibX9_3 hz3_0 (Int.le_trans (by decide) (zaqc_l (c := 22) t5 c2i.1 (by decide))) (Int.le_trans (zaqc_u (c := 28) t5 c2i.2 (by decide)) (by decide)) (Or.inr (Or.inl (zlt_k (c := 1) (Int.le_trans (by decide) (zaqc_l (c := 22) t5 c2i.1 (by decide))) (by decide)))) (Or.inr (Or.inl (zlt_k (c := 2) (Int.le_trans (by decide) (zaqc_l (c := 22) t5 c2i.1 (by decide))) (by decide)))) (Or.inr (Or.inl (zlt_k (c := 3) (Int.le_trans (by decide) (zaqc_l (c := 22) t5 c2i.1 (by decide))) (by decide)))) (Or.inr (Or.inl (zlt_k (c := 4) (Int.le_trans (by decide) (zaqc_l (c := 22) t5 c2i.1 (by decide))) (by decide)))) (Or.inr (Or.inl (zlt_k (c := 8) (Int.le_trans (by decide) (zaqc_l (c := 22) t5 c2i.1 (by decide))) (by decide)))) (Or.inr (Or.inl (zlt_k (c := 15) (Int.le_trans (by decide) (zaqc_l (c := 22) t5 c2i.1 (by decide))) (by decide)))) (Or.inr (Or.inr ⟨(zsqc_l (c := 0) t7 t6.2 (by decide)), (zsqc_u (c := 1) t7 t6.1 (by decide))⟩)) (Or.inl (zlt_m (c := 28) (zaqc_u (c := 28) t5 c2i.2 (by decide)) (by decide))) (Or.inl (zlt_m (c := 70) (Int.le_trans (zaqc_u (c := 28) t5 c2i.2 (by decide)) (by decide)) (by decide)))
    have ko8_v : (gA o8 3 ((22 : Int32) + p0).toNatClampNeg).toInt = ((1 : Int32) - (gA z3 3 ((22 : Int32) + p0).toNatClampNeg)).toInt := by rw [eo8]; exact congrArg Int32.toInt (upd_eq (g := gA z3 3) (i := ((22 : Int32) + p0)) (v := ((1 : Int32) - (gA z3 3 ((22 : Int32) + p0).toNatClampNeg))))
    have hkpo8 : Kp [1, 11, 13, 14, 15, 16, 18, 19, 20, 21, 23, 26, 29, 34, 38, 43, 56, 57, 58, 59, 62] [2, 4, 5, 10, 12, 22, 24, 25, 27, 28, 42, 48, 50, 51, 55, 61] [(0, 1), (1, 2), (29, 36), (36, 64), (64, 71)] o_me o8 := hkpz3_me.trans (by rw [eo8]; exact kp_bw (a := 2) (b := 29) (by decide) (by decide) (Int.le_trans (by decide) (zaqc_l (c := 22) t5 c2i.1 (by decide))) (Int.lt_of_le_of_lt (zaqc_u (c := 28) t5 c2i.2 (by decide)) (by decide)))
    refine wp_gd (zin_of (m := 5484) rfl (Int.le_trans (by decide) (zaqc_l (c := 22) t5 c2i.1 (by decide))) (zlt_m (c := 5483) (Int.le_trans (zaqc_u (c := 28) t5 c2i.2 (by decide)) (by decide)) (by decide))) ?_
    refine wp_some ?_
    exact (show ((-2) ≤ (gA o8 3 ((22 : Int32) + p0).toNatClampNeg).toInt ∧ (gA o8 3 ((22 : Int32) + p0).toNatClampNeg).toInt ≤ 1) ∧ IvX9 o8 ∧ Kp [1, 11, 13, 14, 15, 16, 18, 19, 20, 21, 23, 26, 29, 34, 38, 43, 56, 57, 58, 59, 62] [2, 4, 5, 10, 12, 22, 24, 25, 27, 28, 42, 48, 50, 51, 55, 61] [(0, 1), (1, 2), (29, 36), (36, 64), (64, 71)] o_me o8 from ⟨⟨(zl_e (zq_0 ko8_v.symm) (zsqc_l (c := 0) t7 t6.2 (by decide)) (by decide)), (zu_e (zq_0 ko8_v) (zsqc_u (c := 1) t7 t6.1 (by decide)) (by decide))⟩, hIo8, hkpo8⟩)

set_option maxHeartbeats 4000000 in
set_option maxRecDepth 100000 in
theorem s_X9_takeIt (o_me : Ob) (p0 : Int32) (hI_me : IvX9 o_me) (q0 : 0 ≤ p0.toInt ∧ p0.toInt ≤ 6) : wp (f_X9_takeIt   o_me p0) (fun (y : Ob) => IvX9 y ∧ Kp [1, 8, 11, 13, 14, 15, 16, 18, 19, 20, 21, 23, 26, 29, 34, 38, 43, 56, 57, 58, 59, 62] [2, 4, 5, 7, 10, 12, 22, 24, 25, 27, 28, 42, 48, 50, 51, 55, 61] [(0, 1), (1, 2), (29, 36), (36, 64), (64, 71)] o_me y) := by
  unfold f_X9_takeIt
  have t1 : ((15 : Int32) + p0).toInt = 15 + p0.toInt := i32_add (by decide) rfl (zk_cl q0.1 (by decide)) (zk_cu q0.2 (by decide))
  refine wp_gd (zin_of (m := 5484) rfl (Int.le_trans (by decide) (zaqc_l (c := 15) t1 q0.1 (by decide))) (zlt_m (c := 5483) (Int.le_trans (zaqc_u (c := 21) t1 q0.2 (by decide)) (by decide)) (by decide))) ?_
  refine wp_bd (s_X9_within   (((gA o_me 3 ((15 : Int32) + p0).toNatClampNeg) + (gA o_me 3 (7 : Int32).toNatClampNeg)).toInt64) (0 : Int32) (999 : Int32)    (zd_b (Int.le_of_eq tz0) (Int.le_of_eq tz999.symm) (by decide))) (fun z5 hz5 => ?_)
  refine wp_gd (zin_of (m := 5484) rfl (Int.le_trans (by decide) (zaqc_l (c := 15) t1 q0.1 (by decide))) (zlt_m (c := 5483) (Int.le_trans (zaqc_u (c := 21) t1 q0.2 (by decide)) (by decide)) (by decide))) ?_
  refine wp_lt (fun o6 eo6 => ?_)
  have hIo6 : IvX9 o6 := by rw [eo6]; exact ibX9_3 hI_me (Int.le_trans (by decide) (zaqc_l (c := 15) t1 q0.1 (by decide))) (Int.le_trans (zaqc_u (c := 21) t1 q0.2 (by decide)) (by decide)) (Or.inr (Or.inl (zlt_k (c := 1) (Int.le_trans (by decide) (zaqc_l (c := 15) t1 q0.1 (by decide))) (by decide)))) (Or.inr (Or.inl (zlt_k (c := 2) (Int.le_trans (by decide) (zaqc_l (c := 15) t1 q0.1 (by decide))) (by decide)))) (Or.inr (Or.inl (zlt_k (c := 3) (Int.le_trans (by decide) (zaqc_l (c := 15) t1 q0.1 (by decide))) (by decide)))) (Or.inr (Or.inl (zlt_k (c := 4) (Int.le_trans (by decide) (zaqc_l (c := 15) t1 q0.1 (by decide))) (by decide)))) (Or.inr (Or.inl (zlt_k (c := 8) (Int.le_trans (by decide) (zaqc_l (c := 15) t1 q0.1 (by decide))) (by decide)))) (Or.inr (Or.inl (zlt_k (c := 15) (zaqc_l (c := 15) t1 q0.1 (by decide)) (by decide)))) (Or.inl (zlt_m (c := 21) (zaqc_u (c := 21) t1 q0.2 (by decide)) (by decide))) (Or.inl (zlt_m (c := 28) (Int.le_trans (zaqc_u (c := 21) t1 q0.2 (by decide)) (by decide)) (by decide))) (Or.inl (zlt_m (c := 70) (Int.le_trans (zaqc_u (c := 21) t1 q0.2 (by decide)) (by decide)) (by decide)))
  have hkpo6 : Kp [1, 8, 11, 13, 14, 15, 16, 18, 19, 20, 21, 23, 26, 29, 34, 38, 43, 56, 57, 58, 59, 62] [2, 4, 5, 7, 10, 12, 22, 24, 25, 27, 28, 42, 48, 50, 51, 55, 61] [(0, 1), (1, 2), (29, 36), (36, 64), (64, 71)] o_me o6 := Kp.rf.trans (by rw [eo6]; exact kp_bw (a := 2) (b := 29) (by decide) (by decide) (Int.le_trans (by decide) (zaqc_l (c := 15) t1 q0.1 (by decide))) (Int.lt_of_le_of_lt (zaqc_u (c := 21) t1 q0.2 (by decide)) (by decide)))
  refine wp_lt (fun o8 eo8 => ?_)
  have hIo8 : IvX9 o8 := by rw [eo8]; exact ibX9_3 hIo6 (by decide) (by decide) (Or.inr (Or.inl (by decide))) (Or.inr (Or.inl (by decide))) (Or.inr (Or.inl (by decide))) (Or.inr (Or.inl (by decide))) (Or.inr (Or.inr ⟨by decide, by decide⟩)) (Or.inl (by decide)) (Or.inl (by decide)) (Or.inl (by decide)) (Or.inl (by decide))
  have hkpo8 : Kp [1, 8, 11, 13, 14, 15, 16, 18, 19, 20, 21, 23, 26, 29, 34, 38, 43, 56, 57, 58, 59, 62] [2, 4, 5, 7, 10, 12, 22, 24, 25, 27, 28, 42, 48, 50, 51, 55, 61] [(0, 1), (1, 2), (29, 36), (36, 64), (64, 71)] o_me o8 := hkpo6.trans (by rw [eo8]; exact kp_bw (a := 7) (b := 8) (by decide) (by decide) (by decide) (by decide))
  refine wp_some ?_
  exact (show IvX9 o8 ∧ Kp [1, 8, 11, 13, 14, 15, 16, 18, 19, 20, 21, 23, 26, 29, 34, 38, 43, 56, 57, 58, 59, 62] [2, 4, 5, 7, 10, 12, 22, 24, 25, 27, 28, 42, 48, 50, 51, 55, 61] [(0, 1), (1, 2), (29, 36), (36, 64), (64, 71)] o_me o8 from ⟨hIo8, hkpo8⟩)

set_option maxHeartbeats 4000000 in
set_option maxRecDepth 100000 in
theorem s_X9_takeNow (o_me : Ob) (p0 : Int32) (hI_me : IvX9 o_me)  : wp (f_X9_takeNow   o_me p0) (fun (y : Int32 × Ob) => ((-3) ≤ y.1.toInt ∧ y.1.toInt ≤ 999) ∧ IvX9 y.2 ∧ Kp [1, 11, 13, 14, 15, 16, 18, 19, 20, 21, 23, 26, 29, 34, 38, 43, 56, 57, 58, 59, 62] [2, 4, 5, 10, 12, 22, 24, 25, 27, 28, 42, 48, 50, 51, 55, 61] [(0, 1), (1, 2), (29, 36), (36, 64), (64, 71)] o_me y.2) := by
  unfold f_X9_takeNow
  refine wp_bd (s_X9_isPerson   o_me p0  hI_me  ) (fun z1 hz1 => ?_)
  obtain ⟨hz1_0, hz1_1⟩ := hz1
  refine wp_if (fun c2 => ?_) (fun c2 => ?_)
  · have c2 := cv_eq (a := z1.toInt) (b := 0) rfl (by decide) c2
    refine wp_some ?_
    exact (show ((-3) ≤ (-2 : Int32).toInt ∧ (-2 : Int32).toInt ≤ 999) ∧ IvX9 o_me ∧ Kp [1, 11, 13, 14, 15, 16, 18, 19, 20, 21, 23, 26, 29, 34, 38, 43, 56, 57, 58, 59, 62] [2, 4, 5, 10, 12, 22, 24, 25, 27, 28, 42, 48, 50, 51, 55, 61] [(0, 1), (1, 2), (29, 36), (36, 64), (64, 71)] o_me o_me from ⟨⟨by decide, by decide⟩, hI_me, Kp.rf⟩)
  · have c2i := hz1_1 c2
    have t3 := iaX9_3_4 hI_me (j := (7 : Int32)) (by decide) (by decide)
    refine wp_lt (fun x4 ex4 => ?_)
    have tx4 : x4.toInt = (gA o_me 3 (7 : Int32).toNatClampNeg).toInt := by rw [ex4]
    refine wp_if (fun c5 => ?_) (fun c5 => ?_)
    · refine wp_some ?_
      exact (show ((-3) ≤ (-3 : Int32).toInt ∧ (-3 : Int32).toInt ≤ 999) ∧ IvX9 o_me ∧ Kp [1, 11, 13, 14, 15, 16, 18, 19, 20, 21, 23, 26, 29, 34, 38, 43, 56, 57, 58, 59, 62] [2, 4, 5, 10, 12, 22, 24, 25, 27, 28, 42, 48, 50, 51, 55, 61] [(0, 1), (1, 2), (29, 36), (36, 64), (64, 71)] o_me o_me from ⟨⟨by decide, by decide⟩, hI_me, Kp.rf⟩)
    · refine wp_bd (s_X9_remember   o_me (2 : Int32)  hI_me  ⟨by decide, by decide⟩) (fun z6 hz6 => ?_)
      obtain ⟨hz6_0, hz6_1⟩ := hz6
      have hkpz6_me : Kp [1, 11, 13, 14, 15, 16, 18, 19, 20, 21, 23, 26, 29, 34, 38, 43, 56, 57, 58, 59, 62] [2, 4, 5, 10, 12, 22, 24, 25, 27, 28, 42, 48, 50, 51, 55, 61] [(0, 1), (1, 2), (29, 36), (36, 64), (64, 71)] o_me z6 := Kp.rf.trans (hz6_1.mono (by decide) (by decide) (by decide))
      refine wp_bd (s_X9_takeIt   z6 p0  hz6_0  ⟨c2i.1, c2i.2⟩) (fun z8 hz8 => ?_)
      obtain ⟨hz8_0, hz8_1⟩ := hz8
      have hkpz8_me : Kp [1, 11, 13, 14, 15, 16, 18, 19, 20, 21, 23, 26, 29, 34, 38, 43, 56, 57, 58, 59, 62] [2, 4, 5, 10, 12, 22, 24, 25, 27, 28, 42, 48, 50, 51, 55, 61] [(0, 1), (1, 2), (29, 36), (36, 64), (64, 71)] o_me z8 := hkpz6_me.trans (hz8_1.mono (by decide) (by decide) (by decide))
      refine wp_some ?_
      exact (show ((-3) ≤ x4.toInt ∧ x4.toInt ≤ 999) ∧ IvX9 z8 ∧ Kp [1, 11, 13, 14, 15, 16, 18, 19, 20, 21, 23, 26, 29, 34, 38, 43, 56, 57, 58, 59, 62] [2, 4, 5, 10, 12, 22, 24, 25, 27, 28, 42, 48, 50, 51, 55, 61] [(0, 1), (1, 2), (29, 36), (36, 64), (64, 71)] o_me z8 from ⟨⟨(zl_e (zq_0 tx4.symm) t3.1 (by decide)), (zu_e (zq_0 tx4) t3.2 (by decide))⟩, hz8_0, hkpz8_me⟩)

set_option maxHeartbeats 4000000 in
set_option maxRecDepth 100000 in
theorem s_X9_hasLike (o_me : Ob) (p0 : Int32) (hI_me : IvX9 o_me) (q0 : 0 ≤ p0.toInt ∧ p0.toInt ≤ 6) : wp (f_X9_hasLike   o_me p0) (fun (y : Int32) => (0 ≤ y.toInt ∧ y.toInt ≤ 1)) := by
  unfold f_X9_hasLike
  have lp1 : ∀ (N1 : Nat) (v1_1 : Int32) (v2_1 : Int32) (v3_1 : Int32), (0 ≤ v1_1.toInt ∧ v1_1.toInt ≤ 6) → (0 ≤ v2_1.toInt ∧ v2_1.toInt ≤ 1) → (0 ≤ v3_1.toInt ∧ v3_1.toInt ≤ 6) → (6 - v3_1.toInt).toNat < N1 → wp (lp_X9_hasLike_4 o_me  N1 (v1_1, v2_1, v3_1)) (fun (y : Int32) => (0 ≤ y.toInt ∧ y.toInt ≤ 1)) := by
    intro N1
    induction N1 with
    | zero =>
      intro v1_1 v2_1 v3_1 hh1 hh2 hh3 hN1
      exact absurd hN1 (Nat.not_lt_zero _)
    | succ N1 ihx =>
      have ih1 := ihx
      intro v1_1 v2_1 v3_1 hh1 hh2 hh3 hN1
      show wp (lb_X9_hasLike_4 o_me  (lp_X9_hasLike_4 o_me  N1) v1_1 v2_1 v3_1) (fun (y : Int32) => (0 ≤ y.toInt ∧ y.toInt ≤ 1))
      unfold lb_X9_hasLike_4
      refine wp_if (fun c4 => ?_) (fun c4 => ?_)
      · have c4 := cv_ge (a := v3_1.toInt) (b := v1_1.toInt) rfl rfl c4
        refine wp_gd (zbo_of hh2.1 hh2.2) ?_
        refine wp_some ?_
        exact (show (0 ≤ v2_1.toInt ∧ v2_1.toInt ≤ 1) from ⟨hh2.1, hh2.2⟩)
      · have c4 := cv_nge (a := v3_1.toInt) (b := v1_1.toInt) rfl rfl c4
        refine wp_if (fun c5 => ?_) (fun c5 => ?_)
        · have t6 : ((8 : Int32) + v3_1).toInt = 8 + v3_1.toInt := i32_add (by decide) rfl (zk_cl hh3.1 (by decide)) (zk_cu (zu_e (k := 5) (zl_d c4) hh1.2 (by decide)) (by decide))
          refine wp_gd (zin_of (m := 5484) rfl (Int.le_trans (by decide) (zaqc_l (c := 8) t6 hh3.1 (by decide))) (zlt_m (c := 5483) (Int.le_trans (zaqc_u (c := 13) t6 (zu_e (k := 5) (zl_d c4) hh1.2 (by decide)) (by decide)) (by decide)) (by decide))) ?_
          have t8 : ((8 : Int32) + v1_1).toInt = 8 + v1_1.toInt := i32_add (by decide) rfl (zk_cl (zl_e (k := 1) (zl_d c4) hh3.1 (by decide)) (by decide)) (zk_cu hh1.2 (by decide))
          refine wp_gd (zin_of (m := 5484) rfl (Int.le_trans (by decide) (zaqc_l (c := 9) t8 (zl_e (k := 1) (zl_d c4) hh3.1 (by decide)) (by decide))) (zlt_m (c := 5483) (Int.le_trans (zaqc_u (c := 14) t8 hh1.2 (by decide)) (by decide)) (by decide))) ?_
          refine wp_if (fun c10 => ?_) (fun c10 => ?_)
          · unfold bk_X9_hasLike_34
            obtain ⟨w11, ew11⟩ : ∃ z : Int32, z = (1 : Int32) := ⟨_, rfl⟩
            have tw11 : w11.toInt = 1 := by rw [ew11]; decide
            rw [show bk_X9_hasLike_39 o_me (lp_X9_hasLike_4 o_me  N1) v1_1 v3_1 (1 : Int32) = bk_X9_hasLike_39 o_me (lp_X9_hasLike_4 o_me  N1) v1_1 v3_1 w11 from by rw [ew11]]
            unfold bk_X9_hasLike_39
            refine wp_lt (fun x12 ex12 => ?_)
            have tx12 : x12.toInt = v3_1.toInt + 1 := by rw [ex12]; exact i32_add rfl (by decide) (zk_l hh3.1 (by decide)) (zk_u (zu_e (k := 5) (zl_d c4) hh1.2 (by decide)) (by decide))
            exact ih1 v1_1 w11 x12  ⟨hh1.1, hh1.2⟩ ⟨(Int.le_trans (by decide) (Int.le_of_eq tw11.symm)), (Int.le_of_eq tw11)⟩ ⟨(zl_e (zq_r (c := (-1)) tx12 (by decide)) hh3.1 (by decide)), (zu_e (zd_e (c := 0) (Int.le_of_eq tx12) (zl_d c4) (by decide)) hh1.2 (by decide))⟩ (zms_u (c := 5) hN1 (zq_r (c := (-1)) tx12 (by decide)) (zu_e (zl_d c4) hh1.2 (by decide)) (by decide))
          · obtain ⟨w13, ew13⟩ : ∃ z : Int32, z = (0 : Int32) := ⟨_, rfl⟩
            have tw13 : w13.toInt = 0 := by rw [ew13]; decide
            rw [show bk_X9_hasLike_39 o_me (lp_X9_hasLike_4 o_me  N1) v1_1 v3_1 (0 : Int32) = bk_X9_hasLike_39 o_me (lp_X9_hasLike_4 o_me  N1) v1_1 v3_1 w13 from by rw [ew13]]
            unfold bk_X9_hasLike_39
            refine wp_lt (fun x14 ex14 => ?_)
            have tx14 : x14.toInt = v3_1.toInt + 1 := by rw [ex14]; exact i32_add rfl (by decide) (zk_l hh3.1 (by decide)) (zk_u (zu_e (k := 5) (zl_d c4) hh1.2 (by decide)) (by decide))
            exact ih1 v1_1 w13 x14  ⟨hh1.1, hh1.2⟩ ⟨(Int.le_of_eq tw13.symm), (Int.le_trans (Int.le_of_eq tw13) (by decide))⟩ ⟨(zl_e (zq_r (c := (-1)) tx14 (by decide)) hh3.1 (by decide)), (zu_e (zd_e (c := 0) (Int.le_of_eq tx14) (zl_d c4) (by decide)) hh1.2 (by decide))⟩ (zms_u (c := 5) hN1 (zq_r (c := (-1)) tx14 (by decide)) (zu_e (zl_d c4) hh1.2 (by decide)) (by decide))
        · unfold bk_X9_hasLike_34
          obtain ⟨w15, ew15⟩ : ∃ z : Int32, z = (1 : Int32) := ⟨_, rfl⟩
          have tw15 : w15.toInt = 1 := by rw [ew15]; decide
          rw [show bk_X9_hasLike_39 o_me (lp_X9_hasLike_4 o_me  N1) v1_1 v3_1 (1 : Int32) = bk_X9_hasLike_39 o_me (lp_X9_hasLike_4 o_me  N1) v1_1 v3_1 w15 from by rw [ew15]]
          unfold bk_X9_hasLike_39
          refine wp_lt (fun x16 ex16 => ?_)
          have tx16 : x16.toInt = v3_1.toInt + 1 := by rw [ex16]; exact i32_add rfl (by decide) (zk_l hh3.1 (by decide)) (zk_u (zu_e (k := 5) (zl_d c4) hh1.2 (by decide)) (by decide))
          exact ih1 v1_1 w15 x16  ⟨hh1.1, hh1.2⟩ ⟨(Int.le_trans (by decide) (Int.le_of_eq tw15.symm)), (Int.le_of_eq tw15)⟩ ⟨(zl_e (zq_r (c := (-1)) tx16 (by decide)) hh3.1 (by decide)), (zu_e (zd_e (c := 0) (Int.le_of_eq tx16) (zl_d c4) (by decide)) hh1.2 (by decide))⟩ (zms_u (c := 5) hN1 (zq_r (c := (-1)) tx16 (by decide)) (zu_e (zl_d c4) hh1.2 (by decide)) (by decide))
  exact lp1 zfu p0 (0 : Int32) (0 : Int32)  ⟨q0.1, q0.2⟩ ⟨by decide, by decide⟩ ⟨by decide, by decide⟩ (zme_u (l := 0) (Int.le_of_eq tz0.symm) (by decide))

set_option maxHeartbeats 4000000 in
set_option maxRecDepth 100000 in
theorem s_X9_passIt (o_me : Ob) (hI_me : IvX9 o_me) (q0 : 0 ≤ (gI o_me 20).toInt ∧ (gI o_me 20).toInt ≤ 0) : wp (f_X9_passIt   o_me) (fun (y : Int32 × Ob) => (0 ≤ y.1.toInt ∧ y.1.toInt ≤ 7) ∧ IvX9 y.2 ∧ Kp [1, 8, 11, 13, 14, 15, 16, 18, 19, 20, 21, 23, 26, 29, 43, 56, 57, 58, 59, 62] [2, 4, 5, 7, 10, 12, 22, 24, 25, 27, 28, 42, 48, 50, 51, 55, 61] [(0, 1), (1, 2), (29, 36), (36, 64), (64, 71)] o_me y.2) := by
  unfold f_X9_passIt
  have lp1 : ∀ (N1 : Nat) (v1_1 : Int32) (v2_1 : Int32) (o_me_1 : Ob), IvX9 o_me_1 → Kp [1, 8, 11, 13, 14, 15, 16, 18, 19, 20, 21, 23, 26, 29, 43, 56, 57, 58, 59, 62] [2, 4, 5, 7, 10, 12, 22, 24, 25, 27, 28, 42, 48, 50, 51, 55, 61] [(0, 1), (1, 2), (29, 36), (36, 64), (64, 71)] o_me o_me_1 → (0 ≤ v1_1.toInt ∧ v1_1.toInt ≤ 7) → (0 ≤ v2_1.toInt ∧ v2_1.toInt ≤ 7) → (0 ≤ (gI o_me_1 20).toInt ∧ (gI o_me_1 20).toInt ≤ 0) → (v1_1.toInt ≤ v2_1.toInt + 0) → (7 - v2_1.toInt).toNat < N1 → wp (lp_X9_passIt_4   N1 (v1_1, v2_1, o_me_1)) (fun (y : Int32 × Ob) => (0 ≤ y.1.toInt ∧ y.1.toInt ≤ 7) ∧ IvX9 y.2 ∧ Kp [1, 8, 11, 13, 14, 15, 16, 18, 19, 20, 21, 23, 26, 29, 43, 56, 57, 58, 59, 62] [2, 4, 5, 7, 10, 12, 22, 24, 25, 27, 28, 42, 48, 50, 51, 55, 61] [(0, 1), (1, 2), (29, 36), (36, 64), (64, 71)] o_me y.2) := by
    intro N1
    induction N1 with
    | zero =>
      intro v1_1 v2_1 o_me_1 hI_me_1 hkp_me_1 hh2 hh3 hh4 hh5 hN1
      exact absurd hN1 (Nat.not_lt_zero _)
    | succ N1 ihx =>
      have ih1 := ihx
      intro v1_1 v2_1 o_me_1 hI_me_1 hkp_me_1 hh2 hh3 hh4 hh5 hN1
      show wp (lb_X9_passIt_4   (lp_X9_passIt_4   N1) v1_1 v2_1 o_me_1) (fun (y : Int32 × Ob) => (0 ≤ y.1.toInt ∧ y.1.toInt ≤ 7) ∧ IvX9 y.2 ∧ Kp [1, 8, 11, 13, 14, 15, 16, 18, 19, 20, 21, 23, 26, 29, 43, 56, 57, 58, 59, 62] [2, 4, 5, 7, 10, 12, 22, 24, 25, 27, 28, 42, 48, 50, 51, 55, 61] [(0, 1), (1, 2), (29, 36), (36, 64), (64, 71)] o_me y.2)
      unfold lb_X9_passIt_4
      have t7 := iaX9_3_0 hI_me_1 (j := (0 : Int32)) (by decide) (by decide)
      refine wp_if (fun c8 => ?_) (fun c8 => ?_)
      · have c8 := cv_ge (a := v2_1.toInt) (b := (gA o_me_1 3 (0 : Int32).toNatClampNeg).toInt) rfl rfl c8
        refine wp_lt (fun o9 eo9 => ?_)
        have hIo9 : IvX9 o9 := by rw [eo9]; exact ibX9_3 hI_me_1 (by decide) (by decide) (Or.inr (Or.inl (by decide))) (Or.inr (Or.inl (by decide))) (Or.inr (Or.inl (by decide))) (Or.inr (Or.inl (by decide))) (Or.inl (by decide)) (Or.inl (by decide)) (Or.inl (by decide)) (Or.inl (by decide)) (Or.inl (by decide))
        have hkpo9 : Kp [1, 8, 11, 13, 14, 15, 16, 18, 19, 20, 21, 23, 26, 29, 43, 56, 57, 58, 59, 62] [2, 4, 5, 7, 10, 12, 22, 24, 25, 27, 28, 42, 48, 50, 51, 55, 61] [(0, 1), (1, 2), (29, 36), (36, 64), (64, 71)] o_me o9 := hkp_me_1.trans (by rw [eo9]; exact kp_bw (a := 4) (b := 5) (by decide) (by decide) (by decide) (by decide))
        refine wp_some ?_
        exact (show (0 ≤ v1_1.toInt ∧ v1_1.toInt ≤ 7) ∧ IvX9 o9 ∧ Kp [1, 8, 11, 13, 14, 15, 16, 18, 19, 20, 21, 23, 26, 29, 43, 56, 57, 58, 59, 62] [2, 4, 5, 7, 10, 12, 22, 24, 25, 27, 28, 42, 48, 50, 51, 55, 61] [(0, 1), (1, 2), (29, 36), (36, 64), (64, 71)] o_me o9 from ⟨⟨hh2.1, hh2.2⟩, hIo9, hkpo9⟩)
      · have c8 := cv_nge (a := v2_1.toInt) (b := (gA o_me_1 3 (0 : Int32).toNatClampNeg).toInt) rfl rfl c8
        refine wp_bd (s_X9_hasLike   o_me_1 v2_1  hI_me_1  ⟨hh3.1, (zu_e (zl_d c8) t7.2 (by decide))⟩) (fun z12 hz12 => ?_)
        refine wp_if (fun c13 => ?_) (fun c13 => ?_)
        · unfold bk_X9_passIt_40
          refine wp_lt (fun x14 ex14 => ?_)
          have tx14 : x14.toInt = v2_1.toInt + 1 := by rw [ex14]; exact i32_add rfl (by decide) (zk_l hh3.1 (by decide)) (zk_u (zu_e (k := 6) (zl_d c8) t7.2 (by decide)) (by decide))
          exact ih1 v1_1 x14 o_me_1 hI_me_1 hkp_me_1 ⟨hh2.1, hh2.2⟩ ⟨(zl_e (zq_r (c := (-1)) tx14 (by decide)) hh3.1 (by decide)), (zu_e (zd_e (c := 0) (Int.le_of_eq tx14) (zl_d c8) (by decide)) t7.2 (by decide))⟩ ⟨hh4.1, hh4.2⟩ (zd_w (zd_e (c := (-1)) hh5 (zq_r (c := (-1)) tx14 (by decide)) (by decide)) (by decide)) (zms_u (c := 6) hN1 (zq_r (c := (-1)) tx14 (by decide)) (zu_e (zl_d c8) t7.2 (by decide)) (by decide))
        · have t15 : ((8 : Int32) + v2_1).toInt = 8 + v2_1.toInt := i32_add (by decide) rfl (zk_cl hh3.1 (by decide)) (zk_cu (zu_e (k := 6) (zl_d c8) t7.2 (by decide)) (by decide))
          refine wp_bd (s_X9_turnsOf   o_me_1 v2_1 (0 : Int32)  hI_me_1  ⟨hh3.1, (zu_e (zl_d c8) t7.2 (by decide))⟩ ⟨by decide, by decide⟩ ⟨hh4.1, hh4.2⟩) (fun z16 hz16 => ?_)
          obtain ⟨hz16_0, hz16_1, hz16_2⟩ := hz16
          have hkpz16_me : Kp [1, 8, 11, 13, 14, 15, 16, 18, 19, 20, 21, 23, 26, 29, 43, 56, 57, 58, 59, 62] [2, 4, 5, 7, 10, 12, 22, 24, 25, 27, 28, 42, 48, 50, 51, 55, 61] [(0, 1), (1, 2), (29, 36), (36, 64), (64, 71)] o_me z16.2 := hkp_me_1.trans (hz16_2.mono (by decide) (by decide) (by decide))
          have kz16_k18 : (gI z16.2 20).toInt = (gI o_me_1 20).toInt := congrArg Int32.toInt (hz16_2.1 20 (by decide))
          refine wp_gd (zin_of (m := 5484) rfl (Int.le_trans (by decide) (zaqc_l (c := 8) t15 hh3.1 (by decide))) (zlt_m (c := 5483) (Int.le_trans (zaqc_u (c := 14) t15 (zu_e (k := 6) (zl_d c8) t7.2 (by decide)) (by decide)) (by decide)) (by decide))) ?_
          refine wp_lt (fun o19 eo19 => ?_)
          have hIo19 : IvX9 o19 := by rw [eo19]; exact ibX9_3 hz16_1 (Int.le_trans (by decide) (zaqc_l (c := 8) t15 hh3.1 (by decide))) (Int.le_trans (zaqc_u (c := 14) t15 (zu_e (k := 6) (zl_d c8) t7.2 (by decide)) (by decide)) (by decide)) (Or.inr (Or.inl (zlt_k (c := 1) (Int.le_trans (by decide) (zaqc_l (c := 8) t15 hh3.1 (by decide))) (by decide)))) (Or.inr (Or.inl (zlt_k (c := 2) (Int.le_trans (by decide) (zaqc_l (c := 8) t15 hh3.1 (by decide))) (by decide)))) (Or.inr (Or.inl (zlt_k (c := 3) (Int.le_trans (by decide) (zaqc_l (c := 8) t15 hh3.1 (by decide))) (by decide)))) (Or.inr (Or.inl (zlt_k (c := 4) (Int.le_trans (by decide) (zaqc_l (c := 8) t15 hh3.1 (by decide))) (by decide)))) (Or.inr (Or.inl (zlt_k (c := 8) (zaqc_l (c := 8) t15 hh3.1 (by decide)) (by decide)))) (Or.inr (Or.inr ⟨hz16_0.1, hz16_0.2⟩)) (Or.inl (zlt_m (c := 21) (Int.le_trans (zaqc_u (c := 14) t15 (zu_e (k := 6) (zl_d c8) t7.2 (by decide)) (by decide)) (by decide)) (by decide))) (Or.inl (zlt_m (c := 28) (Int.le_trans (zaqc_u (c := 14) t15 (zu_e (k := 6) (zl_d c8) t7.2 (by decide)) (by decide)) (by decide)) (by decide))) (Or.inl (zlt_m (c := 70) (Int.le_trans (zaqc_u (c := 14) t15 (zu_e (k := 6) (zl_d c8) t7.2 (by decide)) (by decide)) (by decide)) (by decide)))
          have ko19_k21 : (gI o19 20).toInt = (gI z16.2 20).toInt := by rw [eo19]; rfl
          have hkpo19 : Kp [1, 8, 11, 13, 14, 15, 16, 18, 19, 20, 21, 23, 26, 29, 43, 56, 57, 58, 59, 62] [2, 4, 5, 7, 10, 12, 22, 24, 25, 27, 28, 42, 48, 50, 51, 55, 61] [(0, 1), (1, 2), (29, 36), (36, 64), (64, 71)] o_me o19 := hkpz16_me.trans (by rw [eo19]; exact kp_bw (a := 2) (b := 29) (by decide) (by decide) (Int.le_trans (by decide) (zaqc_l (c := 8) t15 hh3.1 (by decide))) (Int.lt_of_le_of_lt (zaqc_u (c := 14) t15 (zu_e (k := 6) (zl_d c8) t7.2 (by decide)) (by decide)) (by decide)))
          refine wp_lt (fun x22 ex22 => ?_)
          have tx22 : x22.toInt = v1_1.toInt + 1 := by rw [ex22]; exact i32_add rfl (by decide) (zk_l hh2.1 (by decide)) (zk_u (zu_e (k := 6) (zd_e (c := (-1)) hh5 (zl_d c8) (by decide)) t7.2 (by decide)) (by decide))
          unfold bk_X9_passIt_40
          refine wp_lt (fun x23 ex23 => ?_)
          have tx23 : x23.toInt = v2_1.toInt + 1 := by rw [ex23]; exact i32_add rfl (by decide) (zk_l hh3.1 (by decide)) (zk_u (zu_e (k := 6) (zl_d c8) t7.2 (by decide)) (by decide))
          exact ih1 x22 x23 o19 hIo19 hkpo19 ⟨(zl_e (zq_r (c := (-1)) tx22 (by decide)) hh2.1 (by decide)), (zu_e (zd_e (c := 0) (zd_e (c := 1) (Int.le_of_eq tx22) hh5 (by decide)) (zl_d c8) (by decide)) t7.2 (by decide))⟩ ⟨(zl_e (zq_r (c := (-1)) tx23 (by decide)) hh3.1 (by decide)), (zu_e (zd_e (c := 0) (Int.le_of_eq tx23) (zl_d c8) (by decide)) t7.2 (by decide))⟩ ⟨(zl_e (zd_e (c := 0) (zq_0 kz16_k18.symm) (zq_0 ko19_k21.symm) (by decide)) hh4.1 (by decide)), (zu_e (zd_e (c := 0) (zq_0 ko19_k21) (zq_0 kz16_k18) (by decide)) hh4.2 (by decide))⟩ (zd_e (c := 0) (zd_e (c := 1) (Int.le_of_eq tx22) hh5 (by decide)) (zq_r (c := (-1)) tx23 (by decide)) (by decide)) (zms_u (c := 6) hN1 (zq_r (c := (-1)) tx23 (by decide)) (zu_e (zl_d c8) t7.2 (by decide)) (by decide))
  exact lp1 zfu (0 : Int32) (0 : Int32) o_me hI_me Kp.rf ⟨by decide, by decide⟩ ⟨by decide, by decide⟩ ⟨q0.1, q0.2⟩ (zd_r (by decide)) (zme_u (l := 0) (Int.le_of_eq tz0.symm) (by decide))

set_option maxHeartbeats 4000000 in
set_option maxRecDepth 100000 in
theorem s_X9_passNow (o_me : Ob) (hI_me : IvX9 o_me) (q0 : 0 ≤ (gI o_me 20).toInt ∧ (gI o_me 20).toInt ≤ 0) : wp (f_X9_passNow   o_me) (fun (y : Int32 × Ob) => ((-3) ≤ y.1.toInt ∧ y.1.toInt ≤ 7) ∧ IvX9 y.2 ∧ Kp [1, 11, 13, 14, 15, 16, 18, 19, 20, 21, 23, 26, 29, 43, 56, 57, 58, 59, 62] [2, 4, 5, 10, 12, 22, 24, 25, 27, 28, 42, 48, 50, 51, 55, 61] [(0, 1), (1, 2), (29, 36), (36, 64), (64, 71)] o_me y.2) := by
  unfold f_X9_passNow
  refine wp_if (fun c1 => ?_) (fun c1 => ?_)
  · refine wp_some ?_
    exact (show ((-3) ≤ (-3 : Int32).toInt ∧ (-3 : Int32).toInt ≤ 7) ∧ IvX9 o_me ∧ Kp [1, 11, 13, 14, 15, 16, 18, 19, 20, 21, 23, 26, 29, 43, 56, 57, 58, 59, 62] [2, 4, 5, 10, 12, 22, 24, 25, 27, 28, 42, 48, 50, 51, 55, 61] [(0, 1), (1, 2), (29, 36), (36, 64), (64, 71)] o_me o_me from ⟨⟨by decide, by decide⟩, hI_me, Kp.rf⟩)
  · refine wp_bd (s_X9_remember   o_me (3 : Int32)  hI_me  ⟨by decide, by decide⟩) (fun z2 hz2 => ?_)
    obtain ⟨hz2_0, hz2_1⟩ := hz2
    have hkpz2_me : Kp [1, 11, 13, 14, 15, 16, 18, 19, 20, 21, 23, 26, 29, 43, 56, 57, 58, 59, 62] [2, 4, 5, 10, 12, 22, 24, 25, 27, 28, 42, 48, 50, 51, 55, 61] [(0, 1), (1, 2), (29, 36), (36, 64), (64, 71)] o_me z2 := Kp.rf.trans (hz2_1.mono (by decide) (by decide) (by decide))
    have kz2_k4 : (gI z2 20).toInt = (gI o_me 20).toInt := congrArg Int32.toInt (hz2_1.1 20 (by decide))
    refine wp_bd (s_X9_passIt   z2  hz2_0  ⟨(zl_e (zq_0 kz2_k4.symm) q0.1 (by decide)), (zu_e (zq_0 kz2_k4) q0.2 (by decide))⟩) (fun z5 hz5 => ?_)
    obtain ⟨hz5_0, hz5_1, hz5_2⟩ := hz5
    have hkpz5_me : Kp [1, 11, 13, 14, 15, 16, 18, 19, 20, 21, 23, 26, 29, 43, 56, 57, 58, 59, 62] [2, 4, 5, 10, 12, 22, 24, 25, 27, 28, 42, 48, 50, 51, 55, 61] [(0, 1), (1, 2), (29, 36), (36, 64), (64, 71)] o_me z5.2 := hkpz2_me.trans (hz5_2.mono (by decide) (by decide) (by decide))
    refine wp_some ?_
    exact (show ((-3) ≤ z5.1.toInt ∧ z5.1.toInt ≤ 7) ∧ IvX9 z5.2 ∧ Kp [1, 11, 13, 14, 15, 16, 18, 19, 20, 21, 23, 26, 29, 43, 56, 57, 58, 59, 62] [2, 4, 5, 10, 12, 22, 24, 25, 27, 28, 42, 48, 50, 51, 55, 61] [(0, 1), (1, 2), (29, 36), (36, 64), (64, 71)] o_me z5.2 from ⟨⟨(Int.le_trans (by decide) hz5_0.1), hz5_0.2⟩, hz5_1, hkpz5_me⟩)

set_option maxHeartbeats 4000000 in
set_option maxRecDepth 100000 in
theorem s_X9_act (o_me : Ob) (p0 : Int32) (p1 : Int32) (hI_me : IvX9 o_me) (q0 : 0 ≤ (gI o_me 20).toInt ∧ (gI o_me 20).toInt ≤ 0) : wp (f_X9_act   o_me p0 p1) (fun (y : Int32 × Ob) => ((-3) ≤ y.1.toInt ∧ y.1.toInt ≤ 999) ∧ IvX9 y.2 ∧ Kp [1, 11, 13, 14, 15, 16, 18, 19, 20, 21, 23, 26, 29, 56, 57, 58, 59, 62] [2, 4, 5, 10, 12, 22, 24, 25, 27, 28, 48, 50, 51, 55, 61] [(0, 1), (1, 2), (29, 36), (36, 64), (64, 71)] o_me y.2) := by
  unfold f_X9_act
  refine wp_if (fun c1 => ?_) (fun c1 => ?_)
  · refine wp_bd (s_X9_raceNow   o_me p1  hI_me  ⟨q0.1, q0.2⟩) (fun z2 hz2 => ?_)
    obtain ⟨hz2_0, hz2_1, hz2_2⟩ := hz2
    have hkpz2_me : Kp [1, 11, 13, 14, 15, 16, 18, 19, 20, 21, 23, 26, 29, 56, 57, 58, 59, 62] [2, 4, 5, 10, 12, 22, 24, 25, 27, 28, 48, 50, 51, 55, 61] [(0, 1), (1, 2), (29, 36), (36, 64), (64, 71)] o_me z2.2 := Kp.rf.trans (hz2_2.mono (by decide) (by decide) (by decide))
    refine wp_some ?_
    exact (show ((-3) ≤ z2.1.toInt ∧ z2.1.toInt ≤ 999) ∧ IvX9 z2.2 ∧ Kp [1, 11, 13, 14, 15, 16, 18, 19, 20, 21, 23, 26, 29, 56, 57, 58, 59, 62] [2, 4, 5, 10, 12, 22, 24, 25, 27, 28, 48, 50, 51, 55, 61] [(0, 1), (1, 2), (29, 36), (36, 64), (64, 71)] o_me z2.2 from ⟨⟨hz2_0.1, (Int.le_trans hz2_0.2 (by decide))⟩, hz2_1, hkpz2_me⟩)
  refine wp_if (fun c4 => ?_) (fun c4 => ?_)
  · refine wp_bd (s_X9_enterNow   o_me p1  hI_me  ⟨q0.1, q0.2⟩) (fun z5 hz5 => ?_)
    obtain ⟨hz5_0, hz5_1, hz5_2⟩ := hz5
    have hkpz5_me : Kp [1, 11, 13, 14, 15, 16, 18, 19, 20, 21, 23, 26, 29, 56, 57, 58, 59, 62] [2, 4, 5, 10, 12, 22, 24, 25, 27, 28, 48, 50, 51, 55, 61] [(0, 1), (1, 2), (29, 36), (36, 64), (64, 71)] o_me z5.2 := Kp.rf.trans (hz5_2.mono (by decide) (by decide) (by decide))
    refine wp_some ?_
    exact (show ((-3) ≤ z5.1.toInt ∧ z5.1.toInt ≤ 999) ∧ IvX9 z5.2 ∧ Kp [1, 11, 13, 14, 15, 16, 18, 19, 20, 21, 23, 26, 29, 56, 57, 58, 59, 62] [2, 4, 5, 10, 12, 22, 24, 25, 27, 28, 48, 50, 51, 55, 61] [(0, 1), (1, 2), (29, 36), (36, 64), (64, 71)] o_me z5.2 from ⟨⟨(Int.le_trans (by decide) hz5_0.1), (Int.le_trans hz5_0.2 (by decide))⟩, hz5_1, hkpz5_me⟩)
  refine wp_if (fun c7 => ?_) (fun c7 => ?_)
  · refine wp_bd (s_X9_takeNow   o_me p1  hI_me  ) (fun z8 hz8 => ?_)
    obtain ⟨hz8_0, hz8_1, hz8_2⟩ := hz8
    have hkpz8_me : Kp [1, 11, 13, 14, 15, 16, 18, 19, 20, 21, 23, 26, 29, 56, 57, 58, 59, 62] [2, 4, 5, 10, 12, 22, 24, 25, 27, 28, 48, 50, 51, 55, 61] [(0, 1), (1, 2), (29, 36), (36, 64), (64, 71)] o_me z8.2 := Kp.rf.trans (hz8_2.mono (by decide) (by decide) (by decide))
    refine wp_some ?_
    exact (show ((-3) ≤ z8.1.toInt ∧ z8.1.toInt ≤ 999) ∧ IvX9 z8.2 ∧ Kp [1, 11, 13, 14, 15, 16, 18, 19, 20, 21, 23, 26, 29, 56, 57, 58, 59, 62] [2, 4, 5, 10, 12, 22, 24, 25, 27, 28, 48, 50, 51, 55, 61] [(0, 1), (1, 2), (29, 36), (36, 64), (64, 71)] o_me z8.2 from ⟨⟨hz8_0.1, hz8_0.2⟩, hz8_1, hkpz8_me⟩)
  refine wp_bd (s_X9_passNow   o_me  hI_me  ⟨q0.1, q0.2⟩) (fun z10 hz10 => ?_)
  obtain ⟨hz10_0, hz10_1, hz10_2⟩ := hz10
  have hkpz10_me : Kp [1, 11, 13, 14, 15, 16, 18, 19, 20, 21, 23, 26, 29, 56, 57, 58, 59, 62] [2, 4, 5, 10, 12, 22, 24, 25, 27, 28, 48, 50, 51, 55, 61] [(0, 1), (1, 2), (29, 36), (36, 64), (64, 71)] o_me z10.2 := Kp.rf.trans (hz10_2.mono (by decide) (by decide) (by decide))
  refine wp_some ?_
  exact (show ((-3) ≤ z10.1.toInt ∧ z10.1.toInt ≤ 999) ∧ IvX9 z10.2 ∧ Kp [1, 11, 13, 14, 15, 16, 18, 19, 20, 21, 23, 26, 29, 56, 57, 58, 59, 62] [2, 4, 5, 10, 12, 22, 24, 25, 27, 28, 48, 50, 51, 55, 61] [(0, 1), (1, 2), (29, 36), (36, 64), (64, 71)] o_me z10.2 from ⟨⟨hz10_0.1, (Int.le_trans hz10_0.2 (by decide))⟩, hz10_1, hkpz10_me⟩)

set_option maxHeartbeats 4000000 in
set_option maxRecDepth 100000 in
theorem s_X9_tell (o_me : Ob) (p0 : Int32) (hI_me : IvX9 o_me) (q0 : (-6) ≤ p0.toInt ∧ p0.toInt ≤ 2147483647) : wp (f_X9_tell   o_me p0) (fun (y : Int32 × Ob) => ((-6) ≤ y.1.toInt ∧ y.1.toInt ≤ 2147483647) ∧ IvX9 y.2 ∧ Kp [8, 11, 13, 14, 15, 16, 18, 19, 20, 21, 23, 26, 29, 34, 38, 43, 56, 57, 58, 59, 62] [3, 4, 5, 7, 10, 12, 22, 24, 25, 27, 28, 42, 48, 50, 51, 55, 61] [(0, 1), (1, 2), (29, 36), (36, 64), (64, 71)] o_me y.2) := by
  have li0 : (0 : Int32).toInt = 0 := by decide
  have li1 : (1 : Int32).toInt = 1 := by decide
  unfold f_X9_tell
  refine wp_if (fun c1 => ?_) (fun c1 => ?_)
  · have c1 := cv_ge (a := p0.toInt) (b := 0) rfl (by decide) c1
    obtain ⟨w2, ew2⟩ : ∃ z : Int32, z = (0 : Int32) := ⟨_, rfl⟩
    have tw2 : w2.toInt = 0 := by rw [ew2]; decide
    rw [show bk_X9_tell_10   p0 (0 : Int32) o_me = bk_X9_tell_10   p0 w2 o_me from by rw [ew2]]
    unfold bk_X9_tell_10
    refine wp_lt (fun o3 eo3 => ?_)
    have hIo3 : IvX9 o3 := by rw [eo3]; exact hI_me
    have ko3_v : (gI o3 1).toInt = w2.toInt := by rw [eo3]; rfl
    have hkpo3 : Kp [8, 11, 13, 14, 15, 16, 18, 19, 20, 21, 23, 26, 29, 34, 38, 43, 56, 57, 58, 59, 62] [3, 4, 5, 7, 10, 12, 22, 24, 25, 27, 28, 42, 48, 50, 51, 55, 61] [(0, 1), (1, 2), (29, 36), (36, 64), (64, 71)] o_me o3 := Kp.rf.trans (by rw [eo3]; exact Kp.sI (by decide))
    refine wp_if (fun c4 => ?_) (fun c4 => ?_)
    · have c4 := cv_ge (a := p0.toInt) (b := 0) rfl (by decide) c4
      refine wp_some ?_
      have rg5 := i32_rg p0
      exact (show ((-6) ≤ p0.toInt ∧ p0.toInt ≤ 2147483647) ∧ IvX9 o3 ∧ Kp [8, 11, 13, 14, 15, 16, 18, 19, 20, 21, 23, 26, 29, 34, 38, 43, 56, 57, 58, 59, 62] [3, 4, 5, 7, 10, 12, 22, 24, 25, 27, 28, 42, 48, 50, 51, 55, 61] [(0, 1), (1, 2), (29, 36), (36, 64), (64, 71)] o_me o3 from ⟨⟨q0.1, q0.2⟩, hIo3, hkpo3⟩)
    · have c4 := cv_nge (a := p0.toInt) (b := 0) rfl (by decide) c4
      exact absurd c4 (Int.not_lt.mpr c1)
  · have c1 := cv_nge (a := p0.toInt) (b := 0) rfl (by decide) c1
    unfold bk_X9_tell_10
    refine wp_lt (fun o6 eo6 => ?_)
    have hIo6 : IvX9 o6 := by rw [eo6]; exact hI_me
    have ko6_v : (gI o6 1).toInt = p0.toInt := by rw [eo6]; rfl
    have hkpo6 : Kp [8, 11, 13, 14, 15, 16, 18, 19, 20, 21, 23, 26, 29, 34, 38, 43, 56, 57, 58, 59, 62] [3, 4, 5, 7, 10, 12, 22, 24, 25, 27, 28, 42, 48, 50, 51, 55, 61] [(0, 1), (1, 2), (29, 36), (36, 64), (64, 71)] o_me o6 := Kp.rf.trans (by rw [eo6]; exact Kp.sI (by decide))
    refine wp_if (fun c7 => ?_) (fun c7 => ?_)
    · have c7 := cv_ge (a := p0.toInt) (b := 0) rfl (by decide) c7
      exact absurd c7 (Int.not_le.mpr (zlt_m (c := (-1)) (zlt_u (c := (-1)) c1 (by decide)) (by decide)))
    · have c7 := cv_nge (a := p0.toInt) (b := 0) rfl (by decide) c7
      have t8 : (-p0).toInt = -p0.toInt := i32_neg rfl (by omega) (by omega)
      refine wp_lt (fun x9 ex9 => ?_)
      have tx9 : x9.toInt = (-p0).toInt := by rw [ex9]
      refine wp_gd (zin_of (m := 7) rfl (by omega) (by omega)) ?_
      refine wp_gd (zin_of (m := 7) rfl (by omega) (by omega)) ?_
      refine wp_lt (fun o10 eo10 => ?_)
      have hIo10 : IvX9 o10 := by rw [eo10]; exact hIo6
      have ko10_k11 : (gI o10 1).toInt = (gI o6 1).toInt := by rw [eo10]; rfl
      have ko10_v : (gA o10 2 x9.toNatClampNeg).toInt = ((gA o6 2 x9.toNatClampNeg) + (1 : Int32)).toInt := by rw [eo10]; exact congrArg Int32.toInt (upd_eq (g := gA o6 2) (i := x9) (v := ((gA o6 2 x9.toNatClampNeg) + (1 : Int32))))
      have hkpo10 : Kp [8, 11, 13, 14, 15, 16, 18, 19, 20, 21, 23, 26, 29, 34, 38, 43, 56, 57, 58, 59, 62] [3, 4, 5, 7, 10, 12, 22, 24, 25, 27, 28, 42, 48, 50, 51, 55, 61] [(0, 1), (1, 2), (29, 36), (36, 64), (64, 71)] o_me o10 := hkpo6.trans (by rw [eo10]; exact Kp.tA (by decide) (by decide))
      refine wp_some ?_
      have rg12 := i32_rg p0
      exact (show ((-6) ≤ p0.toInt ∧ p0.toInt ≤ 2147483647) ∧ IvX9 o10 ∧ Kp [8, 11, 13, 14, 15, 16, 18, 19, 20, 21, 23, 26, 29, 34, 38, 43, 56, 57, 58, 59, 62] [3, 4, 5, 7, 10, 12, 22, 24, 25, 27, 28, 42, 48, 50, 51, 55, 61] [(0, 1), (1, 2), (29, 36), (36, 64), (64, 71)] o_me o10 from ⟨⟨q0.1, q0.2⟩, hIo10, hkpo10⟩)

