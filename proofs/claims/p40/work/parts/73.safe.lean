set_option maxHeartbeats 4000000 in
set_option maxRecDepth 100000 in
theorem s_X9_settled (o_me : Ob) (p0 : Int32) (hI_me : IvX9 o_me) (q0 : (-6) ≤ p0.toInt ∧ p0.toInt ≤ 2147483647) : wp (f_X9_settled   o_me p0) (fun (y : Int32 × Ob) => ((-6) ≤ y.1.toInt ∧ y.1.toInt ≤ 2147483647) ∧ IvX9 y.2 ∧ Kp [11, 13, 14, 15, 16, 18, 19, 20, 21, 23, 26, 29, 34, 38, 43, 56, 57, 58, 59, 62] [3, 4, 5, 7, 10, 12, 22, 24, 25, 27, 28, 42, 48, 50, 51, 55, 61] [(0, 1), (1, 2), (29, 36), (36, 64), (64, 71)] o_me y.2) := by
  unfold f_X9_settled
  refine wp_if (fun c1 => ?_) (fun c1 => ?_)
  · obtain ⟨w2, ew2⟩ : ∃ z : Int32, z = (0 : Int32) := ⟨_, rfl⟩
    have tw2 : w2.toInt = 0 := by rw [ew2]; decide
    rw [show bk_X9_settled_13   p0 (0 : Int32) o_me = bk_X9_settled_13   p0 w2 o_me from by rw [ew2]]
    unfold bk_X9_settled_13
    refine wp_lt (fun o3 eo3 => ?_)
    have hIo3 : IvX9 o3 := by rw [eo3]; exact ipX9_8 hI_me ⟨(Int.le_of_eq tw2.symm), (Int.le_trans (Int.le_of_eq tw2) (by decide))⟩
    have hkpo3 : Kp [11, 13, 14, 15, 16, 18, 19, 20, 21, 23, 26, 29, 34, 38, 43, 56, 57, 58, 59, 62] [3, 4, 5, 7, 10, 12, 22, 24, 25, 27, 28, 42, 48, 50, 51, 55, 61] [(0, 1), (1, 2), (29, 36), (36, 64), (64, 71)] o_me o3 := Kp.rf.trans (by rw [eo3]; exact Kp.sI (by decide))
    refine wp_bd (s_X9_tell   o3 p0  hIo3  ⟨q0.1, q0.2⟩) (fun z4 hz4 => ?_)
    obtain ⟨hz4_0, hz4_1, hz4_2⟩ := hz4
    have hkpz4_me : Kp [11, 13, 14, 15, 16, 18, 19, 20, 21, 23, 26, 29, 34, 38, 43, 56, 57, 58, 59, 62] [3, 4, 5, 7, 10, 12, 22, 24, 25, 27, 28, 42, 48, 50, 51, 55, 61] [(0, 1), (1, 2), (29, 36), (36, 64), (64, 71)] o_me z4.2 := hkpo3.trans (hz4_2.mono (by decide) (by decide) (by decide))
    refine wp_some ?_
    exact (show ((-6) ≤ z4.1.toInt ∧ z4.1.toInt ≤ 2147483647) ∧ IvX9 z4.2 ∧ Kp [11, 13, 14, 15, 16, 18, 19, 20, 21, 23, 26, 29, 34, 38, 43, 56, 57, 58, 59, 62] [3, 4, 5, 7, 10, 12, 22, 24, 25, 27, 28, 42, 48, 50, 51, 55, 61] [(0, 1), (1, 2), (29, 36), (36, 64), (64, 71)] o_me z4.2 from ⟨⟨hz4_0.1, hz4_0.2⟩, hz4_1, hkpz4_me⟩)
  · have t8 := igX9_8 hI_me
    obtain ⟨w9, ew9⟩ : ∃ z : Int32, z = gI o_me 8 := ⟨_, rfl⟩
    have tw9 : w9.toInt = (gI o_me 8).toInt := by rw [ew9]
    rw [show bk_X9_settled_13   p0 (gI o_me 8) o_me = bk_X9_settled_13   p0 w9 o_me from by rw [ew9]]
    unfold bk_X9_settled_13
    refine wp_lt (fun o10 eo10 => ?_)
    have hIo10 : IvX9 o10 := by rw [eo10]; exact ipX9_8 hI_me ⟨(zl_e (zq_0 tw9.symm) t8.1 (by decide)), (zu_e (zq_0 tw9) t8.2 (by decide))⟩
    have hkpo10 : Kp [11, 13, 14, 15, 16, 18, 19, 20, 21, 23, 26, 29, 34, 38, 43, 56, 57, 58, 59, 62] [3, 4, 5, 7, 10, 12, 22, 24, 25, 27, 28, 42, 48, 50, 51, 55, 61] [(0, 1), (1, 2), (29, 36), (36, 64), (64, 71)] o_me o10 := Kp.rf.trans (by rw [eo10]; exact Kp.sI (by decide))
    refine wp_bd (s_X9_tell   o10 p0  hIo10  ⟨q0.1, q0.2⟩) (fun z11 hz11 => ?_)
    obtain ⟨hz11_0, hz11_1, hz11_2⟩ := hz11
    have hkpz11_me : Kp [11, 13, 14, 15, 16, 18, 19, 20, 21, 23, 26, 29, 34, 38, 43, 56, 57, 58, 59, 62] [3, 4, 5, 7, 10, 12, 22, 24, 25, 27, 28, 42, 48, 50, 51, 55, 61] [(0, 1), (1, 2), (29, 36), (36, 64), (64, 71)] o_me z11.2 := hkpo10.trans (hz11_2.mono (by decide) (by decide) (by decide))
    refine wp_some ?_
    exact (show ((-6) ≤ z11.1.toInt ∧ z11.1.toInt ≤ 2147483647) ∧ IvX9 z11.2 ∧ Kp [11, 13, 14, 15, 16, 18, 19, 20, 21, 23, 26, 29, 34, 38, 43, 56, 57, 58, 59, 62] [3, 4, 5, 7, 10, 12, 22, 24, 25, 27, 28, 42, 48, 50, 51, 55, 61] [(0, 1), (1, 2), (29, 36), (36, 64), (64, 71)] o_me z11.2 from ⟨⟨hz11_0.1, hz11_0.2⟩, hz11_1, hkpz11_me⟩)

theorem h_bck (o0 : Ob) (hI0 : IvX9 o0) (k : Nat) (hk : k < 2) :
    ∀ (N : Nat) (v1 v2 : Int32) (o : Ob) (n : Nat), v1.toInt = (k : Int) → v2.toInt = (n : Int) → n ≤ 5484 → (∀ i, gI o i = gI o0 i) → gL o 60 = gL o0 60 → (∀ i, i ≠ 3 → gA o i = gA o0 i) → (∀ i, i < n → gA o 3 i = gA o0 4 (5484 * k + i)) → 5484 < N + n → wp (lp_X9_back_39 N (v1, v2, o)) (fun y => IvX9 y.2 ∧ Kp [11, 13, 14, 15, 16, 18, 19, 20, 21, 23, 26, 29, 34, 38, 43, 56, 57, 58, 59, 62] [4, 5, 7, 10, 12, 22, 24, 25, 27, 28, 42, 48, 50, 51, 55, 61] [] o0 y.2) := by
  intro N
  induction N with
  | zero => intro v1 v2 o n _ _ _ _ _ _ _ _; exfalso; omega
  | succ N ih =>
    intro v1 v2 o n e1 e2 hn hI hL hA hp hN
    show wp (lb_X9_back_39 (lp_X9_back_39 N) v1 v2 o) _
    unfold lb_X9_back_39
    refine wp_if (fun c => ?_) (fun c => ?_)
    · have c := cv_le (a := 5484) (b := v2.toInt) (by decide) rfl c
      have hb := EX9.bck (row' := gA o 3) hk (h9last hI0).1 (fun i hi => hp i (by omega))
      have hIo : IvX9 o := by
        refine ivX9_of hI0 hI hL (fun i h3 _ => hA i h3) hb.2 ?_
        rw [hA 4 (by decide), hA 6 (by decide), hA 9 (by decide)]
        exact hb.1
      have hKo : Kp [11, 13, 14, 15, 16, 18, 19, 20, 21, 23, 26, 29, 34, 38, 43, 56, 57, 58, 59, 62] [4, 5, 7, 10, 12, 22, 24, 25, 27, 28, 42, 48, 50, 51, 55, 61] [] o0 o := ⟨fun i _ => hI i, fun i hi => hA i (fun e => by subst e; revert hi; decide), fun c hc => absurd hc List.not_mem_nil⟩
      refine wp_bd (s_X9_settled o 0 hIo ⟨by decide, by decide⟩) (fun z hz => ?_)
      exact wp_some ⟨hz.2.1, hKo.trans (hz.2.2.mono (by decide) (by decide) (by decide))⟩
    · have c := cv_nle (a := 5484) (b := v2.toInt) (by decide) rfl c
      have m1 : ((5484 : Int32) * v1).toInt = 5484 * (k : Int) := i32_mul (by decide) e1 (by omega) (by omega)
      have m2 : (((5484 : Int32) * v1) + v2).toInt = 5484 * (k : Int) + (n : Int) := i32_add m1 e2 (by omega) (by omega)
      have n1 : (((5484 : Int32) * v1) + v2).toNatClampNeg = 5484 * k + n := tnc_eq (by omega)
      have n2 : v2.toNatClampNeg = n := tnc_eq e2
      refine wp_gd (zin_of (m := 10968) rfl (by omega) (by omega)) ?_
      refine wp_gd (zin_of (m := 5484) rfl (by omega) (by omega)) ?_
      rw [n1, n2]
      refine wp_lt (fun o7 e7 => ?_)
      refine wp_lt (fun x8 e8 => ?_)
      have t8 : x8.toInt = (n : Int) + 1 := by rw [e8]; exact i32_add e2 (by decide) (by omega) (by omega)
      have a3 : ∀ j, gA o7 3 j = if j = n then gA o0 4 (5484 * k + n) else gA o 3 j := by
        intro j
        rw [e7]
        show (if j = n then gA o 4 (5484 * k + n) else gA o 3 j) = _
        rw [hA 4 (by decide)]
      refine ih v1 x8 o7 (n + 1) e1 (by omega) (by omega) (fun i => by rw [e7]; exact hI i) (by rw [e7]; exact hL) (fun i hi => ?_) (fun i hi => ?_) (by omega)
      · rw [e7]; exact (fset_ne hi).trans (hA i hi)
      · rw [a3]
        by_cases e : i = n
        · subst e; rw [if_pos rfl]
        · rw [if_neg (by omega)]; exact hp i (by omega)
set_option maxHeartbeats 4000000 in
set_option maxRecDepth 100000 in
theorem s_X9_back (o_me : Ob) (p0 : Int32) (hI_me : IvX9 o_me)  : wp (f_X9_back   o_me p0) (fun (y : Int32 × Ob) => IvX9 y.2 ∧ Kp [11, 13, 14, 15, 16, 18, 19, 20, 21, 23, 26, 29, 34, 38, 43, 56, 57, 58, 59, 62] [4, 5, 7, 10, 12, 22, 24, 25, 27, 28, 42, 48, 50, 51, 55, 61] [] o_me y.2) := by
  unfold f_X9_back
  refine wp_lt (fun o1 e1 => ?_)
  have hI1 : IvX9 o1 := by rw [e1]; exact hI_me
  have hK1 : Kp [11, 13, 14, 15, 16, 18, 19, 20, 21, 23, 26, 29, 34, 38, 43, 56, 57, 58, 59, 62] [4, 5, 7, 10, 12, 22, 24, 25, 27, 28, 42, 48, 50, 51, 55, 61] [] o_me o1 := by rw [e1]; exact Kp.sI (by decide)
  refine wp_bd (s_X9_in _ _ _) (fun z2 hz2 => ?_)
  refine wp_if (fun c => ?_) (fun c => ?_)
  · refine wp_bd (s_X9_tell o1 (-1) hI1 ⟨by decide, by decide⟩) (fun z hz => ?_)
    exact wp_some ⟨hz.2.1, hK1.trans (hz.2.2.mono (by decide) (by decide) (by decide))⟩
  · have r := hz2.2 c
    have l0 : (0 : Int64).toInt = 0 := by decide
    have l1 : (1 : Int64).toInt = 1 := by decide
    have ep := Int32.toInt_toInt64 p0
    refine wp_gd (zin_of (m := 2) rfl (by omega) (by omega)) ?_
    refine wp_if (fun c => ?_) (fun c => ?_)
    · refine wp_bd (s_X9_tell o1 (-2) hI1 ⟨by decide, by decide⟩) (fun z hz => ?_)
      exact wp_some ⟨hz.2.1, hK1.trans (hz.2.2.mono (by decide) (by decide) (by decide))⟩
    · refine wp_mono (h_bck o1 hI1 p0.toInt.toNat (by omega) zfu p0 0 o1 0 (by omega) (by decide) (by omega) (fun _ => rfl) rfl (fun _ _ => rfl) (fun i hi => absurd hi (Nat.not_lt_zero _)) (by show 5484 < 100000 + 0; omega)) (fun y hy => ⟨hy.1, hK1.trans hy.2⟩)

set_option maxHeartbeats 4000000 in
set_option maxRecDepth 100000 in
theorem s_X9_layRuns (o_me : Ob) (p0 : Int32) (hI_me : IvX9 o_me) (q0 : 0 ≤ p0.toInt ∧ p0.toInt ≤ 3) (q1 : 0 ≤ (gI o_me 20).toInt ∧ (gI o_me 20).toInt ≤ 0) : wp (f_X9_layRuns   o_me p0) (fun (y : Ob) => IvX9 y ∧ Kp [1, 8, 11, 13, 14, 15, 16, 18, 19, 20, 21, 23, 26, 29, 43, 56, 57, 58, 59, 62] [2, 3, 4, 5, 7, 10, 12, 22, 24, 25, 27, 28, 42, 48, 50, 51, 55, 61] [(0, 1), (1, 2), (29, 36), (36, 64), (64, 71)] o_me y) := by
  unfold f_X9_layRuns
  have lp1 : ∀ (N1 : Nat) (v1_1 : Int32) (v2_1 : Int32) (o_me_1 : Ob), IvX9 o_me_1 → Kp [1, 8, 11, 13, 14, 15, 16, 18, 19, 20, 21, 23, 26, 29, 43, 56, 57, 58, 59, 62] [2, 3, 4, 5, 7, 10, 12, 22, 24, 25, 27, 28, 42, 48, 50, 51, 55, 61] [(0, 1), (1, 2), (29, 36), (36, 64), (64, 71)] o_me o_me_1 → (0 ≤ v1_1.toInt ∧ v1_1.toInt ≤ 3) → (0 ≤ v2_1.toInt ∧ v2_1.toInt ≤ 7) → (0 ≤ (gI o_me_1 20).toInt ∧ (gI o_me_1 20).toInt ≤ 0) → (7 - v2_1.toInt).toNat < N1 → wp (lp_X9_layRuns_2   N1 (v1_1, v2_1, o_me_1)) (fun (y : Ob) => IvX9 y ∧ Kp [1, 8, 11, 13, 14, 15, 16, 18, 19, 20, 21, 23, 26, 29, 43, 56, 57, 58, 59, 62] [2, 3, 4, 5, 7, 10, 12, 22, 24, 25, 27, 28, 42, 48, 50, 51, 55, 61] [(0, 1), (1, 2), (29, 36), (36, 64), (64, 71)] o_me y) := by
    intro N1
    induction N1 with
    | zero =>
      intro v1_1 v2_1 o_me_1 hI_me_1 hkp_me_1 hh2 hh3 hh4 hN1
      exact absurd hN1 (Nat.not_lt_zero _)
    | succ N1 ihx =>
      have ih1 := ihx
      intro v1_1 v2_1 o_me_1 hI_me_1 hkp_me_1 hh2 hh3 hh4 hN1
      show wp (lb_X9_layRuns_2   (lp_X9_layRuns_2   N1) v1_1 v2_1 o_me_1) (fun (y : Ob) => IvX9 y ∧ Kp [1, 8, 11, 13, 14, 15, 16, 18, 19, 20, 21, 23, 26, 29, 43, 56, 57, 58, 59, 62] [2, 3, 4, 5, 7, 10, 12, 22, 24, 25, 27, 28, 42, 48, 50, 51, 55, 61] [(0, 1), (1, 2), (29, 36), (36, 64), (64, 71)] o_me y)
      unfold lb_X9_layRuns_2
      have t6 := iaX9_3_0 hI_me_1 (j := (0 : Int32)) (by decide) (by decide)
      refine wp_if (fun c7 => ?_) (fun c7 => ?_)
      · have c7 := cv_ge (a := v2_1.toInt) (b := (gA o_me_1 3 (0 : Int32).toNatClampNeg).toInt) rfl rfl c7
        refine wp_some ?_
        exact (show IvX9 o_me_1 ∧ Kp [1, 8, 11, 13, 14, 15, 16, 18, 19, 20, 21, 23, 26, 29, 43, 56, 57, 58, 59, 62] [2, 3, 4, 5, 7, 10, 12, 22, 24, 25, 27, 28, 42, 48, 50, 51, 55, 61] [(0, 1), (1, 2), (29, 36), (36, 64), (64, 71)] o_me o_me_1 from ⟨hI_me_1, hkp_me_1⟩)
      · have c7 := cv_nge (a := v2_1.toInt) (b := (gA o_me_1 3 (0 : Int32).toNatClampNeg).toInt) rfl rfl c7
        refine wp_bd (s_X9_runsOf   o_me_1 v2_1 v1_1  hI_me_1  ⟨hh3.1, (zu_e (zl_d c7) t6.2 (by decide))⟩ ⟨hh2.1, (Int.le_trans hh2.2 (by decide))⟩ ⟨hh4.1, hh4.2⟩) (fun z8 hz8 => ?_)
        obtain ⟨hz8_0, hz8_1, hz8_2⟩ := hz8
        have hkpz8_me : Kp [1, 8, 11, 13, 14, 15, 16, 18, 19, 20, 21, 23, 26, 29, 43, 56, 57, 58, 59, 62] [2, 3, 4, 5, 7, 10, 12, 22, 24, 25, 27, 28, 42, 48, 50, 51, 55, 61] [(0, 1), (1, 2), (29, 36), (36, 64), (64, 71)] o_me z8.2 := hkp_me_1.trans (hz8_2.mono (by decide) (by decide) (by decide))
        have kz8_k10 : (gI z8.2 20).toInt = (gI o_me_1 20).toInt := congrArg Int32.toInt (hz8_2.1 20 (by decide))
        refine wp_gd (zin_of (m := 7) rfl hh3.1 (zlt_m (c := 6) (zu_e (zl_d c7) t6.2 (by decide)) (by decide))) ?_
        refine wp_lt (fun o11 eo11 => ?_)
        have hIo11 : IvX9 o11 := by rw [eo11]; exact hz8_1
        have ko11_k13 : (gI o11 20).toInt = (gI z8.2 20).toInt := by rw [eo11]; rfl
        have hkpo11 : Kp [1, 8, 11, 13, 14, 15, 16, 18, 19, 20, 21, 23, 26, 29, 43, 56, 57, 58, 59, 62] [2, 3, 4, 5, 7, 10, 12, 22, 24, 25, 27, 28, 42, 48, 50, 51, 55, 61] [(0, 1), (1, 2), (29, 36), (36, 64), (64, 71)] o_me o11 := hkpz8_me.trans (by rw [eo11]; exact Kp.tA (by decide) (by decide))
        refine wp_bd (s_X9_isBarred   o11 v2_1 v1_1  hIo11  ⟨hh3.1, (zu_e (zl_d c7) t6.2 (by decide))⟩ ⟨hh2.1, (Int.le_trans hh2.2 (by decide))⟩ ⟨(zl_e (zd_e (c := 0) (zq_0 kz8_k10.symm) (zq_0 ko11_k13.symm) (by decide)) hh4.1 (by decide)), (zu_e (zd_e (c := 0) (zq_0 ko11_k13) (zq_0 kz8_k10) (by decide)) hh4.2 (by decide))⟩) (fun z14 hz14 => ?_)
        obtain ⟨hz14_0, hz14_1, hz14_2⟩ := hz14
        have hkpz14_me : Kp [1, 8, 11, 13, 14, 15, 16, 18, 19, 20, 21, 23, 26, 29, 43, 56, 57, 58, 59, 62] [2, 3, 4, 5, 7, 10, 12, 22, 24, 25, 27, 28, 42, 48, 50, 51, 55, 61] [(0, 1), (1, 2), (29, 36), (36, 64), (64, 71)] o_me z14.2 := hkpo11.trans (hz14_2.mono (by decide) (by decide) (by decide))
        have kz14_k16 : (gI z14.2 20).toInt = (gI o11 20).toInt := congrArg Int32.toInt (hz14_2.1 20 (by decide))
        refine wp_gd (zin_of (m := 7) rfl hh3.1 (zlt_m (c := 6) (zu_e (zl_d c7) t6.2 (by decide)) (by decide))) ?_
        refine wp_lt (fun o17 eo17 => ?_)
        have hIo17 : IvX9 o17 := by rw [eo17]; exact hz14_1
        have ko17_k19 : (gI o17 20).toInt = (gI z14.2 20).toInt := by rw [eo17]; rfl
        have hkpo17 : Kp [1, 8, 11, 13, 14, 15, 16, 18, 19, 20, 21, 23, 26, 29, 43, 56, 57, 58, 59, 62] [2, 3, 4, 5, 7, 10, 12, 22, 24, 25, 27, 28, 42, 48, 50, 51, 55, 61] [(0, 1), (1, 2), (29, 36), (36, 64), (64, 71)] o_me o17 := hkpz14_me.trans (by rw [eo17]; exact Kp.tA (by decide) (by decide))
        refine wp_lt (fun x20 ex20 => ?_)
        have tx20 : x20.toInt = v2_1.toInt + 1 := by rw [ex20]; exact i32_add rfl (by decide) (zk_l hh3.1 (by decide)) (zk_u (zu_e (k := 6) (zl_d c7) t6.2 (by decide)) (by decide))
        exact ih1 v1_1 x20 o17 hIo17 hkpo17 ⟨hh2.1, hh2.2⟩ ⟨(zl_e (zq_r (c := (-1)) tx20 (by decide)) hh3.1 (by decide)), (zu_e (zd_e (c := 0) (Int.le_of_eq tx20) (zl_d c7) (by decide)) t6.2 (by decide))⟩ ⟨(zl_e (zd_e (c := 0) (zq_0 kz8_k10.symm) (zd_e (c := 0) (zq_0 ko11_k13.symm) (zd_e (c := 0) (zq_0 kz14_k16.symm) (zq_0 ko17_k19.symm) (by decide)) (by decide)) (by decide)) hh4.1 (by decide)), (zu_e (zd_e (c := 0) (zd_e (c := 0) (zd_e (c := 0) (zq_0 ko17_k19) (zq_0 kz14_k16) (by decide)) (zq_0 ko11_k13) (by decide)) (zq_0 kz8_k10) (by decide)) hh4.2 (by decide))⟩ (zms_u (c := 6) hN1 (zq_r (c := (-1)) tx20 (by decide)) (zu_e (zl_d c7) t6.2 (by decide)) (by decide))
  exact lp1 zfu p0 (0 : Int32) o_me hI_me Kp.rf ⟨q0.1, q0.2⟩ ⟨by decide, by decide⟩ ⟨q1.1, q1.2⟩ (zme_u (l := 0) (Int.le_of_eq tz0.symm) (by decide))

set_option maxHeartbeats 4000000 in
set_option maxRecDepth 100000 in
theorem s_X9_enteredBits (o_me : Ob) (hI_me : IvX9 o_me)  : wp (f_X9_enteredBits   o_me) (fun (y : Int32) => True) := by
  unfold f_X9_enteredBits
  have lp1 : ∀ (N1 : Nat) (v1_1 : Int32) (v2_1 : Int32), (0 ≤ v2_1.toInt ∧ v2_1.toInt ≤ 7) → (7 - v2_1.toInt).toNat < N1 → wp (lp_X9_enteredBits_4 o_me  N1 (v1_1, v2_1)) (fun (y : Int32) => True) := by
    intro N1
    induction N1 with
    | zero =>
      intro v1_1 v2_1 hh1 hN1
      exact absurd hN1 (Nat.not_lt_zero _)
    | succ N1 ihx =>
      have ih1 := ihx
      intro v1_1 v2_1 hh1 hN1
      show wp (lb_X9_enteredBits_4 o_me  (lp_X9_enteredBits_4 o_me  N1) v1_1 v2_1) (fun (y : Int32) => True)
      unfold lb_X9_enteredBits_4
      have t2 := iaX9_3_0 hI_me (j := (0 : Int32)) (by decide) (by decide)
      refine wp_if (fun c3 => ?_) (fun c3 => ?_)
      · have c3 := cv_ge (a := v2_1.toInt) (b := (gA o_me 3 (0 : Int32).toNatClampNeg).toInt) rfl rfl c3
        refine wp_some ?_
        exact trivial
      · have c3 := cv_nge (a := v2_1.toInt) (b := (gA o_me 3 (0 : Int32).toNatClampNeg).toInt) rfl rfl c3
        have t4 : ((22 : Int32) + v2_1).toInt = 22 + v2_1.toInt := i32_add (by decide) rfl (zk_cl hh1.1 (by decide)) (zk_cu (zu_e (k := 6) (zl_d c3) t2.2 (by decide)) (by decide))
        refine wp_gd (zin_of (m := 5484) rfl (Int.le_trans (by decide) (zaqc_l (c := 22) t4 hh1.1 (by decide))) (zlt_m (c := 5483) (Int.le_trans (zaqc_u (c := 28) t4 (zu_e (k := 6) (zl_d c3) t2.2 (by decide)) (by decide)) (by decide)) (by decide))) ?_
        refine wp_lt (fun x6 ex6 => ?_)
        refine wp_lt (fun x7 ex7 => ?_)
        have tx7 : x7.toInt = v2_1.toInt + 1 := by rw [ex7]; exact i32_add rfl (by decide) (zk_l hh1.1 (by decide)) (zk_u (zu_e (k := 6) (zl_d c3) t2.2 (by decide)) (by decide))
        exact ih1 x6 x7  ⟨(zl_e (zq_r (c := (-1)) tx7 (by decide)) hh1.1 (by decide)), (zu_e (zd_e (c := 0) (Int.le_of_eq tx7) (zl_d c3) (by decide)) t2.2 (by decide))⟩ (zms_u (c := 6) hN1 (zq_r (c := (-1)) tx7 (by decide)) (zu_e (zl_d c3) t2.2 (by decide)) (by decide))
  exact lp1 zfu (0 : Int32) (0 : Int32)  ⟨by decide, by decide⟩ (zme_u (l := 0) (Int.le_of_eq tz0.symm) (by decide))

set_option maxHeartbeats 4000000 in
set_option maxRecDepth 100000 in
theorem s_X9_is (p0 : Int32) (p1 : Int32)   : wp (f_X9_is   p0 p1) (fun (y : Int32) => (0 ≤ y.toInt ∧ y.toInt ≤ 1)) := by
  unfold f_X9_is
  refine wp_if (fun c2 => ?_) (fun c2 => ?_)
  · refine wp_some ?_
    exact (show (0 ≤ (1 : Int32).toInt ∧ (1 : Int32).toInt ≤ 1) from ⟨by decide, by decide⟩)
  · refine wp_some ?_
    exact (show (0 ≤ (0 : Int32).toInt ∧ (0 : Int32).toInt ≤ 1) from ⟨by decide, by decide⟩)

set_option maxHeartbeats 4000000 in
set_option maxRecDepth 100000 in
theorem s_X9_ones (p0 : Int32)   : wp (f_X9_ones   p0) (fun (y : Int32) => True) := by
  unfold f_X9_ones
  have lp1 : ∀ (N1 : Nat) (v0_1 : Int32) (v1_1 : Int32) (v2_1 : Int32), (0 ≤ v2_1.toInt ∧ v2_1.toInt ≤ 7) → (7 - v2_1.toInt).toNat < N1 → wp (lp_X9_ones_4   N1 (v0_1, v1_1, v2_1)) (fun (y : Int32) => True) := by
    intro N1
    induction N1 with
    | zero =>
      intro v0_1 v1_1 v2_1 hh1 hN1
      exact absurd hN1 (Nat.not_lt_zero _)
    | succ N1 ihx =>
      have ih1 := ihx
      intro v0_1 v1_1 v2_1 hh1 hN1
      show wp (lb_X9_ones_4   (lp_X9_ones_4   N1) v0_1 v1_1 v2_1) (fun (y : Int32) => True)
      unfold lb_X9_ones_4
      refine wp_if (fun c2 => ?_) (fun c2 => ?_)
      · have c2 := cv_ge (a := v2_1.toInt) (b := 7) rfl (by decide) c2
        refine wp_some ?_
        exact trivial
      · have c2 := cv_nge (a := v2_1.toInt) (b := 7) rfl (by decide) c2
        refine wp_lt (fun x4 ex4 => ?_)
        refine wp_lt (fun x5 ex5 => ?_)
        have tx5 : x5.toInt = v2_1.toInt + 1 := by rw [ex5]; exact i32_add rfl (by decide) (zk_l hh1.1 (by decide)) (zk_u (zlt_u (c := 6) c2 (by decide)) (by decide))
        exact ih1 v0_1 x4 x5  ⟨(zl_e (zq_r (c := (-1)) tx5 (by decide)) hh1.1 (by decide)), (zu_e (Int.le_of_eq tx5) (zlt_u (c := 6) c2 (by decide)) (by decide))⟩ (zms_u (c := 6) hN1 (zq_r (c := (-1)) tx5 (by decide)) (zlt_u (c := 6) c2 (by decide)) (by decide))
  exact lp1 zfu p0 (0 : Int32) (0 : Int32)  ⟨by decide, by decide⟩ (zme_u (l := 0) (Int.le_of_eq tz0.symm) (by decide))

set_option maxHeartbeats 4000000 in
set_option maxRecDepth 100000 in
theorem s_X9_placeOf (o_me : Ob) (p0 : Int32) (p1 : Int32) (hI_me : IvX9 o_me) (q0 : 0 ≤ p0.toInt ∧ p0.toInt ≤ 6) : wp (f_X9_placeOf   o_me p0 p1) (fun (y : Int32) => True) := by
  unfold f_X9_placeOf
  have lp1 : ∀ (N1 : Nat) (v1_1 : Int32) (v2_1 : Int32) (v3_1 : Int32) (v4_1 : Int32), (0 ≤ v1_1.toInt ∧ v1_1.toInt ≤ 6) → (0 ≤ v4_1.toInt ∧ v4_1.toInt ≤ 7) → (7 - v4_1.toInt).toNat < N1 → wp (lp_X9_placeOf_5 o_me  N1 (v1_1, v2_1, v3_1, v4_1)) (fun (y : Int32) => True) := by
    intro N1
    induction N1 with
    | zero =>
      intro v1_1 v2_1 v3_1 v4_1 hh1 hh2 hN1
      exact absurd hN1 (Nat.not_lt_zero _)
    | succ N1 ihx =>
      have ih1 := ihx
      intro v1_1 v2_1 v3_1 v4_1 hh1 hh2 hN1
      show wp (lb_X9_placeOf_5 o_me  (lp_X9_placeOf_5 o_me  N1) v1_1 v2_1 v3_1 v4_1) (fun (y : Int32) => True)
      unfold lb_X9_placeOf_5
      have t3 := iaX9_3_0 hI_me (j := (0 : Int32)) (by decide) (by decide)
      refine wp_if (fun c4 => ?_) (fun c4 => ?_)
      · have c4 := cv_ge (a := v4_1.toInt) (b := (gA o_me 3 (0 : Int32).toNatClampNeg).toInt) rfl rfl c4
        refine wp_some ?_
        exact trivial
      · have c4 := cv_nge (a := v4_1.toInt) (b := (gA o_me 3 (0 : Int32).toNatClampNeg).toInt) rfl rfl c4
        refine wp_if (fun c5 => ?_) (fun c5 => ?_)
        · unfold bk_X9_placeOf_84
          obtain ⟨w6, ew6⟩ : ∃ z : Int32, z = (0 : Int32) := ⟨_, rfl⟩
          rw [show bk_X9_placeOf_85 o_me (lp_X9_placeOf_5 o_me  N1) v1_1 v2_1 v4_1 (0 : Int32) v3_1 = bk_X9_placeOf_85 o_me (lp_X9_placeOf_5 o_me  N1) v1_1 v2_1 v4_1 w6 v3_1 from by rw [ew6]]
          unfold bk_X9_placeOf_85
          refine wp_lt (fun x9 ex9 => ?_)
          refine wp_lt (fun x10 ex10 => ?_)
          have tx10 : x10.toInt = v4_1.toInt + 1 := by rw [ex10]; exact i32_add rfl (by decide) (zk_l hh2.1 (by decide)) (zk_u (zu_e (k := 6) (zl_d c4) t3.2 (by decide)) (by decide))
          exact ih1 v1_1 v2_1 x9 x10  ⟨hh1.1, hh1.2⟩ ⟨(zl_e (zq_r (c := (-1)) tx10 (by decide)) hh2.1 (by decide)), (zu_e (zd_e (c := 0) (Int.le_of_eq tx10) (zl_d c4) (by decide)) t3.2 (by decide))⟩ (zms_u (c := 6) hN1 (zq_r (c := (-1)) tx10 (by decide)) (zu_e (zl_d c4) t3.2 (by decide)) (by decide))
        · refine wp_bd (s_X9_is   v2_1 v4_1    ) (fun z11 hz11 => ?_)
          refine wp_if (fun c12 => ?_) (fun c12 => ?_)
          · unfold bk_X9_placeOf_84
            obtain ⟨w13, ew13⟩ : ∃ z : Int32, z = (0 : Int32) := ⟨_, rfl⟩
            rw [show bk_X9_placeOf_85 o_me (lp_X9_placeOf_5 o_me  N1) v1_1 v2_1 v4_1 (0 : Int32) v3_1 = bk_X9_placeOf_85 o_me (lp_X9_placeOf_5 o_me  N1) v1_1 v2_1 v4_1 w13 v3_1 from by rw [ew13]]
            unfold bk_X9_placeOf_85
            refine wp_lt (fun x16 ex16 => ?_)
            refine wp_lt (fun x17 ex17 => ?_)
            have tx17 : x17.toInt = v4_1.toInt + 1 := by rw [ex17]; exact i32_add rfl (by decide) (zk_l hh2.1 (by decide)) (zk_u (zu_e (k := 6) (zl_d c4) t3.2 (by decide)) (by decide))
            exact ih1 v1_1 v2_1 x16 x17  ⟨hh1.1, hh1.2⟩ ⟨(zl_e (zq_r (c := (-1)) tx17 (by decide)) hh2.1 (by decide)), (zu_e (zd_e (c := 0) (Int.le_of_eq tx17) (zl_d c4) (by decide)) t3.2 (by decide))⟩ (zms_u (c := 6) hN1 (zq_r (c := (-1)) tx17 (by decide)) (zu_e (zl_d c4) t3.2 (by decide)) (by decide))
          · refine wp_gd (zin_of (m := 7) rfl hh2.1 (zlt_m (c := 6) (zu_e (zl_d c4) t3.2 (by decide)) (by decide))) ?_
            refine wp_if (fun c18 => ?_) (fun c18 => ?_)
            · refine wp_gd (zin_of (m := 7) rfl hh2.1 (zlt_m (c := 6) (zu_e (zl_d c4) t3.2 (by decide)) (by decide))) ?_
              refine wp_gd (zin_of (m := 7) rfl hh1.1 (zlt_m (c := 6) hh1.2 (by decide))) ?_
              refine wp_if (fun c19 => ?_) (fun c19 => ?_)
              · unfold bk_X9_placeOf_80
                obtain ⟨w22, ew22⟩ : ∃ z : Int32, z = (1 : Int32) := ⟨_, rfl⟩
                rw [show bk_X9_placeOf_85 o_me (lp_X9_placeOf_5 o_me  N1) v1_1 v2_1 v4_1 (1 : Int32) v3_1 = bk_X9_placeOf_85 o_me (lp_X9_placeOf_5 o_me  N1) v1_1 v2_1 v4_1 w22 v3_1 from by rw [ew22]]
                unfold bk_X9_placeOf_85
                refine wp_lt (fun x23 ex23 => ?_)
                refine wp_lt (fun x24 ex24 => ?_)
                have tx24 : x24.toInt = v4_1.toInt + 1 := by rw [ex24]; exact i32_add rfl (by decide) (zk_l hh2.1 (by decide)) (zk_u (zu_e (k := 6) (zl_d c4) t3.2 (by decide)) (by decide))
                exact ih1 v1_1 v2_1 x23 x24  ⟨hh1.1, hh1.2⟩ ⟨(zl_e (zq_r (c := (-1)) tx24 (by decide)) hh2.1 (by decide)), (zu_e (zd_e (c := 0) (Int.le_of_eq tx24) (zl_d c4) (by decide)) t3.2 (by decide))⟩ (zms_u (c := 6) hN1 (zq_r (c := (-1)) tx24 (by decide)) (zu_e (zl_d c4) t3.2 (by decide)) (by decide))
              · refine wp_gd (zin_of (m := 7) rfl hh2.1 (zlt_m (c := 6) (zu_e (zl_d c4) t3.2 (by decide)) (by decide))) ?_
                refine wp_gd (zin_of (m := 7) rfl hh1.1 (zlt_m (c := 6) hh1.2 (by decide))) ?_
                refine wp_if (fun c25 => ?_) (fun c25 => ?_)
                · refine wp_if (fun c26 => ?_) (fun c26 => ?_)
                  · have c26 := cv_ge (a := v4_1.toInt) (b := v1_1.toInt) rfl rfl c26
                    unfold bk_X9_placeOf_84
                    obtain ⟨w27, ew27⟩ : ∃ z : Int32, z = (0 : Int32) := ⟨_, rfl⟩
                    rw [show bk_X9_placeOf_85 o_me (lp_X9_placeOf_5 o_me  N1) v1_1 v2_1 v4_1 (0 : Int32) v3_1 = bk_X9_placeOf_85 o_me (lp_X9_placeOf_5 o_me  N1) v1_1 v2_1 v4_1 w27 v3_1 from by rw [ew27]]
                    unfold bk_X9_placeOf_85
                    refine wp_lt (fun x30 ex30 => ?_)
                    refine wp_lt (fun x31 ex31 => ?_)
                    have tx31 : x31.toInt = v4_1.toInt + 1 := by rw [ex31]; exact i32_add rfl (by decide) (zk_l hh2.1 (by decide)) (zk_u (zu_e (k := 6) (zl_d c4) t3.2 (by decide)) (by decide))
                    exact ih1 v1_1 v2_1 x30 x31  ⟨hh1.1, hh1.2⟩ ⟨(zl_e (zq_r (c := (-1)) tx31 (by decide)) hh2.1 (by decide)), (zu_e (zd_e (c := 0) (Int.le_of_eq tx31) (zl_d c4) (by decide)) t3.2 (by decide))⟩ (zms_u (c := 6) hN1 (zq_r (c := (-1)) tx31 (by decide)) (zu_e (zl_d c4) t3.2 (by decide)) (by decide))
                  · have c26 := cv_nge (a := v4_1.toInt) (b := v1_1.toInt) rfl rfl c26
                    unfold bk_X9_placeOf_80
                    obtain ⟨w32, ew32⟩ : ∃ z : Int32, z = (1 : Int32) := ⟨_, rfl⟩
                    rw [show bk_X9_placeOf_85 o_me (lp_X9_placeOf_5 o_me  N1) v1_1 v2_1 v4_1 (1 : Int32) v3_1 = bk_X9_placeOf_85 o_me (lp_X9_placeOf_5 o_me  N1) v1_1 v2_1 v4_1 w32 v3_1 from by rw [ew32]]
                    unfold bk_X9_placeOf_85
                    refine wp_lt (fun x33 ex33 => ?_)
                    refine wp_lt (fun x34 ex34 => ?_)
                    have tx34 : x34.toInt = v4_1.toInt + 1 := by rw [ex34]; exact i32_add rfl (by decide) (zk_l hh2.1 (by decide)) (zk_u (zu_e (k := 5) (zl_d c26) hh1.2 (by decide)) (by decide))
                    exact ih1 v1_1 v2_1 x33 x34  ⟨hh1.1, hh1.2⟩ ⟨(zl_e (zq_r (c := (-1)) tx34 (by decide)) hh2.1 (by decide)), (zu_e (zd_e (c := 0) (Int.le_of_eq tx34) (zl_d c4) (by decide)) t3.2 (by decide))⟩ (zms_u (c := 6) hN1 (zq_r (c := (-1)) tx34 (by decide)) (zu_e (zl_d c4) t3.2 (by decide)) (by decide))
                · unfold bk_X9_placeOf_84
                  obtain ⟨w35, ew35⟩ : ∃ z : Int32, z = (0 : Int32) := ⟨_, rfl⟩
                  rw [show bk_X9_placeOf_85 o_me (lp_X9_placeOf_5 o_me  N1) v1_1 v2_1 v4_1 (0 : Int32) v3_1 = bk_X9_placeOf_85 o_me (lp_X9_placeOf_5 o_me  N1) v1_1 v2_1 v4_1 w35 v3_1 from by rw [ew35]]
                  unfold bk_X9_placeOf_85
                  refine wp_lt (fun x38 ex38 => ?_)
                  refine wp_lt (fun x39 ex39 => ?_)
                  have tx39 : x39.toInt = v4_1.toInt + 1 := by rw [ex39]; exact i32_add rfl (by decide) (zk_l hh2.1 (by decide)) (zk_u (zu_e (k := 6) (zl_d c4) t3.2 (by decide)) (by decide))
                  exact ih1 v1_1 v2_1 x38 x39  ⟨hh1.1, hh1.2⟩ ⟨(zl_e (zq_r (c := (-1)) tx39 (by decide)) hh2.1 (by decide)), (zu_e (zd_e (c := 0) (Int.le_of_eq tx39) (zl_d c4) (by decide)) t3.2 (by decide))⟩ (zms_u (c := 6) hN1 (zq_r (c := (-1)) tx39 (by decide)) (zu_e (zl_d c4) t3.2 (by decide)) (by decide))
            · unfold bk_X9_placeOf_84
              obtain ⟨w40, ew40⟩ : ∃ z : Int32, z = (0 : Int32) := ⟨_, rfl⟩
              rw [show bk_X9_placeOf_85 o_me (lp_X9_placeOf_5 o_me  N1) v1_1 v2_1 v4_1 (0 : Int32) v3_1 = bk_X9_placeOf_85 o_me (lp_X9_placeOf_5 o_me  N1) v1_1 v2_1 v4_1 w40 v3_1 from by rw [ew40]]
              unfold bk_X9_placeOf_85
              refine wp_lt (fun x43 ex43 => ?_)
              refine wp_lt (fun x44 ex44 => ?_)
              have tx44 : x44.toInt = v4_1.toInt + 1 := by rw [ex44]; exact i32_add rfl (by decide) (zk_l hh2.1 (by decide)) (zk_u (zu_e (k := 6) (zl_d c4) t3.2 (by decide)) (by decide))
              exact ih1 v1_1 v2_1 x43 x44  ⟨hh1.1, hh1.2⟩ ⟨(zl_e (zq_r (c := (-1)) tx44 (by decide)) hh2.1 (by decide)), (zu_e (zd_e (c := 0) (Int.le_of_eq tx44) (zl_d c4) (by decide)) t3.2 (by decide))⟩ (zms_u (c := 6) hN1 (zq_r (c := (-1)) tx44 (by decide)) (zu_e (zl_d c4) t3.2 (by decide)) (by decide))
  exact lp1 zfu p0 p1 (1 : Int32) (0 : Int32)  ⟨q0.1, q0.2⟩ ⟨by decide, by decide⟩ (zme_u (l := 0) (Int.le_of_eq tz0.symm) (by decide))

set_option maxHeartbeats 4000000 in
set_option maxRecDepth 100000 in
theorem s_X9_be (o_me : Ob) (p0 : Int32) (p1 : Int32) (p2 : Int32) (p3 : Int32) (hI_me : IvX9 o_me) (q0 : 0 ≤ (gI o_me 20).toInt ∧ (gI o_me 20).toInt ≤ 0) : wp (f_X9_be   o_me p0 p1 p2 p3) (fun (y : Int32 × Ob) => IvX9 y.2 ∧ Kp [1, 8, 11, 13, 14, 15, 16, 18, 19, 20, 21, 23, 26, 29, 43, 56, 57, 58, 59, 62] [2, 3, 4, 5, 7, 10, 12, 22, 24, 25, 27, 28, 42, 48, 50, 51, 55, 61] [(0, 1), (1, 2), (29, 36), (36, 64), (64, 71)] o_me y.2) := by
  unfold f_X9_be
  refine wp_lt (fun o1 eo1 => ?_)
  have hIo1 : IvX9 o1 := by rw [eo1]; exact hI_me
  have ko1_k2 : (gI o1 20).toInt = (gI o_me 20).toInt := by rw [eo1]; rfl
  have hkpo1 : Kp [1, 8, 11, 13, 14, 15, 16, 18, 19, 20, 21, 23, 26, 29, 43, 56, 57, 58, 59, 62] [2, 3, 4, 5, 7, 10, 12, 22, 24, 25, 27, 28, 42, 48, 50, 51, 55, 61] [(0, 1), (1, 2), (29, 36), (36, 64), (64, 71)] o_me o1 := Kp.rf.trans (by rw [eo1]; exact Kp.sI (by decide))
  refine wp_bd (s_X9_isPerson   o1 p0  hIo1  ) (fun z3 hz3 => ?_)
  obtain ⟨hz3_0, hz3_1⟩ := hz3
  refine wp_if (fun c4 => ?_) (fun c4 => ?_)
  · have c4 := cv_eq (a := z3.toInt) (b := 0) rfl (by decide) c4
    refine wp_some ?_
    exact (show IvX9 o1 ∧ Kp [1, 8, 11, 13, 14, 15, 16, 18, 19, 20, 21, 23, 26, 29, 43, 56, 57, 58, 59, 62] [2, 3, 4, 5, 7, 10, 12, 22, 24, 25, 27, 28, 42, 48, 50, 51, 55, 61] [(0, 1), (1, 2), (29, 36), (36, 64), (64, 71)] o_me o1 from ⟨hIo1, hkpo1⟩)
  · have c4i := hz3_1 c4
    refine wp_bd (s_X9_isRace   p1    ) (fun z5 hz5 => ?_)
    obtain ⟨hz5_0, hz5_1⟩ := hz5
    refine wp_if (fun c6 => ?_) (fun c6 => ?_)
    · have c6 := cv_eq (a := z5.toInt) (b := 0) rfl (by decide) c6
      refine wp_some ?_
      exact (show IvX9 o1 ∧ Kp [1, 8, 11, 13, 14, 15, 16, 18, 19, 20, 21, 23, 26, 29, 43, 56, 57, 58, 59, 62] [2, 3, 4, 5, 7, 10, 12, 22, 24, 25, 27, 28, 42, 48, 50, 51, 55, 61] [(0, 1), (1, 2), (29, 36), (36, 64), (64, 71)] o_me o1 from ⟨hIo1, hkpo1⟩)
    · have c6i := hz5_1 c6
      refine wp_bd (s_X9_in   p2.toInt64 (1 : Int64) (7 : Int64)    ) (fun z9 hz9 => ?_)
      refine wp_if (fun c10 => ?_) (fun c10 => ?_)
      · refine wp_some ?_
        exact (show IvX9 o1 ∧ Kp [1, 8, 11, 13, 14, 15, 16, 18, 19, 20, 21, 23, 26, 29, 43, 56, 57, 58, 59, 62] [2, 3, 4, 5, 7, 10, 12, 22, 24, 25, 27, 28, 42, 48, 50, 51, 55, 61] [(0, 1), (1, 2), (29, 36), (36, 64), (64, 71)] o_me o1 from ⟨hIo1, hkpo1⟩)
      · refine wp_bd (s_X9_in   p3.toInt64 (0 : Int64) (1 : Int64)    ) (fun z13 hz13 => ?_)
        refine wp_if (fun c14 => ?_) (fun c14 => ?_)
        · refine wp_some ?_
          exact (show IvX9 o1 ∧ Kp [1, 8, 11, 13, 14, 15, 16, 18, 19, 20, 21, 23, 26, 29, 43, 56, 57, 58, 59, 62] [2, 3, 4, 5, 7, 10, 12, 22, 24, 25, 27, 28, 42, 48, 50, 51, 55, 61] [(0, 1), (1, 2), (29, 36), (36, 64), (64, 71)] o_me o1 from ⟨hIo1, hkpo1⟩)
        · refine wp_bd (s_X9_isBarred   o1 p0 p1  hIo1  ⟨c4i.1, c4i.2⟩ ⟨c6i.1, (Int.le_trans c6i.2 (by decide))⟩ ⟨(zl_e (zq_0 ko1_k2.symm) q0.1 (by decide)), (zu_e (zq_0 ko1_k2) q0.2 (by decide))⟩) (fun z15 hz15 => ?_)
          obtain ⟨hz15_0, hz15_1, hz15_2⟩ := hz15
          have hkpz15_me : Kp [1, 8, 11, 13, 14, 15, 16, 18, 19, 20, 21, 23, 26, 29, 43, 56, 57, 58, 59, 62] [2, 3, 4, 5, 7, 10, 12, 22, 24, 25, 27, 28, 42, 48, 50, 51, 55, 61] [(0, 1), (1, 2), (29, 36), (36, 64), (64, 71)] o_me z15.2 := hkpo1.trans (hz15_2.mono (by decide) (by decide) (by decide))
          have kz15_k16 : (gI z15.2 20).toInt = (gI o1 20).toInt := congrArg Int32.toInt (hz15_2.1 20 (by decide))
          refine wp_if (fun c17 => ?_) (fun c17 => ?_)
          · refine wp_bd (s_X9_layRuns   z15.2 p1  hz15_1  ⟨c6i.1, c6i.2⟩ ⟨(zl_e (zd_e (c := 0) (zq_0 ko1_k2.symm) (zq_0 kz15_k16.symm) (by decide)) q0.1 (by decide)), (zu_e (zd_e (c := 0) (zq_0 kz15_k16) (zq_0 ko1_k2) (by decide)) q0.2 (by decide))⟩) (fun z18 hz18 => ?_)
            obtain ⟨hz18_0, hz18_1⟩ := hz18
            have hkpz18_me : Kp [1, 8, 11, 13, 14, 15, 16, 18, 19, 20, 21, 23, 26, 29, 43, 56, 57, 58, 59, 62] [2, 3, 4, 5, 7, 10, 12, 22, 24, 25, 27, 28, 42, 48, 50, 51, 55, 61] [(0, 1), (1, 2), (29, 36), (36, 64), (64, 71)] o_me z18 := hkpz15_me.trans (hz18_1.mono (by decide) (by decide) (by decide))
            refine wp_bd (s_X9_enteredBits   z18  hz18_0  ) (fun z20 hz20 => ?_)
            have lp1 : ∀ (N1 : Nat) (v1_1 : Int32) (v3_1 : Int32) (v4_1 : Int32) (v5_1 : Int32) (v6_1 : Int32) (v7_1 : Int32) (v8_1 : Int32) (o_me_1 : Ob), IvX9 o_me_1 → Kp [1, 8, 11, 13, 14, 15, 16, 18, 19, 20, 21, 23, 26, 29, 43, 56, 57, 58, 59, 62] [2, 3, 4, 5, 7, 10, 12, 22, 24, 25, 27, 28, 42, 48, 50, 51, 55, 61] [(0, 1), (1, 2), (29, 36), (36, 64), (64, 71)] o_me o_me_1 → (0 ≤ v1_1.toInt ∧ v1_1.toInt ≤ 6) → (0 ≤ v8_1.toInt ∧ v8_1.toInt ≤ 128) → (128 - v8_1.toInt).toNat < N1 → wp (lp_X9_be_76   N1 (v1_1, v3_1, v4_1, v5_1, v6_1, v7_1, v8_1, o_me_1)) (fun (y : Int32 × Ob) => IvX9 y.2 ∧ Kp [1, 8, 11, 13, 14, 15, 16, 18, 19, 20, 21, 23, 26, 29, 43, 56, 57, 58, 59, 62] [2, 3, 4, 5, 7, 10, 12, 22, 24, 25, 27, 28, 42, 48, 50, 51, 55, 61] [(0, 1), (1, 2), (29, 36), (36, 64), (64, 71)] o_me y.2) := by
              intro N1
              induction N1 with
              | zero =>
                intro v1_1 v3_1 v4_1 v5_1 v6_1 v7_1 v8_1 o_me_1 hI_me_1 hkp_me_1 hh21 hh22 hN1
                exact absurd hN1 (Nat.not_lt_zero _)
              | succ N1 ihx =>
                have ih1 := ihx
                intro v1_1 v3_1 v4_1 v5_1 v6_1 v7_1 v8_1 o_me_1 hI_me_1 hkp_me_1 hh21 hh22 hN1
                show wp (lb_X9_be_76   (lp_X9_be_76   N1) v1_1 v3_1 v4_1 v5_1 v6_1 v7_1 v8_1 o_me_1) (fun (y : Int32 × Ob) => IvX9 y.2 ∧ Kp [1, 8, 11, 13, 14, 15, 16, 18, 19, 20, 21, 23, 26, 29, 43, 56, 57, 58, 59, 62] [2, 3, 4, 5, 7, 10, 12, 22, 24, 25, 27, 28, 42, 48, 50, 51, 55, 61] [(0, 1), (1, 2), (29, 36), (36, 64), (64, 71)] o_me y.2)
                unfold lb_X9_be_76
                have t24 := iaX9_3_0 hI_me_1 (j := (0 : Int32)) (by decide) (by decide)
                have t25 : 1 ≤ ((1 : Int32) <<< ((gA o_me_1 3 (0 : Int32).toNatClampNeg) &&& 31)).toInt ∧ ((1 : Int32) <<< ((gA o_me_1 3 (0 : Int32).toNatClampNeg) &&& 31)).toInt ≤ 128 := i32_shl7 (p := gA o_me_1 3 (0 : Int32).toNatClampNeg) t24.1 t24.2
                refine wp_if (fun c26 => ?_) (fun c26 => ?_)
                · have c26 := cv_ge (a := v8_1.toInt) (b := ((1 : Int32) <<< ((gA o_me_1 3 (0 : Int32).toNatClampNeg) &&& 31)).toInt) rfl rfl c26
                  refine wp_if (fun c27 => ?_) (fun c27 => ?_)
                  · unfold bk_X9_be_178
                    refine wp_some ?_
                    exact (show IvX9 o_me_1 ∧ Kp [1, 8, 11, 13, 14, 15, 16, 18, 19, 20, 21, 23, 26, 29, 43, 56, 57, 58, 59, 62] [2, 3, 4, 5, 7, 10, 12, 22, 24, 25, 27, 28, 42, 48, 50, 51, 55, 61] [(0, 1), (1, 2), (29, 36), (36, 64), (64, 71)] o_me o_me_1 from ⟨hI_me_1, hkp_me_1⟩)
                  · refine wp_if (fun c28 => ?_) (fun c28 => ?_)
                    · unfold bk_X9_be_178
                      refine wp_some ?_
                      exact (show IvX9 o_me_1 ∧ Kp [1, 8, 11, 13, 14, 15, 16, 18, 19, 20, 21, 23, 26, 29, 43, 56, 57, 58, 59, 62] [2, 3, 4, 5, 7, 10, 12, 22, 24, 25, 27, 28, 42, 48, 50, 51, 55, 61] [(0, 1), (1, 2), (29, 36), (36, 64), (64, 71)] o_me o_me_1 from ⟨hI_me_1, hkp_me_1⟩)
                    · refine wp_some ?_
                      exact (show IvX9 o_me_1 ∧ Kp [1, 8, 11, 13, 14, 15, 16, 18, 19, 20, 21, 23, 26, 29, 43, 56, 57, 58, 59, 62] [2, 3, 4, 5, 7, 10, 12, 22, 24, 25, 27, 28, 42, 48, 50, 51, 55, 61] [(0, 1), (1, 2), (29, 36), (36, 64), (64, 71)] o_me o_me_1 from ⟨hI_me_1, hkp_me_1⟩)
                · have c26 := cv_nge (a := v8_1.toInt) (b := ((1 : Int32) <<< ((gA o_me_1 3 (0 : Int32).toNatClampNeg) &&& 31)).toInt) rfl rfl c26
                  refine wp_bd (s_X9_is   v8_1 v1_1    ) (fun z29 hz29 => ?_)
                  refine wp_if (fun c30 => ?_) (fun c30 => ?_)
                  · refine wp_bd (s_X9_ones   v8_1    ) (fun z31 hz31 => ?_)
                    refine wp_if (fun c32 => ?_) (fun c32 => ?_)
                    · unfold bk_X9_be_126
                      obtain ⟨w35, ew35⟩ : ∃ z : Int32, z = (0 : Int32) := ⟨_, rfl⟩
                      have tw35 : w35.toInt = 0 := by rw [ew35]; decide
                      rw [show bk_X9_be_127  (lp_X9_be_76   N1) v1_1 v3_1 v4_1 v5_1 v6_1 v7_1 v8_1 (0 : Int32) o_me_1 = bk_X9_be_127  (lp_X9_be_76   N1) v1_1 v3_1 v4_1 v5_1 v6_1 v7_1 v8_1 w35 o_me_1 from by rw [ew35]]
                      unfold bk_X9_be_127
                      refine wp_if (fun c36 => ?_) (fun c36 => ?_)
                      · have c36 := cv_eq (a := w35.toInt) (b := 0) rfl (by decide) c36
                        unfold bk_X9_be_141
                        refine wp_if (fun c37 => ?_) (fun c37 => ?_)
                        · have c37 := cv_eq (a := w35.toInt) (b := 0) rfl (by decide) c37
                          unfold bk_X9_be_158
                          refine wp_lt (fun x38 ex38 => ?_)
                          have tx38 : x38.toInt = v8_1.toInt + 1 := by rw [ex38]; exact i32_add rfl (by decide) (zk_l hh22.1 (by decide)) (zk_u (zu_e (k := 127) (zl_d c26) t25.2 (by decide)) (by decide))
                          exact ih1 v1_1 v3_1 v4_1 v5_1 v6_1 v7_1 x38 o_me_1 hI_me_1 hkp_me_1 ⟨hh21.1, hh21.2⟩ ⟨(zl_e (zq_r (c := (-1)) tx38 (by decide)) hh22.1 (by decide)), (zu_e (zd_e (c := 0) (Int.le_of_eq tx38) (zl_d c26) (by decide)) t25.2 (by decide))⟩ (zms_u (c := 127) hN1 (zq_r (c := (-1)) tx38 (by decide)) (zu_e (zl_d c26) t25.2 (by decide)) (by decide))
                        · have c37 := cv_ne (a := w35.toInt) (b := 0) rfl (by decide) c37
                          exact absurd (Int.le_antisymm (Int.le_of_eq tw35) (Int.le_of_eq tw35.symm)) c37
                      · have c36 := cv_ne (a := w35.toInt) (b := 0) rfl (by decide) c36
                        exact absurd (Int.le_antisymm (Int.le_of_eq tw35) (Int.le_of_eq tw35.symm)) c36
                    · refine wp_bd (s_X9_placeOf   o_me_1 v1_1 (v5_1 ^^^ v8_1)  hI_me_1  ⟨hh21.1, hh21.2⟩) (fun z39 hz39 => ?_)
                      refine wp_if (fun c40 => ?_) (fun c40 => ?_)
                      · obtain ⟨w43, ew43⟩ : ∃ z : Int32, z = (1 : Int32) := ⟨_, rfl⟩
                        have tw43 : w43.toInt = 1 := by rw [ew43]; decide
                        rw [show bk_X9_be_127  (lp_X9_be_76   N1) v1_1 v3_1 v4_1 v5_1 v6_1 v7_1 v8_1 (1 : Int32) o_me_1 = bk_X9_be_127  (lp_X9_be_76   N1) v1_1 v3_1 v4_1 v5_1 v6_1 v7_1 v8_1 w43 o_me_1 from by rw [ew43]]
                        unfold bk_X9_be_127
                        refine wp_if (fun c44 => ?_) (fun c44 => ?_)
                        · have c44 := cv_eq (a := w43.toInt) (b := 0) rfl (by decide) c44
                          exact absurd c44 (zne_r (k := 0) (l := 1) (by decide) (Int.le_of_eq tw43.symm) (by decide))
                        · have c44 := cv_ne (a := w43.toInt) (b := 0) rfl (by decide) c44
                          unfold bk_X9_be_141
                          refine wp_if (fun c45 => ?_) (fun c45 => ?_)
                          · have c45 := cv_eq (a := w43.toInt) (b := 0) rfl (by decide) c45
                            exact absurd c45 c44
                          · refine wp_bd (s_X9_ones   v8_1    ) (fun z46 hz46 => ?_)
                            unfold bk_X9_be_158
                            refine wp_lt (fun x47 ex47 => ?_)
                            have tx47 : x47.toInt = v8_1.toInt + 1 := by rw [ex47]; exact i32_add rfl (by decide) (zk_l hh22.1 (by decide)) (zk_u (zu_e (k := 127) (zl_d c26) t25.2 (by decide)) (by decide))
                            exact ih1 v1_1 v3_1 v4_1 v5_1 z46 v8_1 x47 o_me_1 hI_me_1 hkp_me_1 ⟨hh21.1, hh21.2⟩ ⟨(zl_e (zq_r (c := (-1)) tx47 (by decide)) hh22.1 (by decide)), (zu_e (zd_e (c := 0) (Int.le_of_eq tx47) (zl_d c26) (by decide)) t25.2 (by decide))⟩ (zms_u (c := 127) hN1 (zq_r (c := (-1)) tx47 (by decide)) (zu_e (zl_d c26) t25.2 (by decide)) (by decide))
                      · unfold bk_X9_be_126
                        obtain ⟨w48, ew48⟩ : ∃ z : Int32, z = (0 : Int32) := ⟨_, rfl⟩
                        have tw48 : w48.toInt = 0 := by rw [ew48]; decide
                        rw [show bk_X9_be_127  (lp_X9_be_76   N1) v1_1 v3_1 v4_1 v5_1 v6_1 v7_1 v8_1 (0 : Int32) o_me_1 = bk_X9_be_127  (lp_X9_be_76   N1) v1_1 v3_1 v4_1 v5_1 v6_1 v7_1 v8_1 w48 o_me_1 from by rw [ew48]]
                        unfold bk_X9_be_127
                        refine wp_if (fun c49 => ?_) (fun c49 => ?_)
                        · have c49 := cv_eq (a := w48.toInt) (b := 0) rfl (by decide) c49
                          unfold bk_X9_be_141
                          refine wp_if (fun c50 => ?_) (fun c50 => ?_)
                          · have c50 := cv_eq (a := w48.toInt) (b := 0) rfl (by decide) c50
                            unfold bk_X9_be_158
                            refine wp_lt (fun x51 ex51 => ?_)
                            have tx51 : x51.toInt = v8_1.toInt + 1 := by rw [ex51]; exact i32_add rfl (by decide) (zk_l hh22.1 (by decide)) (zk_u (zu_e (k := 127) (zl_d c26) t25.2 (by decide)) (by decide))
                            exact ih1 v1_1 v3_1 v4_1 v5_1 v6_1 v7_1 x51 o_me_1 hI_me_1 hkp_me_1 ⟨hh21.1, hh21.2⟩ ⟨(zl_e (zq_r (c := (-1)) tx51 (by decide)) hh22.1 (by decide)), (zu_e (zd_e (c := 0) (Int.le_of_eq tx51) (zl_d c26) (by decide)) t25.2 (by decide))⟩ (zms_u (c := 127) hN1 (zq_r (c := (-1)) tx51 (by decide)) (zu_e (zl_d c26) t25.2 (by decide)) (by decide))
                          · have c50 := cv_ne (a := w48.toInt) (b := 0) rfl (by decide) c50
                            exact absurd (Int.le_antisymm (Int.le_of_eq tw48) (Int.le_of_eq tw48.symm)) c50
                        · have c49 := cv_ne (a := w48.toInt) (b := 0) rfl (by decide) c49
                          exact absurd (Int.le_antisymm (Int.le_of_eq tw48) (Int.le_of_eq tw48.symm)) c49
                  · unfold bk_X9_be_126
                    obtain ⟨w52, ew52⟩ : ∃ z : Int32, z = (0 : Int32) := ⟨_, rfl⟩
                    have tw52 : w52.toInt = 0 := by rw [ew52]; decide
                    rw [show bk_X9_be_127  (lp_X9_be_76   N1) v1_1 v3_1 v4_1 v5_1 v6_1 v7_1 v8_1 (0 : Int32) o_me_1 = bk_X9_be_127  (lp_X9_be_76   N1) v1_1 v3_1 v4_1 v5_1 v6_1 v7_1 v8_1 w52 o_me_1 from by rw [ew52]]
                    unfold bk_X9_be_127
                    refine wp_if (fun c53 => ?_) (fun c53 => ?_)
                    · have c53 := cv_eq (a := w52.toInt) (b := 0) rfl (by decide) c53
                      unfold bk_X9_be_141
                      refine wp_if (fun c54 => ?_) (fun c54 => ?_)
                      · have c54 := cv_eq (a := w52.toInt) (b := 0) rfl (by decide) c54
                        unfold bk_X9_be_158
                        refine wp_lt (fun x55 ex55 => ?_)
                        have tx55 : x55.toInt = v8_1.toInt + 1 := by rw [ex55]; exact i32_add rfl (by decide) (zk_l hh22.1 (by decide)) (zk_u (zu_e (k := 127) (zl_d c26) t25.2 (by decide)) (by decide))
                        exact ih1 v1_1 v3_1 v4_1 v5_1 v6_1 v7_1 x55 o_me_1 hI_me_1 hkp_me_1 ⟨hh21.1, hh21.2⟩ ⟨(zl_e (zq_r (c := (-1)) tx55 (by decide)) hh22.1 (by decide)), (zu_e (zd_e (c := 0) (Int.le_of_eq tx55) (zl_d c26) (by decide)) t25.2 (by decide))⟩ (zms_u (c := 127) hN1 (zq_r (c := (-1)) tx55 (by decide)) (zu_e (zl_d c26) t25.2 (by decide)) (by decide))
                      · have c54 := cv_ne (a := w52.toInt) (b := 0) rfl (by decide) c54
                        exact absurd (Int.le_antisymm (Int.le_of_eq tw52) (Int.le_of_eq tw52.symm)) c54
                    · have c53 := cv_ne (a := w52.toInt) (b := 0) rfl (by decide) c53
                      exact absurd (Int.le_antisymm (Int.le_of_eq tw52) (Int.le_of_eq tw52.symm)) c53
            exact lp1 zfu p0 p2 p3 z20 (100000000 : Int32) (-1 : Int32) (0 : Int32) z18 hz18_0 hkpz18_me ⟨c4i.1, c4i.2⟩ ⟨by decide, by decide⟩ (zme_u (l := 0) (Int.le_of_eq tz0.symm) (by decide))
          · refine wp_some ?_
            exact (show IvX9 z15.2 ∧ Kp [1, 8, 11, 13, 14, 15, 16, 18, 19, 20, 21, 23, 26, 29, 43, 56, 57, 58, 59, 62] [2, 3, 4, 5, 7, 10, 12, 22, 24, 25, 27, 28, 42, 48, 50, 51, 55, 61] [(0, 1), (1, 2), (29, 36), (36, 64), (64, 71)] o_me z15.2 from ⟨hz15_1, hkpz15_me⟩)

set_option maxHeartbeats 4000000 in
set_option maxRecDepth 100000 in
theorem s_X9_beats (o_me : Ob) (p0 : Int32) (p1 : Int32) (p2 : Int32) (hI_me : IvX9 o_me)  : wp (f_X9_beats   o_me p0 p1 p2) (fun (y : Int32 × Ob) => ((-6) ≤ y.1.toInt ∧ y.1.toInt ≤ 2147483647) ∧ IvX9 y.2 ∧ Kp [8, 11, 13, 14, 15, 16, 18, 19, 20, 21, 23, 26, 29, 34, 38, 43, 56, 57, 58, 59, 62] [4, 5, 7, 10, 12, 22, 24, 25, 27, 28, 42, 48, 50, 51, 55, 61] [(0, 1), (1, 2), (29, 36), (36, 64)] o_me y.2) := by
  unfold f_X9_beats
  refine wp_lt (fun o1 eo1 => ?_)
  have hIo1 : IvX9 o1 := by rw [eo1]; exact hI_me
  have hkpo1 : Kp [8, 11, 13, 14, 15, 16, 18, 19, 20, 21, 23, 26, 29, 34, 38, 43, 56, 57, 58, 59, 62] [4, 5, 7, 10, 12, 22, 24, 25, 27, 28, 42, 48, 50, 51, 55, 61] [(0, 1), (1, 2), (29, 36), (36, 64)] o_me o1 := Kp.rf.trans (by rw [eo1]; exact Kp.sI (by decide))
  refine wp_if (fun c2 => ?_) (fun c2 => ?_)
  · unfold bk_X9_beats_20
    refine wp_bd (s_X9_tell   o1 (-1 : Int32)  hIo1  ⟨by decide, by decide⟩) (fun z5 hz5 => ?_)
    obtain ⟨hz5_0, hz5_1, hz5_2⟩ := hz5
    have hkpz5_me : Kp [8, 11, 13, 14, 15, 16, 18, 19, 20, 21, 23, 26, 29, 34, 38, 43, 56, 57, 58, 59, 62] [4, 5, 7, 10, 12, 22, 24, 25, 27, 28, 42, 48, 50, 51, 55, 61] [(0, 1), (1, 2), (29, 36), (36, 64)] o_me z5.2 := hkpo1.trans (hz5_2.mono (by decide) (by decide) (by decide))
    refine wp_some ?_
    exact (show ((-6) ≤ z5.1.toInt ∧ z5.1.toInt ≤ 2147483647) ∧ IvX9 z5.2 ∧ Kp [8, 11, 13, 14, 15, 16, 18, 19, 20, 21, 23, 26, 29, 34, 38, 43, 56, 57, 58, 59, 62] [4, 5, 7, 10, 12, 22, 24, 25, 27, 28, 42, 48, 50, 51, 55, 61] [(0, 1), (1, 2), (29, 36), (36, 64)] o_me z5.2 from ⟨⟨hz5_0.1, hz5_0.2⟩, hz5_1, hkpz5_me⟩)
  · refine wp_bd (s_X9_in   p2.toInt64 (0 : Int64) (1 : Int64)    ) (fun z9 hz9 => ?_)
    refine wp_if (fun c10 => ?_) (fun c10 => ?_)
    · unfold bk_X9_beats_20
      refine wp_bd (s_X9_tell   o1 (-1 : Int32)  hIo1  ⟨by decide, by decide⟩) (fun z11 hz11 => ?_)
      obtain ⟨hz11_0, hz11_1, hz11_2⟩ := hz11
      have hkpz11_me : Kp [8, 11, 13, 14, 15, 16, 18, 19, 20, 21, 23, 26, 29, 34, 38, 43, 56, 57, 58, 59, 62] [4, 5, 7, 10, 12, 22, 24, 25, 27, 28, 42, 48, 50, 51, 55, 61] [(0, 1), (1, 2), (29, 36), (36, 64)] o_me z11.2 := hkpo1.trans (hz11_2.mono (by decide) (by decide) (by decide))
      refine wp_some ?_
      exact (show ((-6) ≤ z11.1.toInt ∧ z11.1.toInt ≤ 2147483647) ∧ IvX9 z11.2 ∧ Kp [8, 11, 13, 14, 15, 16, 18, 19, 20, 21, 23, 26, 29, 34, 38, 43, 56, 57, 58, 59, 62] [4, 5, 7, 10, 12, 22, 24, 25, 27, 28, 42, 48, 50, 51, 55, 61] [(0, 1), (1, 2), (29, 36), (36, 64)] o_me z11.2 from ⟨⟨hz11_0.1, hz11_0.2⟩, hz11_1, hkpz11_me⟩)
    · refine wp_bd (s_X9_isPerson   o1 p0  hIo1  ) (fun z13 hz13 => ?_)
      obtain ⟨hz13_0, hz13_1⟩ := hz13
      refine wp_if (fun c14 => ?_) (fun c14 => ?_)
      · have c14 := cv_eq (a := z13.toInt) (b := 0) rfl (by decide) c14
        unfold bk_X9_beats_42
        refine wp_bd (s_X9_tell   o1 (-2 : Int32)  hIo1  ⟨by decide, by decide⟩) (fun z15 hz15 => ?_)
        obtain ⟨hz15_0, hz15_1, hz15_2⟩ := hz15
        have hkpz15_me : Kp [8, 11, 13, 14, 15, 16, 18, 19, 20, 21, 23, 26, 29, 34, 38, 43, 56, 57, 58, 59, 62] [4, 5, 7, 10, 12, 22, 24, 25, 27, 28, 42, 48, 50, 51, 55, 61] [(0, 1), (1, 2), (29, 36), (36, 64)] o_me z15.2 := hkpo1.trans (hz15_2.mono (by decide) (by decide) (by decide))
        refine wp_some ?_
        exact (show ((-6) ≤ z15.1.toInt ∧ z15.1.toInt ≤ 2147483647) ∧ IvX9 z15.2 ∧ Kp [8, 11, 13, 14, 15, 16, 18, 19, 20, 21, 23, 26, 29, 34, 38, 43, 56, 57, 58, 59, 62] [4, 5, 7, 10, 12, 22, 24, 25, 27, 28, 42, 48, 50, 51, 55, 61] [(0, 1), (1, 2), (29, 36), (36, 64)] o_me z15.2 from ⟨⟨hz15_0.1, hz15_0.2⟩, hz15_1, hkpz15_me⟩)
      · have c14i := hz13_1 c14
        refine wp_bd (s_X9_isPerson   o1 p1  hIo1  ) (fun z17 hz17 => ?_)
        refine wp_if (fun c18 => ?_) (fun c18 => ?_)
        · unfold bk_X9_beats_42
          refine wp_bd (s_X9_tell   o1 (-2 : Int32)  hIo1  ⟨by decide, by decide⟩) (fun z19 hz19 => ?_)
          obtain ⟨hz19_0, hz19_1, hz19_2⟩ := hz19
          have hkpz19_me : Kp [8, 11, 13, 14, 15, 16, 18, 19, 20, 21, 23, 26, 29, 34, 38, 43, 56, 57, 58, 59, 62] [4, 5, 7, 10, 12, 22, 24, 25, 27, 28, 42, 48, 50, 51, 55, 61] [(0, 1), (1, 2), (29, 36), (36, 64)] o_me z19.2 := hkpo1.trans (hz19_2.mono (by decide) (by decide) (by decide))
          refine wp_some ?_
          exact (show ((-6) ≤ z19.1.toInt ∧ z19.1.toInt ≤ 2147483647) ∧ IvX9 z19.2 ∧ Kp [8, 11, 13, 14, 15, 16, 18, 19, 20, 21, 23, 26, 29, 34, 38, 43, 56, 57, 58, 59, 62] [4, 5, 7, 10, 12, 22, 24, 25, 27, 28, 42, 48, 50, 51, 55, 61] [(0, 1), (1, 2), (29, 36), (36, 64)] o_me z19.2 from ⟨⟨hz19_0.1, hz19_0.2⟩, hz19_1, hkpz19_me⟩)
        · have t21 : ((64 : Int32) + p0).toInt = 64 + p0.toInt := i32_add (by decide) rfl (zk_cl c14i.1 (by decide)) (zk_cu c14i.2 (by decide))
          refine wp_gd (zin_of (m := 5484) rfl (Int.le_trans (by decide) (zaqc_l (c := 64) t21 c14i.1 (by decide))) (zlt_m (c := 5483) (Int.le_trans (zaqc_u (c := 70) t21 c14i.2 (by decide)) (by decide)) (by decide))) ?_
          have t22 := i32_and (x := (gA o1 3 ((64 : Int32) + p0).toNatClampNeg) >>> (p1 &&& 31)) (y := (1 : Int32)) (m := 1) ⟨by decide, by decide⟩
          refine wp_lt (fun x23 ex23 => ?_)
          have tx23 : x23.toInt = (((gA o1 3 ((64 : Int32) + p0).toNatClampNeg) >>> (p1 &&& 31)) &&& (1 : Int32)).toInt := by rw [ex23]
          refine wp_lt (fun x24 ex24 => ?_)
          have tx24 : x24.toInt = ((64 : Int32) + p0).toInt := by rw [ex24]
          refine wp_gd (zin_of (m := 5484) rfl (zl_e (zq_0 tx24.symm) (zaqc_l (c := 64) t21 c14i.1 (by decide)) (by decide)) (zlt_m (c := 5483) (zu_e (zq_0 tx24) (zaqc_u (c := 70) t21 c14i.2 (by decide)) (by decide)) (by decide))) ?_
          refine wp_if (fun c25 => ?_) (fun c25 => ?_)
          · obtain ⟨w26, ew26⟩ : ∃ z : Int32, z = (0 : Int32) := ⟨_, rfl⟩
            obtain ⟨w27, ew27⟩ : ∃ z : Int32, z = gA o1 3 x24.toNatClampNeg := ⟨_, rfl⟩
            rw [show bk_X9_beats_87   x23 (0 : Int32) (gA o1 3 x24.toNatClampNeg) x24 o1 = bk_X9_beats_87   x23 w26 w27 x24 o1 from by rw [ew26, ew27]]
            unfold bk_X9_beats_87
            refine wp_gd (zin_of (m := 5484) rfl (zl_e (zq_0 tx24.symm) (zaqc_l (c := 64) t21 c14i.1 (by decide)) (by decide)) (zlt_m (c := 5483) (zu_e (zq_0 tx24) (zaqc_u (c := 70) t21 c14i.2 (by decide)) (by decide)) (by decide))) ?_
            refine wp_lt (fun o28 eo28 => ?_)
            have hIo28 : IvX9 o28 := by rw [eo28]; exact ibX9_3 hIo1 (zl_e (zq_0 tx24.symm) (zaqc_l (c := 64) t21 c14i.1 (by decide)) (by decide)) (zu_e (zq_0 tx24) (zaqc_u (c := 70) t21 c14i.2 (by decide)) (by decide)) (Or.inr (Or.inl (zlt_k (c := 1) (zl_e (zq_0 tx24.symm) (zaqc_l (c := 64) t21 c14i.1 (by decide)) (by decide)) (by decide)))) (Or.inr (Or.inl (zlt_k (c := 2) (zl_e (zq_0 tx24.symm) (zaqc_l (c := 64) t21 c14i.1 (by decide)) (by decide)) (by decide)))) (Or.inr (Or.inl (zlt_k (c := 3) (zl_e (zq_0 tx24.symm) (zaqc_l (c := 64) t21 c14i.1 (by decide)) (by decide)) (by decide)))) (Or.inr (Or.inl (zlt_k (c := 4) (zl_e (zq_0 tx24.symm) (zaqc_l (c := 64) t21 c14i.1 (by decide)) (by decide)) (by decide)))) (Or.inr (Or.inl (zlt_k (c := 8) (zl_e (zq_0 tx24.symm) (zaqc_l (c := 64) t21 c14i.1 (by decide)) (by decide)) (by decide)))) (Or.inr (Or.inl (zlt_k (c := 15) (zl_e (zq_0 tx24.symm) (zaqc_l (c := 64) t21 c14i.1 (by decide)) (by decide)) (by decide)))) (Or.inr (Or.inl (zlt_k (c := 29) (zl_e (zq_0 tx24.symm) (zaqc_l (c := 64) t21 c14i.1 (by decide)) (by decide)) (by decide)))) (Or.inr (Or.inl (zlt_k (c := 36) (zl_e (zq_0 tx24.symm) (zaqc_l (c := 64) t21 c14i.1 (by decide)) (by decide)) (by decide)))) (Or.inl (zlt_m (c := 70) (zu_e (zq_0 tx24) (zaqc_u (c := 70) t21 c14i.2 (by decide)) (by decide)) (by decide)))
            have hkpo28 : Kp [8, 11, 13, 14, 15, 16, 18, 19, 20, 21, 23, 26, 29, 34, 38, 43, 56, 57, 58, 59, 62] [4, 5, 7, 10, 12, 22, 24, 25, 27, 28, 42, 48, 50, 51, 55, 61] [(0, 1), (1, 2), (29, 36), (36, 64)] o_me o28 := hkpo1.trans (by rw [eo28]; exact kp_bw (a := 64) (b := 71) (by decide) (by decide) (Int.le_trans (by decide) (zl_e (k := 64) (zq_0 tx24.symm) (zaqc_l (c := 64) t21 c14i.1 (by decide)) (by decide))) (Int.lt_of_le_of_lt (zu_e (k := 70) (zq_0 tx24) (zaqc_u (c := 70) t21 c14i.2 (by decide)) (by decide)) (by decide)))
            have rg31 := i32_rg x23
            refine wp_bd (s_X9_tell   o28 x23  hIo28  ⟨(zl_e (zq_0 tx23.symm) t22.1 (by decide)), rg31.2⟩) (fun z30 hz30 => ?_)
            obtain ⟨hz30_0, hz30_1, hz30_2⟩ := hz30
            have hkpz30_me : Kp [8, 11, 13, 14, 15, 16, 18, 19, 20, 21, 23, 26, 29, 34, 38, 43, 56, 57, 58, 59, 62] [4, 5, 7, 10, 12, 22, 24, 25, 27, 28, 42, 48, 50, 51, 55, 61] [(0, 1), (1, 2), (29, 36), (36, 64)] o_me z30.2 := hkpo28.trans (hz30_2.mono (by decide) (by decide) (by decide))
            refine wp_some ?_
            exact (show ((-6) ≤ z30.1.toInt ∧ z30.1.toInt ≤ 2147483647) ∧ IvX9 z30.2 ∧ Kp [8, 11, 13, 14, 15, 16, 18, 19, 20, 21, 23, 26, 29, 34, 38, 43, 56, 57, 58, 59, 62] [4, 5, 7, 10, 12, 22, 24, 25, 27, 28, 42, 48, 50, 51, 55, 61] [(0, 1), (1, 2), (29, 36), (36, 64)] o_me z30.2 from ⟨⟨hz30_0.1, hz30_0.2⟩, hz30_1, hkpz30_me⟩)
          · obtain ⟨w35, ew35⟩ : ∃ z : Int32, z = (1 : Int32) <<< (p1 &&& 31) := ⟨_, rfl⟩
            obtain ⟨w36, ew36⟩ : ∃ z : Int32, z = gA o1 3 x24.toNatClampNeg := ⟨_, rfl⟩
            rw [show bk_X9_beats_87   x23 ((1 : Int32) <<< (p1 &&& 31)) (gA o1 3 x24.toNatClampNeg) x24 o1 = bk_X9_beats_87   x23 w35 w36 x24 o1 from by rw [ew35, ew36]]
            unfold bk_X9_beats_87
            refine wp_gd (zin_of (m := 5484) rfl (zl_e (zq_0 tx24.symm) (zaqc_l (c := 64) t21 c14i.1 (by decide)) (by decide)) (zlt_m (c := 5483) (zu_e (zq_0 tx24) (zaqc_u (c := 70) t21 c14i.2 (by decide)) (by decide)) (by decide))) ?_
            refine wp_lt (fun o37 eo37 => ?_)
            have hIo37 : IvX9 o37 := by rw [eo37]; exact ibX9_3 hIo1 (zl_e (zq_0 tx24.symm) (zaqc_l (c := 64) t21 c14i.1 (by decide)) (by decide)) (zu_e (zq_0 tx24) (zaqc_u (c := 70) t21 c14i.2 (by decide)) (by decide)) (Or.inr (Or.inl (zlt_k (c := 1) (zl_e (zq_0 tx24.symm) (zaqc_l (c := 64) t21 c14i.1 (by decide)) (by decide)) (by decide)))) (Or.inr (Or.inl (zlt_k (c := 2) (zl_e (zq_0 tx24.symm) (zaqc_l (c := 64) t21 c14i.1 (by decide)) (by decide)) (by decide)))) (Or.inr (Or.inl (zlt_k (c := 3) (zl_e (zq_0 tx24.symm) (zaqc_l (c := 64) t21 c14i.1 (by decide)) (by decide)) (by decide)))) (Or.inr (Or.inl (zlt_k (c := 4) (zl_e (zq_0 tx24.symm) (zaqc_l (c := 64) t21 c14i.1 (by decide)) (by decide)) (by decide)))) (Or.inr (Or.inl (zlt_k (c := 8) (zl_e (zq_0 tx24.symm) (zaqc_l (c := 64) t21 c14i.1 (by decide)) (by decide)) (by decide)))) (Or.inr (Or.inl (zlt_k (c := 15) (zl_e (zq_0 tx24.symm) (zaqc_l (c := 64) t21 c14i.1 (by decide)) (by decide)) (by decide)))) (Or.inr (Or.inl (zlt_k (c := 29) (zl_e (zq_0 tx24.symm) (zaqc_l (c := 64) t21 c14i.1 (by decide)) (by decide)) (by decide)))) (Or.inr (Or.inl (zlt_k (c := 36) (zl_e (zq_0 tx24.symm) (zaqc_l (c := 64) t21 c14i.1 (by decide)) (by decide)) (by decide)))) (Or.inl (zlt_m (c := 70) (zu_e (zq_0 tx24) (zaqc_u (c := 70) t21 c14i.2 (by decide)) (by decide)) (by decide)))
            have hkpo37 : Kp [8, 11, 13, 14, 15, 16, 18, 19, 20, 21, 23, 26, 29, 34, 38, 43, 56, 57, 58, 59, 62] [4, 5, 7, 10, 12, 22, 24, 25, 27, 28, 42, 48, 50, 51, 55, 61] [(0, 1), (1, 2), (29, 36), (36, 64)] o_me o37 := hkpo1.trans (by rw [eo37]; exact kp_bw (a := 64) (b := 71) (by decide) (by decide) (Int.le_trans (by decide) (zl_e (k := 64) (zq_0 tx24.symm) (zaqc_l (c := 64) t21 c14i.1 (by decide)) (by decide))) (Int.lt_of_le_of_lt (zu_e (k := 70) (zq_0 tx24) (zaqc_u (c := 70) t21 c14i.2 (by decide)) (by decide)) (by decide)))
            have rg40 := i32_rg x23
            refine wp_bd (s_X9_tell   o37 x23  hIo37  ⟨(zl_e (zq_0 tx23.symm) t22.1 (by decide)), rg40.2⟩) (fun z39 hz39 => ?_)
            obtain ⟨hz39_0, hz39_1, hz39_2⟩ := hz39
            have hkpz39_me : Kp [8, 11, 13, 14, 15, 16, 18, 19, 20, 21, 23, 26, 29, 34, 38, 43, 56, 57, 58, 59, 62] [4, 5, 7, 10, 12, 22, 24, 25, 27, 28, 42, 48, 50, 51, 55, 61] [(0, 1), (1, 2), (29, 36), (36, 64)] o_me z39.2 := hkpo37.trans (hz39_2.mono (by decide) (by decide) (by decide))
            refine wp_some ?_
            exact (show ((-6) ≤ z39.1.toInt ∧ z39.1.toInt ≤ 2147483647) ∧ IvX9 z39.2 ∧ Kp [8, 11, 13, 14, 15, 16, 18, 19, 20, 21, 23, 26, 29, 34, 38, 43, 56, 57, 58, 59, 62] [4, 5, 7, 10, 12, 22, 24, 25, 27, 28, 42, 48, 50, 51, 55, 61] [(0, 1), (1, 2), (29, 36), (36, 64)] o_me z39.2 from ⟨⟨hz39_0.1, hz39_0.2⟩, hz39_1, hkpz39_me⟩)

set_option maxHeartbeats 4000000 in
set_option maxRecDepth 100000 in
theorem s_X9_isSmall (p0 : Int32)   : wp (f_X9_isSmall   p0) (fun (y : Int32) => (0 ≤ y.toInt ∧ y.toInt ≤ 1)) := by
  unfold f_X9_isSmall
  refine wp_if (fun c1 => ?_) (fun c1 => ?_)
  · refine wp_some ?_
    exact (show (0 ≤ (0 : Int32).toInt ∧ (0 : Int32).toInt ≤ 1) from ⟨by decide, by decide⟩)
  · refine wp_if (fun c2 => ?_) (fun c2 => ?_)
    · refine wp_some ?_
      exact (show (0 ≤ (0 : Int32).toInt ∧ (0 : Int32).toInt ≤ 1) from ⟨by decide, by decide⟩)
    · refine wp_some ?_
      exact (show (0 ≤ (1 : Int32).toInt ∧ (1 : Int32).toInt ≤ 1) from ⟨by decide, by decide⟩)

set_option maxHeartbeats 4000000 in
set_option maxRecDepth 100000 in
theorem s_X9_isDigit (p0 : Int32)   : wp (f_X9_isDigit   p0) (fun (y : Int32) => (0 ≤ y.toInt ∧ y.toInt ≤ 1)) := by
  unfold f_X9_isDigit
  refine wp_if (fun c1 => ?_) (fun c1 => ?_)
  · refine wp_some ?_
    exact (show (0 ≤ (0 : Int32).toInt ∧ (0 : Int32).toInt ≤ 1) from ⟨by decide, by decide⟩)
  · refine wp_if (fun c2 => ?_) (fun c2 => ?_)
    · refine wp_some ?_
      exact (show (0 ≤ (0 : Int32).toInt ∧ (0 : Int32).toInt ≤ 1) from ⟨by decide, by decide⟩)
    · refine wp_some ?_
      exact (show (0 ≤ (1 : Int32).toInt ∧ (1 : Int32).toInt ≤ 1) from ⟨by decide, by decide⟩)

set_option maxHeartbeats 4000000 in
set_option maxRecDepth 100000 in
theorem s_X9_next (o_me : Ob) (hI_me : IvX9 o_me) (r0 : (gI o_me 15).toInt ≤ (gI o_me 13).toInt + 0) : wp (f_X9_next   o_me) (fun (y : Ob) => IvX9 y ∧ Kp [1, 8, 11, 13, 18, 19, 20, 21, 23, 26, 29, 34, 38, 43, 56, 57, 58, 59, 62] [2, 3, 4, 5, 7, 10, 12, 22, 24, 25, 27, 28, 42, 48, 50, 51, 55, 61] [(0, 1), (1, 2), (29, 36), (36, 64), (64, 71)] o_me y ∧ ((gI y 15).toInt ≤ (gI y 13).toInt + 0)) := by
  have li0 : (-1 : Int64).toInt = (-1) := by decide
  have li1 : (0 : Int32).toInt = 0 := by decide
  have li2 : (0 : Int64).toInt = 0 := by decide
  have li3 : (1 : Int32).toInt = 1 := by decide
  have li4 : (10 : Int32).toInt = 10 := by decide
  have li5 : (10 : Int64).toInt = 10 := by decide
  have li6 : (1000000 : Int64).toInt = 1000000 := by decide
  have li7 : (2 : Int32).toInt = 2 := by decide
  have li8 : (3 : Int32).toInt = 3 := by decide
  have li9 : (32 : Int32).toInt = 32 := by decide
  have li10 : (32 : Int64).toInt = 32 := by decide
  have li11 : (48 : Int64).toInt = 48 := by decide
  have li12 : (96 : Int64).toInt = 96 := by decide
  unfold f_X9_next
  have t1 := igX9_15 hI_me
  refine wp_lt (fun o2 eo2 => ?_)
  have hIo2 : IvX9 o2 := by rw [eo2]; exact ipX9_14 hI_me ⟨t1.1, t1.2⟩
  have ko2_k3 : (gI o2 13).toInt = (gI o_me 13).toInt := by rw [eo2]; rfl
  have ko2_k4 : (gI o2 15).toInt = (gI o_me 15).toInt := by rw [eo2]; rfl
  have ko2_v : (gI o2 14).toInt = (gI o_me 15).toInt := by rw [eo2]; rfl
  have hkpo2 : Kp [1, 8, 11, 13, 18, 19, 20, 21, 23, 26, 29, 34, 38, 43, 56, 57, 58, 59, 62] [2, 3, 4, 5, 7, 10, 12, 22, 24, 25, 27, 28, 42, 48, 50, 51, 55, 61] [(0, 1), (1, 2), (29, 36), (36, 64), (64, 71)] o_me o2 := Kp.rf.trans (by rw [eo2]; exact Kp.sI (by decide))
  have lp1 : ∀ (N1 : Nat) (o_me_1 : Ob), IvX9 o_me_1 → Kp [1, 8, 11, 13, 18, 19, 20, 21, 23, 26, 29, 34, 38, 43, 56, 57, 58, 59, 62] [2, 3, 4, 5, 7, 10, 12, 22, 24, 25, 27, 28, 42, 48, 50, 51, 55, 61] [(0, 1), (1, 2), (29, 36), (36, 64), (64, 71)] o_me o_me_1 → (0 ≤ (gI o_me_1 14).toInt ∧ (gI o_me_1 14).toInt ≤ 400) → ((gI o_me_1 14).toInt ≤ (gI o_me_1 13).toInt + 0) → (400 - (gI o_me_1 14).toInt).toNat < N1 → wp (lp_X9_next_8   N1 o_me_1) (fun (y : Ob) => IvX9 y ∧ Kp [1, 8, 11, 13, 18, 19, 20, 21, 23, 26, 29, 34, 38, 43, 56, 57, 58, 59, 62] [2, 3, 4, 5, 7, 10, 12, 22, 24, 25, 27, 28, 42, 48, 50, 51, 55, 61] [(0, 1), (1, 2), (29, 36), (36, 64), (64, 71)] o_me y ∧ ((gI y 15).toInt ≤ (gI y 13).toInt + 0)) := by
    intro N1
    induction N1 with
    | zero =>
      intro o_me_1 hI_me_1 hkp_me_1 hh8 hh9 hN1
      exact absurd hN1 (Nat.not_lt_zero _)
    | succ N1 ihx =>
      have ih1 := ihx
      intro o_me_1 hI_me_1 hkp_me_1 hh8 hh9 hN1
      show wp (lb_X9_next_8   (lp_X9_next_8   N1) o_me_1) (fun (y : Ob) => IvX9 y ∧ Kp [1, 8, 11, 13, 18, 19, 20, 21, 23, 26, 29, 34, 38, 43, 56, 57, 58, 59, 62] [2, 3, 4, 5, 7, 10, 12, 22, 24, 25, 27, 28, 42, 48, 50, 51, 55, 61] [(0, 1), (1, 2), (29, 36), (36, 64), (64, 71)] o_me y ∧ ((gI y 15).toInt ≤ (gI y 13).toInt + 0))
      unfold lb_X9_next_8
      have t11 := igX9_13 hI_me_1
      refine wp_if (fun c12 => ?_) (fun c12 => ?_)
      · have c12 := cv_ge (a := (gI o_me_1 14).toInt) (b := (gI o_me_1 13).toInt) rfl rfl c12
        unfold bk_X9_next_46
        refine wp_lt (fun o13 eo13 => ?_)
        have hIo13 : IvX9 o13 := by rw [eo13]; exact ipX9_15 hI_me_1 ⟨hh8.1, hh8.2⟩
        have ko13_k14 : (gI o13 13).toInt = (gI o_me_1 13).toInt := by rw [eo13]; rfl
        have ko13_k15 : (gI o13 14).toInt = (gI o_me_1 14).toInt := by rw [eo13]; rfl
        have ko13_v : (gI o13 15).toInt = (gI o_me_1 14).toInt := by rw [eo13]; rfl
        have hkpo13 : Kp [1, 8, 11, 13, 18, 19, 20, 21, 23, 26, 29, 34, 38, 43, 56, 57, 58, 59, 62] [2, 3, 4, 5, 7, 10, 12, 22, 24, 25, 27, 28, 42, 48, 50, 51, 55, 61] [(0, 1), (1, 2), (29, 36), (36, 64), (64, 71)] o_me o13 := hkp_me_1.trans (by rw [eo13]; exact Kp.sI (by decide))
        refine wp_lt (fun o16 eo16 => ?_)
        have hIo16 : IvX9 o16 := by rw [eo16]; exact hIo13
        have ko16_k17 : (gI o16 13).toInt = (gI o13 13).toInt := by rw [eo16]; rfl
        have ko16_k18 : (gI o16 14).toInt = (gI o13 14).toInt := by rw [eo16]; rfl
        have ko16_k19 : (gI o16 15).toInt = (gI o13 15).toInt := by rw [eo16]; rfl
        have ko16_v : (gL o16 17).toInt = 0 := by rw [eo16]; exact (show ((0 : Int64)).toInt = _ from by decide)
        have hkpo16 : Kp [1, 8, 11, 13, 18, 19, 20, 21, 23, 26, 29, 34, 38, 43, 56, 57, 58, 59, 62] [2, 3, 4, 5, 7, 10, 12, 22, 24, 25, 27, 28, 42, 48, 50, 51, 55, 61] [(0, 1), (1, 2), (29, 36), (36, 64), (64, 71)] o_me o16 := hkpo13.trans (by rw [eo16]; exact Kp.sL)
        refine wp_if (fun c20 => ?_) (fun c20 => ?_)
        · have c20 := cv_eq (a := (gI o16 14).toInt) (b := (gI o16 13).toInt) rfl rfl c20
          obtain ⟨w21, ew21⟩ : ∃ z : Int32, z = (0 : Int32) := ⟨_, rfl⟩
          have tw21 : w21.toInt = 0 := by rw [ew21]; decide
          rw [show bk_X9_next_114   (0 : Int32) o16 = bk_X9_next_114   w21 o16 from by rw [ew21]]
          unfold bk_X9_next_114
          refine wp_lt (fun o22 eo22 => ?_)
          have hIo22 : IvX9 o22 := by rw [eo22]; exact ipX9_16 hIo16 ⟨(Int.le_of_eq tw21.symm), (Int.le_trans (Int.le_of_eq tw21) (by decide))⟩
          have ko22_k23 : (gI o22 13).toInt = (gI o16 13).toInt := by rw [eo22]; rfl
          have ko22_k24 : (gI o22 14).toInt = (gI o16 14).toInt := by rw [eo22]; rfl
          have ko22_k25 : (gI o22 15).toInt = (gI o16 15).toInt := by rw [eo22]; rfl
          have ko22_k26 : (gL o22 17).toInt = (gL o16 17).toInt := by rw [eo22]; rfl
          have ko22_v : (gI o22 16).toInt = w21.toInt := by rw [eo22]; rfl
          have hkpo22 : Kp [1, 8, 11, 13, 18, 19, 20, 21, 23, 26, 29, 34, 38, 43, 56, 57, 58, 59, 62] [2, 3, 4, 5, 7, 10, 12, 22, 24, 25, 27, 28, 42, 48, 50, 51, 55, 61] [(0, 1), (1, 2), (29, 36), (36, 64), (64, 71)] o_me o22 := hkpo16.trans (by rw [eo22]; exact Kp.sI (by decide))
          refine wp_if (fun c27 => ?_) (fun c27 => ?_)
          · have c27 := cv_eq (a := (gI o22 16).toInt) (b := 3) rfl (by decide) c27
            exact absurd c27 (zne_l (k := 0) (l := 3) (zu_e (k := 0) (zq_0 ko22_v) (Int.le_of_eq tw21) (by decide)) (by decide) (by decide))
          · have c27 := cv_ne (a := (gI o22 16).toInt) (b := 3) rfl (by decide) c27
            have lp2 : ∀ (N2 : Nat) (o_me_2 : Ob), IvX9 o_me_2 → Kp [1, 8, 11, 13, 18, 19, 20, 21, 23, 26, 29, 34, 38, 43, 56, 57, 58, 59, 62] [2, 3, 4, 5, 7, 10, 12, 22, 24, 25, 27, 28, 42, 48, 50, 51, 55, 61] [(0, 1), (1, 2), (29, 36), (36, 64), (64, 71)] o_me o_me_2 → (0 ≤ (gI o_me_2 15).toInt ∧ (gI o_me_2 15).toInt ≤ 400) → (0 ≤ (gI o_me_2 16).toInt ∧ (gI o_me_2 16).toInt ≤ 0) → ((gI o_me_2 15).toInt ≤ (gI o_me_2 13).toInt + 0) → (400 - (gI o_me_2 15).toInt).toNat < N2 → wp (lp_X9_next_149   N2 o_me_2) (fun (y : Ob) => IvX9 y ∧ Kp [1, 8, 11, 13, 18, 19, 20, 21, 23, 26, 29, 34, 38, 43, 56, 57, 58, 59, 62] [2, 3, 4, 5, 7, 10, 12, 22, 24, 25, 27, 28, 42, 48, 50, 51, 55, 61] [(0, 1), (1, 2), (29, 36), (36, 64), (64, 71)] o_me y ∧ ((gI y 15).toInt ≤ (gI y 13).toInt + 0)) := by
              intro N2
              induction N2 with
              | zero =>
                intro o_me_2 hI_me_2 hkp_me_2 hh31 hh32 hh33 hN2
                exact absurd hN2 (Nat.not_lt_zero _)
              | succ N2 ihx =>
                have ih2 := ihx
                intro o_me_2 hI_me_2 hkp_me_2 hh31 hh32 hh33 hN2
                show wp (lb_X9_next_149   (lp_X9_next_149   N2) o_me_2) (fun (y : Ob) => IvX9 y ∧ Kp [1, 8, 11, 13, 18, 19, 20, 21, 23, 26, 29, 34, 38, 43, 56, 57, 58, 59, 62] [2, 3, 4, 5, 7, 10, 12, 22, 24, 25, 27, 28, 42, 48, 50, 51, 55, 61] [(0, 1), (1, 2), (29, 36), (36, 64), (64, 71)] o_me y ∧ ((gI y 15).toInt ≤ (gI y 13).toInt + 0))
                unfold lb_X9_next_149
                refine wp_if (fun c35 => ?_) (fun c35 => ?_)
                · have c35 := cv_eq (a := (gI o_me_2 16).toInt) (b := 1) rfl (by decide) c35
                  exact absurd c35 (zne_l (k := 0) (l := 1) hh32.2 (by decide) (by decide))
                · have c35 := cv_ne (a := (gI o_me_2 16).toInt) (b := 1) rfl (by decide) c35
                  have lp3 : ∀ (N3 : Nat) (o_me_3 : Ob), IvX9 o_me_3 → Kp [1, 8, 11, 13, 18, 19, 20, 21, 23, 26, 29, 34, 38, 43, 56, 57, 58, 59, 62] [2, 3, 4, 5, 7, 10, 12, 22, 24, 25, 27, 28, 42, 48, 50, 51, 55, 61] [(0, 1), (1, 2), (29, 36), (36, 64), (64, 71)] o_me o_me_3 → (0 ≤ (gI o_me_3 15).toInt ∧ (gI o_me_3 15).toInt ≤ 400) → (0 ≤ (gI o_me_3 16).toInt ∧ (gI o_me_3 16).toInt ≤ 0) → ((gI o_me_3 15).toInt ≤ (gI o_me_3 13).toInt + 0) → (400 - (gI o_me_3 15).toInt).toNat < N3 → wp (lp_X9_next_243   N3 o_me_3) (fun (y : Ob) => IvX9 y ∧ Kp [1, 8, 11, 13, 18, 19, 20, 21, 23, 26, 29, 34, 38, 43, 56, 57, 58, 59, 62] [2, 3, 4, 5, 7, 10, 12, 22, 24, 25, 27, 28, 42, 48, 50, 51, 55, 61] [(0, 1), (1, 2), (29, 36), (36, 64), (64, 71)] o_me y ∧ ((gI y 15).toInt ≤ (gI y 13).toInt + 0)) := by
                    intro N3
                    induction N3 with
                    | zero =>
                      intro o_me_3 hI_me_3 hkp_me_3 hh40 hh41 hh42 hN3
                      exact absurd hN3 (Nat.not_lt_zero _)
                    | succ N3 ihx =>
                      have ih3 := ihx
                      intro o_me_3 hI_me_3 hkp_me_3 hh40 hh41 hh42 hN3
                      show wp (lb_X9_next_243   (lp_X9_next_243   N3) o_me_3) (fun (y : Ob) => IvX9 y ∧ Kp [1, 8, 11, 13, 18, 19, 20, 21, 23, 26, 29, 34, 38, 43, 56, 57, 58, 59, 62] [2, 3, 4, 5, 7, 10, 12, 22, 24, 25, 27, 28, 42, 48, 50, 51, 55, 61] [(0, 1), (1, 2), (29, 36), (36, 64), (64, 71)] o_me y ∧ ((gI y 15).toInt ≤ (gI y 13).toInt + 0))
                      unfold lb_X9_next_243
                      refine wp_if (fun c44 => ?_) (fun c44 => ?_)
                      · have c44 := cv_eq (a := (gI o_me_3 16).toInt) (b := 2) rfl (by decide) c44
                        exact absurd c44 (zne_l (k := 0) (l := 2) hh41.2 (by decide) (by decide))
                      · have c44 := cv_ne (a := (gI o_me_3 16).toInt) (b := 2) rfl (by decide) c44
                        refine wp_some ?_
                        have t45 := igX9_13 hI_me_3
                        exact (show IvX9 o_me_3 ∧ Kp [1, 8, 11, 13, 18, 19, 20, 21, 23, 26, 29, 34, 38, 43, 56, 57, 58, 59, 62] [2, 3, 4, 5, 7, 10, 12, 22, 24, 25, 27, 28, 42, 48, 50, 51, 55, 61] [(0, 1), (1, 2), (29, 36), (36, 64), (64, 71)] o_me o_me_3 ∧ ((gI o_me_3 15).toInt ≤ (gI o_me_3 13).toInt + 0) from ⟨hI_me_3, hkp_me_3, hh42⟩)
                  have t46 := igX9_13 hI_me_2
                  exact lp3 zfu o_me_2 hI_me_2 hkp_me_2 ⟨hh31.1, hh31.2⟩ ⟨hh32.1, hh32.2⟩ hh33 (zme_u (l := 0) hh31.1 (by decide))
            exact lp2 zfu o22 hIo22 hkpo22 ⟨(zl_e (zd_e (c := 0) (zq_0 ko13_v.symm) (zd_e (c := 0) (zq_0 ko16_k19.symm) (zq_0 ko22_k25.symm) (by decide)) (by decide)) hh8.1 (by decide)), (zu_e (zd_e (c := 0) (zd_e (c := 0) (zq_0 ko22_k25) (zq_0 ko16_k19) (by decide)) (zq_0 ko13_v) (by decide)) hh8.2 (by decide))⟩ ⟨(zl_e (zq_0 ko22_v.symm) (Int.le_of_eq tw21.symm) (by decide)), (zu_e (zq_0 ko22_v) (Int.le_of_eq tw21) (by decide))⟩ (by omega) (zme_u (l := 0) (zl_e (k := 0) (zd_e (c := 0) (zq_0 ko13_v.symm) (zd_e (c := 0) (zq_0 ko16_k19.symm) (zq_0 ko22_k25.symm) (by decide)) (by decide)) hh8.1 (by decide)) (by decide))
        · have c20 := cv_ne (a := (gI o16 14).toInt) (b := (gI o16 13).toInt) rfl rfl c20
          exfalso; omega
      · have c12 := cv_nge (a := (gI o_me_1 14).toInt) (b := (gI o_me_1 13).toInt) rfl rfl c12
        refine wp_gd (zin_of (m := 400) rfl hh8.1 (zlt_m (c := 399) (zu_e (zl_d c12) t11.2 (by decide)) (by decide))) ?_
        refine wp_if (fun c47 => ?_) (fun c47 => ?_)
        · have c47 := cv_eq (a := (gA o_me_1 12 (gI o_me_1 14).toNatClampNeg).toInt) (b := 32) rfl (by decide) c47
          have t48 : ((gI o_me_1 14) + (1 : Int32)).toInt = (gI o_me_1 14).toInt + 1 := i32_add rfl (by decide) (zk_l hh8.1 (by decide)) (zk_u (zu_e (k := 399) (zl_d c12) t11.2 (by decide)) (by decide))
          refine wp_lt (fun o49 eo49 => ?_)
          have hIo49 : IvX9 o49 := by rw [eo49]; exact ipX9_14 hI_me_1 ⟨(zl_e (zq_r (c := (-1)) t48 (by decide)) hh8.1 (by decide)), (zu_e (zd_e (c := 0) (Int.le_of_eq t48) (zl_d c12) (by decide)) t11.2 (by decide))⟩
          have ko49_k50 : (gA o49 12 (gI o_me_1 14).toNatClampNeg).toInt = (gA o_me_1 12 (gI o_me_1 14).toNatClampNeg).toInt := by rw [eo49]; rfl
          have ko49_k51 : (gI o49 13).toInt = (gI o_me_1 13).toInt := by rw [eo49]; rfl
          have ko49_v : (gI o49 14).toInt = ((gI o_me_1 14) + (1 : Int32)).toInt := by rw [eo49]; rfl
          have hkpo49 : Kp [1, 8, 11, 13, 18, 19, 20, 21, 23, 26, 29, 34, 38, 43, 56, 57, 58, 59, 62] [2, 3, 4, 5, 7, 10, 12, 22, 24, 25, 27, 28, 42, 48, 50, 51, 55, 61] [(0, 1), (1, 2), (29, 36), (36, 64), (64, 71)] o_me o49 := hkp_me_1.trans (by rw [eo49]; exact Kp.sI (by decide))
          exact ih1 o49 hIo49 hkpo49 ⟨(zl_e (zd_e (c := (-1)) (zq_r (c := (-1)) t48 (by decide)) (zq_0 ko49_v.symm) (by decide)) hh8.1 (by decide)), (zu_e (zd_e (c := 0) (zd_e (c := 1) (zq_0 ko49_v) (Int.le_of_eq t48) (by decide)) (zl_d c12) (by decide)) t11.2 (by decide))⟩ (zd_e (c := 0) (zd_e (c := 0) (zd_e (c := 1) (zq_0 ko49_v) (Int.le_of_eq t48) (by decide)) (zl_d c12) (by decide)) (zq_0 ko49_k51.symm) (by decide)) (zms_u (c := 399) hN1 (zd_e (c := (-1)) (zq_r (c := (-1)) t48 (by decide)) (zq_0 ko49_v.symm) (by decide)) (zu_e (zl_d c12) t11.2 (by decide)) (by decide))
        · have c47 := cv_ne (a := (gA o_me_1 12 (gI o_me_1 14).toNatClampNeg).toInt) (b := 32) rfl (by decide) c47
          unfold bk_X9_next_46
          refine wp_lt (fun o52 eo52 => ?_)
          have hIo52 : IvX9 o52 := by rw [eo52]; exact ipX9_15 hI_me_1 ⟨hh8.1, hh8.2⟩
          have ko52_k53 : (gA o52 12 (gI o_me_1 14).toNatClampNeg).toInt = (gA o_me_1 12 (gI o_me_1 14).toNatClampNeg).toInt := by rw [eo52]; rfl
          have ko52_k54 : (gI o52 13).toInt = (gI o_me_1 13).toInt := by rw [eo52]; rfl
          have ko52_k55 : (gI o52 14).toInt = (gI o_me_1 14).toInt := by rw [eo52]; rfl
          have ko52_v : (gI o52 15).toInt = (gI o_me_1 14).toInt := by rw [eo52]; rfl
          have hkpo52 : Kp [1, 8, 11, 13, 18, 19, 20, 21, 23, 26, 29, 34, 38, 43, 56, 57, 58, 59, 62] [2, 3, 4, 5, 7, 10, 12, 22, 24, 25, 27, 28, 42, 48, 50, 51, 55, 61] [(0, 1), (1, 2), (29, 36), (36, 64), (64, 71)] o_me o52 := hkp_me_1.trans (by rw [eo52]; exact Kp.sI (by decide))
          refine wp_lt (fun o56 eo56 => ?_)
          have hIo56 : IvX9 o56 := by rw [eo56]; exact hIo52
          have ko56_k57 : (gA o56 12 (gI o_me_1 14).toNatClampNeg).toInt = (gA o52 12 (gI o_me_1 14).toNatClampNeg).toInt := by rw [eo56]; rfl
          have ko56_k58 : (gI o56 13).toInt = (gI o52 13).toInt := by rw [eo56]; rfl
          have ko56_k59 : (gI o56 14).toInt = (gI o52 14).toInt := by rw [eo56]; rfl
          have ko56_k60 : (gI o56 15).toInt = (gI o52 15).toInt := by rw [eo56]; rfl
          have ko56_v : (gL o56 17).toInt = 0 := by rw [eo56]; exact (show ((0 : Int64)).toInt = _ from by decide)
          have hkpo56 : Kp [1, 8, 11, 13, 18, 19, 20, 21, 23, 26, 29, 34, 38, 43, 56, 57, 58, 59, 62] [2, 3, 4, 5, 7, 10, 12, 22, 24, 25, 27, 28, 42, 48, 50, 51, 55, 61] [(0, 1), (1, 2), (29, 36), (36, 64), (64, 71)] o_me o56 := hkpo52.trans (by rw [eo56]; exact Kp.sL)
          refine wp_if (fun c61 => ?_) (fun c61 => ?_)
          · have c61 := cv_eq (a := (gI o56 14).toInt) (b := (gI o56 13).toInt) rfl rfl c61
            exfalso; omega
          · have c61 := cv_ne (a := (gI o56 14).toInt) (b := (gI o56 13).toInt) rfl rfl c61
            refine wp_gd (zin_of (m := 400) rfl (zl_e (zd_e (c := 0) (zq_0 ko52_k55.symm) (zq_0 ko56_k59.symm) (by decide)) hh8.1 (by decide)) (zlt_m (c := 399) (zu_e (zd_e (c := (-1)) (zd_e (c := 0) (zq_0 ko56_k59) (zq_0 ko52_k55) (by decide)) (zl_d c12) (by decide)) t11.2 (by decide)) (by decide))) ?_
            refine wp_bd (s_X9_isSmall   (gA o56 12 (gI o56 14).toNatClampNeg)    ) (fun z62 hz62 => ?_)
            have hz62_0 := hz62
            refine wp_if (fun c63 => ?_) (fun c63 => ?_)
            · have c63 := cv_eq (a := z62.toInt) (b := 0) rfl (by decide) c63
              refine wp_gd (zin_of (m := 400) rfl (zl_e (zd_e (c := 0) (zq_0 ko52_k55.symm) (zq_0 ko56_k59.symm) (by decide)) hh8.1 (by decide)) (zlt_m (c := 399) (zu_e (zd_e (c := (-1)) (zd_e (c := 0) (zq_0 ko56_k59) (zq_0 ko52_k55) (by decide)) (zl_d c12) (by decide)) t11.2 (by decide)) (by decide))) ?_
              refine wp_bd (s_X9_isDigit   (gA o56 12 (gI o56 14).toNatClampNeg)    ) (fun z64 hz64 => ?_)
              have hz64_0 := hz64
              refine wp_if (fun c65 => ?_) (fun c65 => ?_)
              · have c65 := cv_eq (a := z64.toInt) (b := 0) rfl (by decide) c65
                obtain ⟨w66, ew66⟩ : ∃ z : Int32, z = (3 : Int32) := ⟨_, rfl⟩
                have tw66 : w66.toInt = 3 := by rw [ew66]; decide
                rw [show bk_X9_next_114   (3 : Int32) o56 = bk_X9_next_114   w66 o56 from by rw [ew66]]
                unfold bk_X9_next_114
                refine wp_lt (fun o67 eo67 => ?_)
                have hIo67 : IvX9 o67 := by rw [eo67]; exact ipX9_16 hIo56 ⟨(Int.le_trans (by decide) (Int.le_of_eq tw66.symm)), (Int.le_of_eq tw66)⟩
                have ko67_k68 : (gA o67 12 (gI o_me_1 14).toNatClampNeg).toInt = (gA o56 12 (gI o_me_1 14).toNatClampNeg).toInt := by rw [eo67]; rfl
                have ko67_k69 : (gI o67 13).toInt = (gI o56 13).toInt := by rw [eo67]; rfl
                have ko67_k70 : (gI o67 14).toInt = (gI o56 14).toInt := by rw [eo67]; rfl
                have ko67_k71 : (gI o67 15).toInt = (gI o56 15).toInt := by rw [eo67]; rfl
                have ko67_k72 : (gL o67 17).toInt = (gL o56 17).toInt := by rw [eo67]; rfl
                have ko67_v : (gI o67 16).toInt = w66.toInt := by rw [eo67]; rfl
                have hkpo67 : Kp [1, 8, 11, 13, 18, 19, 20, 21, 23, 26, 29, 34, 38, 43, 56, 57, 58, 59, 62] [2, 3, 4, 5, 7, 10, 12, 22, 24, 25, 27, 28, 42, 48, 50, 51, 55, 61] [(0, 1), (1, 2), (29, 36), (36, 64), (64, 71)] o_me o67 := hkpo56.trans (by rw [eo67]; exact Kp.sI (by decide))
                refine wp_if (fun c73 => ?_) (fun c73 => ?_)
                · have c73 := cv_eq (a := (gI o67 16).toInt) (b := 3) rfl (by decide) c73
                  refine wp_gd (zin_of (m := 400) rfl (zl_e (zd_e (c := 0) (zq_0 ko52_k55.symm) (zd_e (c := 0) (zq_0 ko56_k59.symm) (zq_0 ko67_k70.symm) (by decide)) (by decide)) hh8.1 (by decide)) (zlt_m (c := 399) (zu_e (zd_e (c := (-1)) (zd_e (c := 0) (zd_e (c := 0) (zq_0 ko67_k70) (zq_0 ko56_k59) (by decide)) (zq_0 ko52_k55) (by decide)) (zl_d c12) (by decide)) t11.2 (by decide)) (by decide))) ?_
                  have rg74 := i32_rg (gA o67 12 (gI o67 14).toNatClampNeg)
                  have t75 : ((gA o67 12 (gI o67 14).toNatClampNeg).toInt64).toInt = (gA o67 12 (gI o67 14).toNatClampNeg).toInt := Int32.toInt_toInt64 _
                  refine wp_lt (fun o76 eo76 => ?_)
                  have hIo76 : IvX9 o76 := by rw [eo76]; exact hIo67
                  have ko76_k77 : (gA o76 12 (gI o67 14).toNatClampNeg).toInt = (gA o67 12 (gI o67 14).toNatClampNeg).toInt := by rw [eo76]; rfl
                  have ko76_k78 : (gA o76 12 (gI o_me_1 14).toNatClampNeg).toInt = (gA o67 12 (gI o_me_1 14).toNatClampNeg).toInt := by rw [eo76]; rfl
                  have ko76_k79 : (gI o76 13).toInt = (gI o67 13).toInt := by rw [eo76]; rfl
                  have ko76_k80 : (gI o76 14).toInt = (gI o67 14).toInt := by rw [eo76]; rfl
                  have ko76_k81 : (gI o76 15).toInt = (gI o67 15).toInt := by rw [eo76]; rfl
                  have ko76_k82 : (gI o76 16).toInt = (gI o67 16).toInt := by rw [eo76]; rfl
                  have ko76_v : (gL o76 17).toInt = ((gA o67 12 (gI o67 14).toNatClampNeg).toInt64).toInt := by rw [eo76]; rfl
                  have hkpo76 : Kp [1, 8, 11, 13, 18, 19, 20, 21, 23, 26, 29, 34, 38, 43, 56, 57, 58, 59, 62] [2, 3, 4, 5, 7, 10, 12, 22, 24, 25, 27, 28, 42, 48, 50, 51, 55, 61] [(0, 1), (1, 2), (29, 36), (36, 64), (64, 71)] o_me o76 := hkpo67.trans (by rw [eo76]; exact Kp.sL)
                  have t83 : ((gI o76 15) + (1 : Int32)).toInt = (gI o76 15).toInt + 1 := i32_add rfl (by decide) (zk_l (zl_e (k := 0) (zd_e (c := 0) (zq_0 ko52_v.symm) (zd_e (c := 0) (zq_0 ko56_k60.symm) (zd_e (c := 0) (zq_0 ko67_k71.symm) (zq_0 ko76_k81.symm) (by decide)) (by decide)) (by decide)) hh8.1 (by decide)) (by decide)) (zk_u (zu_e (k := 400) (zd_e (c := 0) (zd_e (c := 0) (zd_e (c := 0) (zq_0 ko76_k81) (zq_0 ko67_k71) (by decide)) (zq_0 ko56_k60) (by decide)) (zq_0 ko52_v) (by decide)) hh8.2 (by decide)) (by decide))
                  refine wp_lt (fun o84 eo84 => ?_)
                  have hIo84 : IvX9 o84 := by rw [eo84]; exact ipX9_15 hIo76 ⟨(by omega), (by omega)⟩
                  have ko84_k85 : (gA o84 12 (gI o67 14).toNatClampNeg).toInt = (gA o76 12 (gI o67 14).toNatClampNeg).toInt := by rw [eo84]; rfl
                  have ko84_k86 : (gA o84 12 (gI o_me_1 14).toNatClampNeg).toInt = (gA o76 12 (gI o_me_1 14).toNatClampNeg).toInt := by rw [eo84]; rfl
                  have ko84_k87 : (gI o84 13).toInt = (gI o76 13).toInt := by rw [eo84]; rfl
                  have ko84_k88 : (gI o84 14).toInt = (gI o76 14).toInt := by rw [eo84]; rfl
                  have ko84_k89 : (gI o84 16).toInt = (gI o76 16).toInt := by rw [eo84]; rfl
                  have ko84_k90 : (gL o84 17).toInt = (gL o76 17).toInt := by rw [eo84]; rfl
                  have ko84_v : (gI o84 15).toInt = ((gI o76 15) + (1 : Int32)).toInt := by rw [eo84]; rfl
                  have hkpo84 : Kp [1, 8, 11, 13, 18, 19, 20, 21, 23, 26, 29, 34, 38, 43, 56, 57, 58, 59, 62] [2, 3, 4, 5, 7, 10, 12, 22, 24, 25, 27, 28, 42, 48, 50, 51, 55, 61] [(0, 1), (1, 2), (29, 36), (36, 64), (64, 71)] o_me o84 := hkpo76.trans (by rw [eo84]; exact Kp.sI (by decide))
                  have lp4 : ∀ (N4 : Nat) (o_me_4 : Ob), IvX9 o_me_4 → Kp [1, 8, 11, 13, 18, 19, 20, 21, 23, 26, 29, 34, 38, 43, 56, 57, 58, 59, 62] [2, 3, 4, 5, 7, 10, 12, 22, 24, 25, 27, 28, 42, 48, 50, 51, 55, 61] [(0, 1), (1, 2), (29, 36), (36, 64), (64, 71)] o_me o_me_4 → (1 ≤ (gI o_me_4 15).toInt ∧ (gI o_me_4 15).toInt ≤ 400) → (3 ≤ (gI o_me_4 16).toInt ∧ (gI o_me_4 16).toInt ≤ 3) → ((gI o_me_4 15).toInt ≤ (gI o_me_4 13).toInt + 0) → (400 - (gI o_me_4 15).toInt).toNat < N4 → wp (lp_X9_next_149   N4 o_me_4) (fun (y : Ob) => IvX9 y ∧ Kp [1, 8, 11, 13, 18, 19, 20, 21, 23, 26, 29, 34, 38, 43, 56, 57, 58, 59, 62] [2, 3, 4, 5, 7, 10, 12, 22, 24, 25, 27, 28, 42, 48, 50, 51, 55, 61] [(0, 1), (1, 2), (29, 36), (36, 64), (64, 71)] o_me y ∧ ((gI y 15).toInt ≤ (gI y 13).toInt + 0)) := by
                    intro N4
                    induction N4 with
                    | zero =>
                      intro o_me_4 hI_me_4 hkp_me_4 hh94 hh95 hh96 hN4
                      exact absurd hN4 (Nat.not_lt_zero _)
                    | succ N4 ihx =>
                      have ih4 := ihx
                      intro o_me_4 hI_me_4 hkp_me_4 hh94 hh95 hh96 hN4
                      show wp (lb_X9_next_149   (lp_X9_next_149   N4) o_me_4) (fun (y : Ob) => IvX9 y ∧ Kp [1, 8, 11, 13, 18, 19, 20, 21, 23, 26, 29, 34, 38, 43, 56, 57, 58, 59, 62] [2, 3, 4, 5, 7, 10, 12, 22, 24, 25, 27, 28, 42, 48, 50, 51, 55, 61] [(0, 1), (1, 2), (29, 36), (36, 64), (64, 71)] o_me y ∧ ((gI y 15).toInt ≤ (gI y 13).toInt + 0))
                      unfold lb_X9_next_149
                      refine wp_if (fun c98 => ?_) (fun c98 => ?_)
                      · have c98 := cv_eq (a := (gI o_me_4 16).toInt) (b := 1) rfl (by decide) c98
                        exact absurd c98 (zne_r (k := 1) (l := 3) (by decide) hh95.1 (by decide))
                      · have c98 := cv_ne (a := (gI o_me_4 16).toInt) (b := 1) rfl (by decide) c98
                        have lp5 : ∀ (N5 : Nat) (o_me_5 : Ob), IvX9 o_me_5 → Kp [1, 8, 11, 13, 18, 19, 20, 21, 23, 26, 29, 34, 38, 43, 56, 57, 58, 59, 62] [2, 3, 4, 5, 7, 10, 12, 22, 24, 25, 27, 28, 42, 48, 50, 51, 55, 61] [(0, 1), (1, 2), (29, 36), (36, 64), (64, 71)] o_me o_me_5 → (1 ≤ (gI o_me_5 15).toInt ∧ (gI o_me_5 15).toInt ≤ 400) → (3 ≤ (gI o_me_5 16).toInt ∧ (gI o_me_5 16).toInt ≤ 3) → ((gI o_me_5 15).toInt ≤ (gI o_me_5 13).toInt + 0) → (400 - (gI o_me_5 15).toInt).toNat < N5 → wp (lp_X9_next_243   N5 o_me_5) (fun (y : Ob) => IvX9 y ∧ Kp [1, 8, 11, 13, 18, 19, 20, 21, 23, 26, 29, 34, 38, 43, 56, 57, 58, 59, 62] [2, 3, 4, 5, 7, 10, 12, 22, 24, 25, 27, 28, 42, 48, 50, 51, 55, 61] [(0, 1), (1, 2), (29, 36), (36, 64), (64, 71)] o_me y ∧ ((gI y 15).toInt ≤ (gI y 13).toInt + 0)) := by
                          intro N5
                          induction N5 with
                          | zero =>
                            intro o_me_5 hI_me_5 hkp_me_5 hh103 hh104 hh105 hN5
                            exact absurd hN5 (Nat.not_lt_zero _)
                          | succ N5 ihx =>
                            have ih5 := ihx
                            intro o_me_5 hI_me_5 hkp_me_5 hh103 hh104 hh105 hN5
                            show wp (lb_X9_next_243   (lp_X9_next_243   N5) o_me_5) (fun (y : Ob) => IvX9 y ∧ Kp [1, 8, 11, 13, 18, 19, 20, 21, 23, 26, 29, 34, 38, 43, 56, 57, 58, 59, 62] [2, 3, 4, 5, 7, 10, 12, 22, 24, 25, 27, 28, 42, 48, 50, 51, 55, 61] [(0, 1), (1, 2), (29, 36), (36, 64), (64, 71)] o_me y ∧ ((gI y 15).toInt ≤ (gI y 13).toInt + 0))
                            unfold lb_X9_next_243
                            refine wp_if (fun c107 => ?_) (fun c107 => ?_)
                            · have c107 := cv_eq (a := (gI o_me_5 16).toInt) (b := 2) rfl (by decide) c107
                              exact absurd c107 (zne_r (k := 2) (l := 3) (by decide) hh104.1 (by decide))
                            · have c107 := cv_ne (a := (gI o_me_5 16).toInt) (b := 2) rfl (by decide) c107
                              refine wp_some ?_
                              have t108 := igX9_13 hI_me_5
                              exact (show IvX9 o_me_5 ∧ Kp [1, 8, 11, 13, 18, 19, 20, 21, 23, 26, 29, 34, 38, 43, 56, 57, 58, 59, 62] [2, 3, 4, 5, 7, 10, 12, 22, 24, 25, 27, 28, 42, 48, 50, 51, 55, 61] [(0, 1), (1, 2), (29, 36), (36, 64), (64, 71)] o_me o_me_5 ∧ ((gI o_me_5 15).toInt ≤ (gI o_me_5 13).toInt + 0) from ⟨hI_me_5, hkp_me_5, hh105⟩)
                        have t109 := igX9_13 hI_me_4
                        exact lp5 zfu o_me_4 hI_me_4 hkp_me_4 ⟨hh94.1, hh94.2⟩ ⟨hh95.1, hh95.2⟩ hh96 (zme_u (l := 1) hh94.1 (by decide))
                  exact lp4 zfu o84 hIo84 hkpo84 ⟨(by omega), (by omega)⟩ ⟨(zl_e (zd_e (c := 0) (zq_0 ko76_k82.symm) (zq_0 ko84_k89.symm) (by decide)) (Int.le_of_eq c73.symm) (by decide)), (zu_e (zd_e (c := 0) (zq_0 ko84_k89) (zq_0 ko76_k82) (by decide)) (Int.le_of_eq c73) (by decide))⟩ (by omega) (by show _ < 100000; omega)
                · have c73 := cv_ne (a := (gI o67 16).toInt) (b := 3) rfl (by decide) c73
                  exact absurd (Int.le_antisymm (zu_e (zq_0 ko67_v) (Int.le_of_eq tw66) (by decide)) (zl_e (zq_0 ko67_v.symm) (Int.le_of_eq tw66.symm) (by decide))) c73
              · have c65z := c65
                have c65 := cv_ne (a := z64.toInt) (b := 0) rfl (by decide) c65
                obtain ⟨w110, ew110⟩ : ∃ z : Int32, z = (2 : Int32) := ⟨_, rfl⟩
                have tw110 : w110.toInt = 2 := by rw [ew110]; decide
                rw [show bk_X9_next_114   (2 : Int32) o56 = bk_X9_next_114   w110 o56 from by rw [ew110]]
                unfold bk_X9_next_114
                refine wp_lt (fun o111 eo111 => ?_)
                have hIo111 : IvX9 o111 := by rw [eo111]; exact ipX9_16 hIo56 ⟨(Int.le_trans (by decide) (Int.le_of_eq tw110.symm)), (Int.le_trans (Int.le_of_eq tw110) (by decide))⟩
                have ko111_k112 : (gA o111 12 (gI o_me_1 14).toNatClampNeg).toInt = (gA o56 12 (gI o_me_1 14).toNatClampNeg).toInt := by rw [eo111]; rfl
                have ko111_k113 : (gI o111 13).toInt = (gI o56 13).toInt := by rw [eo111]; rfl
                have ko111_k114 : (gI o111 14).toInt = (gI o56 14).toInt := by rw [eo111]; rfl
                have ko111_k115 : (gI o111 15).toInt = (gI o56 15).toInt := by rw [eo111]; rfl
                have ko111_k116 : (gL o111 17).toInt = (gL o56 17).toInt := by rw [eo111]; rfl
                have ko111_v : (gI o111 16).toInt = w110.toInt := by rw [eo111]; rfl
                have hkpo111 : Kp [1, 8, 11, 13, 18, 19, 20, 21, 23, 26, 29, 34, 38, 43, 56, 57, 58, 59, 62] [2, 3, 4, 5, 7, 10, 12, 22, 24, 25, 27, 28, 42, 48, 50, 51, 55, 61] [(0, 1), (1, 2), (29, 36), (36, 64), (64, 71)] o_me o111 := hkpo56.trans (by rw [eo111]; exact Kp.sI (by decide))
                refine wp_if (fun c117 => ?_) (fun c117 => ?_)
                · have c117 := cv_eq (a := (gI o111 16).toInt) (b := 3) rfl (by decide) c117
                  exact absurd c117 (zne_l (k := 2) (l := 3) (zu_e (k := 2) (zq_0 ko111_v) (Int.le_of_eq tw110) (by decide)) (by decide) (by decide))
                · have c117 := cv_ne (a := (gI o111 16).toInt) (b := 3) rfl (by decide) c117
                  have lp6 : ∀ (N6 : Nat) (o_me_6 : Ob), IvX9 o_me_6 → Kp [1, 8, 11, 13, 18, 19, 20, 21, 23, 26, 29, 34, 38, 43, 56, 57, 58, 59, 62] [2, 3, 4, 5, 7, 10, 12, 22, 24, 25, 27, 28, 42, 48, 50, 51, 55, 61] [(0, 1), (1, 2), (29, 36), (36, 64), (64, 71)] o_me o_me_6 → (0 ≤ (gI o_me_6 15).toInt ∧ (gI o_me_6 15).toInt ≤ 399) → (2 ≤ (gI o_me_6 16).toInt ∧ (gI o_me_6 16).toInt ≤ 2) → ((gI o_me_6 15).toInt ≤ (gI o_me_6 13).toInt + (-1)) → (399 - (gI o_me_6 15).toInt).toNat < N6 → wp (lp_X9_next_149   N6 o_me_6) (fun (y : Ob) => IvX9 y ∧ Kp [1, 8, 11, 13, 18, 19, 20, 21, 23, 26, 29, 34, 38, 43, 56, 57, 58, 59, 62] [2, 3, 4, 5, 7, 10, 12, 22, 24, 25, 27, 28, 42, 48, 50, 51, 55, 61] [(0, 1), (1, 2), (29, 36), (36, 64), (64, 71)] o_me y ∧ ((gI y 15).toInt ≤ (gI y 13).toInt + 0)) := by
                    intro N6
                    induction N6 with
                    | zero =>
                      intro o_me_6 hI_me_6 hkp_me_6 hh121 hh122 hh123 hN6
                      exact absurd hN6 (Nat.not_lt_zero _)
                    | succ N6 ihx =>
                      have ih6 := ihx
                      intro o_me_6 hI_me_6 hkp_me_6 hh121 hh122 hh123 hN6
                      show wp (lb_X9_next_149   (lp_X9_next_149   N6) o_me_6) (fun (y : Ob) => IvX9 y ∧ Kp [1, 8, 11, 13, 18, 19, 20, 21, 23, 26, 29, 34, 38, 43, 56, 57, 58, 59, 62] [2, 3, 4, 5, 7, 10, 12, 22, 24, 25, 27, 28, 42, 48, 50, 51, 55, 61] [(0, 1), (1, 2), (29, 36), (36, 64), (64, 71)] o_me y ∧ ((gI y 15).toInt ≤ (gI y 13).toInt + 0))
                      unfold lb_X9_next_149
                      refine wp_if (fun c125 => ?_) (fun c125 => ?_)
                      · have c125 := cv_eq (a := (gI o_me_6 16).toInt) (b := 1) rfl (by decide) c125
                        exact absurd c125 (zne_r (k := 1) (l := 2) (by decide) hh122.1 (by decide))
                      · have c125 := cv_ne (a := (gI o_me_6 16).toInt) (b := 1) rfl (by decide) c125
                        have lp7 : ∀ (N7 : Nat) (o_me_7 : Ob), IvX9 o_me_7 → Kp [1, 8, 11, 13, 18, 19, 20, 21, 23, 26, 29, 34, 38, 43, 56, 57, 58, 59, 62] [2, 3, 4, 5, 7, 10, 12, 22, 24, 25, 27, 28, 42, 48, 50, 51, 55, 61] [(0, 1), (1, 2), (29, 36), (36, 64), (64, 71)] o_me o_me_7 → (0 ≤ (gI o_me_7 15).toInt ∧ (gI o_me_7 15).toInt ≤ 400) → (2 ≤ (gI o_me_7 16).toInt ∧ (gI o_me_7 16).toInt ≤ 2) → ((gI o_me_7 15).toInt ≤ (gI o_me_7 13).toInt + 0) → (400 - (gI o_me_7 15).toInt).toNat < N7 → wp (lp_X9_next_243   N7 o_me_7) (fun (y : Ob) => IvX9 y ∧ Kp [1, 8, 11, 13, 18, 19, 20, 21, 23, 26, 29, 34, 38, 43, 56, 57, 58, 59, 62] [2, 3, 4, 5, 7, 10, 12, 22, 24, 25, 27, 28, 42, 48, 50, 51, 55, 61] [(0, 1), (1, 2), (29, 36), (36, 64), (64, 71)] o_me y ∧ ((gI y 15).toInt ≤ (gI y 13).toInt + 0)) := by
                          intro N7
                          induction N7 with
                          | zero =>
                            intro o_me_7 hI_me_7 hkp_me_7 hh130 hh131 hh132 hN7
                            exact absurd hN7 (Nat.not_lt_zero _)
                          | succ N7 ihx =>
                            have ih7 := ihx
                            intro o_me_7 hI_me_7 hkp_me_7 hh130 hh131 hh132 hN7
                            show wp (lb_X9_next_243   (lp_X9_next_243   N7) o_me_7) (fun (y : Ob) => IvX9 y ∧ Kp [1, 8, 11, 13, 18, 19, 20, 21, 23, 26, 29, 34, 38, 43, 56, 57, 58, 59, 62] [2, 3, 4, 5, 7, 10, 12, 22, 24, 25, 27, 28, 42, 48, 50, 51, 55, 61] [(0, 1), (1, 2), (29, 36), (36, 64), (64, 71)] o_me y ∧ ((gI y 15).toInt ≤ (gI y 13).toInt + 0))
                            unfold lb_X9_next_243
                            refine wp_if (fun c134 => ?_) (fun c134 => ?_)
                            · have c134 := cv_eq (a := (gI o_me_7 16).toInt) (b := 2) rfl (by decide) c134
                              have t135 := igX9_13 hI_me_7
                              refine wp_if (fun c136 => ?_) (fun c136 => ?_)
                              · have c136 := cv_ge (a := (gI o_me_7 15).toInt) (b := (gI o_me_7 13).toInt) rfl rfl c136
                                refine wp_some ?_
                                exact (show IvX9 o_me_7 ∧ Kp [1, 8, 11, 13, 18, 19, 20, 21, 23, 26, 29, 34, 38, 43, 56, 57, 58, 59, 62] [2, 3, 4, 5, 7, 10, 12, 22, 24, 25, 27, 28, 42, 48, 50, 51, 55, 61] [(0, 1), (1, 2), (29, 36), (36, 64), (64, 71)] o_me o_me_7 ∧ ((gI o_me_7 15).toInt ≤ (gI o_me_7 13).toInt + 0) from ⟨hI_me_7, hkp_me_7, hh132⟩)
                              · have c136 := cv_nge (a := (gI o_me_7 15).toInt) (b := (gI o_me_7 13).toInt) rfl rfl c136
                                refine wp_gd (zin_of (m := 400) rfl hh130.1 (zlt_m (c := 399) (zu_e (zl_d c136) t135.2 (by decide)) (by decide))) ?_
                                refine wp_bd (s_X9_isDigit   (gA o_me_7 12 (gI o_me_7 15).toNatClampNeg)    ) (fun z137 hz137 => ?_)
                                have hz137_0 := hz137
                                refine wp_if (fun c138 => ?_) (fun c138 => ?_)
                                · have c138 := cv_eq (a := z137.toInt) (b := 0) rfl (by decide) c138
                                  refine wp_some ?_
                                  exact (show IvX9 o_me_7 ∧ Kp [1, 8, 11, 13, 18, 19, 20, 21, 23, 26, 29, 34, 38, 43, 56, 57, 58, 59, 62] [2, 3, 4, 5, 7, 10, 12, 22, 24, 25, 27, 28, 42, 48, 50, 51, 55, 61] [(0, 1), (1, 2), (29, 36), (36, 64), (64, 71)] o_me o_me_7 ∧ ((gI o_me_7 15).toInt ≤ (gI o_me_7 13).toInt + 0) from ⟨hI_me_7, hkp_me_7, hh132⟩)
                                · have c138z := c138
                                  have c138 := cv_ne (a := z137.toInt) (b := 0) rfl (by decide) c138
                                  refine wp_if (fun c139 => ?_) (fun c139 => ?_)
                                  · have c139 := cvl_le (a := (gL o_me_7 17).toInt) (b := 1000000) rfl (by decide) c139
                                    refine wp_gd (zin_of (m := 400) rfl hh130.1 (zlt_m (c := 399) (zu_e (zl_d c136) t135.2 (by decide)) (by decide))) ?_
                                    have rg140 := i32_rg (gA o_me_7 12 (gI o_me_7 15).toNatClampNeg)
                                    have t141 : ((gA o_me_7 12 (gI o_me_7 15).toNatClampNeg).toInt64).toInt = (gA o_me_7 12 (gI o_me_7 15).toNatClampNeg).toInt := Int32.toInt_toInt64 _
                                    obtain ⟨w142, ew142⟩ : ∃ z : Int64, z = (((gL o_me_7 17) * (10 : Int64)) + ((gA o_me_7 12 (gI o_me_7 15).toNatClampNeg).toInt64)) - (48 : Int64) := ⟨_, rfl⟩
                                    have tw142 : w142.toInt = ((((gL o_me_7 17) * (10 : Int64)) + ((gA o_me_7 12 (gI o_me_7 15).toNatClampNeg).toInt64)) - (48 : Int64)).toInt := by rw [ew142]
                                    rw [show bk_X9_next_319  (lp_X9_next_243   N7) ((((gL o_me_7 17) * (10 : Int64)) + ((gA o_me_7 12 (gI o_me_7 15).toNatClampNeg).toInt64)) - (48 : Int64)) o_me_7 = bk_X9_next_319  (lp_X9_next_243   N7) w142 o_me_7 from by rw [ew142]]
                                    unfold bk_X9_next_319
                                    refine wp_lt (fun o143 eo143 => ?_)
                                    have hIo143 : IvX9 o143 := by rw [eo143]; exact hI_me_7
                                    have ko143_k144 : (gA o143 12 (gI o_me_7 15).toNatClampNeg).toInt = (gA o_me_7 12 (gI o_me_7 15).toNatClampNeg).toInt := by rw [eo143]; rfl
                                    have ko143_k145 : (gI o143 13).toInt = (gI o_me_7 13).toInt := by rw [eo143]; rfl
                                    have ko143_k146 : (gI o143 15).toInt = (gI o_me_7 15).toInt := by rw [eo143]; rfl
                                    have ko143_k147 : (gI o143 16).toInt = (gI o_me_7 16).toInt := by rw [eo143]; rfl
                                    have ko143_v : (gL o143 17).toInt = w142.toInt := by rw [eo143]; rfl
                                    have hkpo143 : Kp [1, 8, 11, 13, 18, 19, 20, 21, 23, 26, 29, 34, 38, 43, 56, 57, 58, 59, 62] [2, 3, 4, 5, 7, 10, 12, 22, 24, 25, 27, 28, 42, 48, 50, 51, 55, 61] [(0, 1), (1, 2), (29, 36), (36, 64), (64, 71)] o_me o143 := hkp_me_7.trans (by rw [eo143]; exact Kp.sL)
                                    have t148 : ((gI o143 15) + (1 : Int32)).toInt = (gI o143 15).toInt + 1 := i32_add rfl (by decide) (zk_l (zl_e (k := 0) (zq_0 ko143_k146.symm) hh130.1 (by decide)) (by decide)) (zk_u (zu_e (k := 399) (zd_e (c := (-1)) (zq_0 ko143_k146) (zl_d c136) (by decide)) t135.2 (by decide)) (by decide))
                                    refine wp_lt (fun o149 eo149 => ?_)
                                    have hIo149 : IvX9 o149 := by rw [eo149]; exact ipX9_15 hIo143 ⟨(zl_e (zd_e (c := (-1)) (zq_0 ko143_k146.symm) (zq_r (c := (-1)) t148 (by decide)) (by decide)) hh130.1 (by decide)), (zu_e (zd_e (c := 0) (zd_e (c := 1) (Int.le_of_eq t148) (zq_0 ko143_k146) (by decide)) (zl_d c136) (by decide)) t135.2 (by decide))⟩
                                    have ko149_k150 : (gA o149 12 (gI o_me_7 15).toNatClampNeg).toInt = (gA o143 12 (gI o_me_7 15).toNatClampNeg).toInt := by rw [eo149]; rfl
                                    have ko149_k151 : (gI o149 13).toInt = (gI o143 13).toInt := by rw [eo149]; rfl
                                    have ko149_k152 : (gI o149 16).toInt = (gI o143 16).toInt := by rw [eo149]; rfl
                                    have ko149_k153 : (gL o149 17).toInt = (gL o143 17).toInt := by rw [eo149]; rfl
                                    have ko149_v : (gI o149 15).toInt = ((gI o143 15) + (1 : Int32)).toInt := by rw [eo149]; rfl
                                    have hkpo149 : Kp [1, 8, 11, 13, 18, 19, 20, 21, 23, 26, 29, 34, 38, 43, 56, 57, 58, 59, 62] [2, 3, 4, 5, 7, 10, 12, 22, 24, 25, 27, 28, 42, 48, 50, 51, 55, 61] [(0, 1), (1, 2), (29, 36), (36, 64), (64, 71)] o_me o149 := hkpo143.trans (by rw [eo149]; exact Kp.sI (by decide))
                                    exact ih7 o149 hIo149 hkpo149 ⟨(zl_e (zd_e (c := (-1)) (zq_0 ko143_k146.symm) (zd_e (c := (-1)) (zq_r (c := (-1)) t148 (by decide)) (zq_0 ko149_v.symm) (by decide)) (by decide)) hh130.1 (by decide)), (zu_e (zd_e (c := 0) (zd_e (c := 1) (zd_e (c := 1) (zq_0 ko149_v) (Int.le_of_eq t148) (by decide)) (zq_0 ko143_k146) (by decide)) (zl_d c136) (by decide)) t135.2 (by decide))⟩ ⟨(zl_e (zd_e (c := 0) (zq_0 ko143_k147.symm) (zq_0 ko149_k152.symm) (by decide)) hh131.1 (by decide)), (zu_e (zd_e (c := 0) (zq_0 ko149_k152) (zq_0 ko143_k147) (by decide)) hh131.2 (by decide))⟩ (by omega) (zms_u (c := 399) hN7 (zd_e (c := (-1)) (zd_e (c := (-1)) (zq_0 ko143_k146.symm) (zq_r (c := (-1)) t148 (by decide)) (by decide)) (zq_0 ko149_v.symm) (by decide)) (zu_e (zl_d c136) t135.2 (by decide)) (by decide))
                                  · have c139 := cvl_nle (a := (gL o_me_7 17).toInt) (b := 1000000) rfl (by decide) c139
                                    obtain ⟨w154, ew154⟩ : ∃ z : Int64, z = gL o_me_7 17 := ⟨_, rfl⟩
                                    have tw154 : w154.toInt = (gL o_me_7 17).toInt := by rw [ew154]
                                    rw [show bk_X9_next_319  (lp_X9_next_243   N7) (gL o_me_7 17) o_me_7 = bk_X9_next_319  (lp_X9_next_243   N7) w154 o_me_7 from by rw [ew154]]
                                    unfold bk_X9_next_319
                                    refine wp_lt (fun o155 eo155 => ?_)
                                    have hIo155 : IvX9 o155 := by rw [eo155]; exact hI_me_7
                                    have ko155_k156 : (gI o155 13).toInt = (gI o_me_7 13).toInt := by rw [eo155]; rfl
                                    have ko155_k157 : (gI o155 15).toInt = (gI o_me_7 15).toInt := by rw [eo155]; rfl
                                    have ko155_k158 : (gI o155 16).toInt = (gI o_me_7 16).toInt := by rw [eo155]; rfl
                                    have ko155_v : (gL o155 17).toInt = w154.toInt := by rw [eo155]; rfl
                                    have hkpo155 : Kp [1, 8, 11, 13, 18, 19, 20, 21, 23, 26, 29, 34, 38, 43, 56, 57, 58, 59, 62] [2, 3, 4, 5, 7, 10, 12, 22, 24, 25, 27, 28, 42, 48, 50, 51, 55, 61] [(0, 1), (1, 2), (29, 36), (36, 64), (64, 71)] o_me o155 := hkp_me_7.trans (by rw [eo155]; exact Kp.sL)
                                    have t159 : ((gI o155 15) + (1 : Int32)).toInt = (gI o155 15).toInt + 1 := i32_add rfl (by decide) (zk_l (zl_e (k := 0) (zq_0 ko155_k157.symm) hh130.1 (by decide)) (by decide)) (zk_u (zu_e (k := 399) (zd_e (c := (-1)) (zq_0 ko155_k157) (zl_d c136) (by decide)) t135.2 (by decide)) (by decide))
                                    refine wp_lt (fun o160 eo160 => ?_)
                                    have hIo160 : IvX9 o160 := by rw [eo160]; exact ipX9_15 hIo155 ⟨(zl_e (zd_e (c := (-1)) (zq_0 ko155_k157.symm) (zq_r (c := (-1)) t159 (by decide)) (by decide)) hh130.1 (by decide)), (zu_e (zd_e (c := 0) (zd_e (c := 1) (Int.le_of_eq t159) (zq_0 ko155_k157) (by decide)) (zl_d c136) (by decide)) t135.2 (by decide))⟩
                                    have ko160_k161 : (gI o160 13).toInt = (gI o155 13).toInt := by rw [eo160]; rfl
                                    have ko160_k162 : (gI o160 16).toInt = (gI o155 16).toInt := by rw [eo160]; rfl
                                    have ko160_k163 : (gL o160 17).toInt = (gL o155 17).toInt := by rw [eo160]; rfl
                                    have ko160_v : (gI o160 15).toInt = ((gI o155 15) + (1 : Int32)).toInt := by rw [eo160]; rfl
                                    have hkpo160 : Kp [1, 8, 11, 13, 18, 19, 20, 21, 23, 26, 29, 34, 38, 43, 56, 57, 58, 59, 62] [2, 3, 4, 5, 7, 10, 12, 22, 24, 25, 27, 28, 42, 48, 50, 51, 55, 61] [(0, 1), (1, 2), (29, 36), (36, 64), (64, 71)] o_me o160 := hkpo155.trans (by rw [eo160]; exact Kp.sI (by decide))
                                    exact ih7 o160 hIo160 hkpo160 ⟨(zl_e (zd_e (c := (-1)) (zq_0 ko155_k157.symm) (zd_e (c := (-1)) (zq_r (c := (-1)) t159 (by decide)) (zq_0 ko160_v.symm) (by decide)) (by decide)) hh130.1 (by decide)), (zu_e (zd_e (c := 0) (zd_e (c := 1) (zd_e (c := 1) (zq_0 ko160_v) (Int.le_of_eq t159) (by decide)) (zq_0 ko155_k157) (by decide)) (zl_d c136) (by decide)) t135.2 (by decide))⟩ ⟨(zl_e (zd_e (c := 0) (zq_0 ko155_k158.symm) (zq_0 ko160_k162.symm) (by decide)) hh131.1 (by decide)), (zu_e (zd_e (c := 0) (zq_0 ko160_k162) (zq_0 ko155_k158) (by decide)) hh131.2 (by decide))⟩ (by omega) (zms_u (c := 399) hN7 (zd_e (c := (-1)) (zd_e (c := (-1)) (zq_0 ko155_k157.symm) (zq_r (c := (-1)) t159 (by decide)) (by decide)) (zq_0 ko160_v.symm) (by decide)) (zu_e (zl_d c136) t135.2 (by decide)) (by decide))
                            · have c134 := cv_ne (a := (gI o_me_7 16).toInt) (b := 2) rfl (by decide) c134
                              exact absurd (Int.le_antisymm hh131.2 hh131.1) c134
                        have t164 := igX9_13 hI_me_6
                        exact lp7 zfu o_me_6 hI_me_6 hkp_me_6 ⟨hh121.1, (Int.le_trans hh121.2 (by decide))⟩ ⟨hh122.1, hh122.2⟩ (zd_w hh123 (by decide)) (zme_u (l := 0) hh121.1 (by decide))
                  exact lp6 zfu o111 hIo111 hkpo111 ⟨(zl_e (zd_e (c := 0) (zq_0 ko52_v.symm) (zd_e (c := 0) (zq_0 ko56_k60.symm) (zq_0 ko111_k115.symm) (by decide)) (by decide)) hh8.1 (by decide)), (zu_e (zd_e (c := (-1)) (zd_e (c := 0) (zd_e (c := 0) (zq_0 ko111_k115) (zq_0 ko56_k60) (by decide)) (zq_0 ko52_v) (by decide)) (zl_d c12) (by decide)) t11.2 (by decide))⟩ ⟨(zl_e (zq_0 ko111_v.symm) (Int.le_of_eq tw110.symm) (by decide)), (zu_e (zq_0 ko111_v) (Int.le_of_eq tw110) (by decide))⟩ (by omega) (zme_u (l := 0) (zl_e (k := 0) (zd_e (c := 0) (zq_0 ko52_v.symm) (zd_e (c := 0) (zq_0 ko56_k60.symm) (zq_0 ko111_k115.symm) (by decide)) (by decide)) hh8.1 (by decide)) (by decide))
            · have c63z := c63
              have c63 := cv_ne (a := z62.toInt) (b := 0) rfl (by decide) c63
              obtain ⟨w165, ew165⟩ : ∃ z : Int32, z = (1 : Int32) := ⟨_, rfl⟩
              have tw165 : w165.toInt = 1 := by rw [ew165]; decide
              rw [show bk_X9_next_114   (1 : Int32) o56 = bk_X9_next_114   w165 o56 from by rw [ew165]]
              unfold bk_X9_next_114
              refine wp_lt (fun o166 eo166 => ?_)
              have hIo166 : IvX9 o166 := by rw [eo166]; exact ipX9_16 hIo56 ⟨(Int.le_trans (by decide) (Int.le_of_eq tw165.symm)), (Int.le_trans (Int.le_of_eq tw165) (by decide))⟩
              have ko166_k167 : (gA o166 12 (gI o_me_1 14).toNatClampNeg).toInt = (gA o56 12 (gI o_me_1 14).toNatClampNeg).toInt := by rw [eo166]; rfl
              have ko166_k168 : (gI o166 13).toInt = (gI o56 13).toInt := by rw [eo166]; rfl
              have ko166_k169 : (gI o166 14).toInt = (gI o56 14).toInt := by rw [eo166]; rfl
              have ko166_k170 : (gI o166 15).toInt = (gI o56 15).toInt := by rw [eo166]; rfl
              have ko166_k171 : (gL o166 17).toInt = (gL o56 17).toInt := by rw [eo166]; rfl
              have ko166_v : (gI o166 16).toInt = w165.toInt := by rw [eo166]; rfl
              have hkpo166 : Kp [1, 8, 11, 13, 18, 19, 20, 21, 23, 26, 29, 34, 38, 43, 56, 57, 58, 59, 62] [2, 3, 4, 5, 7, 10, 12, 22, 24, 25, 27, 28, 42, 48, 50, 51, 55, 61] [(0, 1), (1, 2), (29, 36), (36, 64), (64, 71)] o_me o166 := hkpo56.trans (by rw [eo166]; exact Kp.sI (by decide))
              refine wp_if (fun c172 => ?_) (fun c172 => ?_)
              · have c172 := cv_eq (a := (gI o166 16).toInt) (b := 3) rfl (by decide) c172
                exact absurd c172 (zne_l (k := 1) (l := 3) (zu_e (k := 1) (zq_0 ko166_v) (Int.le_of_eq tw165) (by decide)) (by decide) (by decide))
              · have c172 := cv_ne (a := (gI o166 16).toInt) (b := 3) rfl (by decide) c172
                have lp8 : ∀ (N8 : Nat) (o_me_8 : Ob), IvX9 o_me_8 → Kp [1, 8, 11, 13, 18, 19, 20, 21, 23, 26, 29, 34, 38, 43, 56, 57, 58, 59, 62] [2, 3, 4, 5, 7, 10, 12, 22, 24, 25, 27, 28, 42, 48, 50, 51, 55, 61] [(0, 1), (1, 2), (29, 36), (36, 64), (64, 71)] o_me o_me_8 → (0 ≤ (gI o_me_8 15).toInt ∧ (gI o_me_8 15).toInt ≤ 400) → (1 ≤ (gI o_me_8 16).toInt ∧ (gI o_me_8 16).toInt ≤ 1) → ((gI o_me_8 15).toInt ≤ (gI o_me_8 13).toInt + 0) → (400 - (gI o_me_8 15).toInt).toNat < N8 → wp (lp_X9_next_149   N8 o_me_8) (fun (y : Ob) => IvX9 y ∧ Kp [1, 8, 11, 13, 18, 19, 20, 21, 23, 26, 29, 34, 38, 43, 56, 57, 58, 59, 62] [2, 3, 4, 5, 7, 10, 12, 22, 24, 25, 27, 28, 42, 48, 50, 51, 55, 61] [(0, 1), (1, 2), (29, 36), (36, 64), (64, 71)] o_me y ∧ ((gI y 15).toInt ≤ (gI y 13).toInt + 0)) := by
                  intro N8
                  induction N8 with
                  | zero =>
                    intro o_me_8 hI_me_8 hkp_me_8 hh176 hh177 hh178 hN8
                    exact absurd hN8 (Nat.not_lt_zero _)
                  | succ N8 ihx =>
                    have ih8 := ihx
                    intro o_me_8 hI_me_8 hkp_me_8 hh176 hh177 hh178 hN8
                    show wp (lb_X9_next_149   (lp_X9_next_149   N8) o_me_8) (fun (y : Ob) => IvX9 y ∧ Kp [1, 8, 11, 13, 18, 19, 20, 21, 23, 26, 29, 34, 38, 43, 56, 57, 58, 59, 62] [2, 3, 4, 5, 7, 10, 12, 22, 24, 25, 27, 28, 42, 48, 50, 51, 55, 61] [(0, 1), (1, 2), (29, 36), (36, 64), (64, 71)] o_me y ∧ ((gI y 15).toInt ≤ (gI y 13).toInt + 0))
                    unfold lb_X9_next_149
                    refine wp_if (fun c180 => ?_) (fun c180 => ?_)
                    · have c180 := cv_eq (a := (gI o_me_8 16).toInt) (b := 1) rfl (by decide) c180
                      have t181 := igX9_13 hI_me_8
                      refine wp_if (fun c182 => ?_) (fun c182 => ?_)
                      · have c182 := cv_ge (a := (gI o_me_8 15).toInt) (b := (gI o_me_8 13).toInt) rfl rfl c182
                        have lp9 : ∀ (N9 : Nat) (o_me_9 : Ob), IvX9 o_me_9 → Kp [1, 8, 11, 13, 18, 19, 20, 21, 23, 26, 29, 34, 38, 43, 56, 57, 58, 59, 62] [2, 3, 4, 5, 7, 10, 12, 22, 24, 25, 27, 28, 42, 48, 50, 51, 55, 61] [(0, 1), (1, 2), (29, 36), (36, 64), (64, 71)] o_me o_me_9 → (0 ≤ (gI o_me_9 15).toInt ∧ (gI o_me_9 15).toInt ≤ 400) → (1 ≤ (gI o_me_9 16).toInt ∧ (gI o_me_9 16).toInt ≤ 1) → ((gI o_me_9 15).toInt ≤ (gI o_me_9 13).toInt + 0) → (400 - (gI o_me_9 15).toInt).toNat < N9 → wp (lp_X9_next_243   N9 o_me_9) (fun (y : Ob) => IvX9 y ∧ Kp [1, 8, 11, 13, 18, 19, 20, 21, 23, 26, 29, 34, 38, 43, 56, 57, 58, 59, 62] [2, 3, 4, 5, 7, 10, 12, 22, 24, 25, 27, 28, 42, 48, 50, 51, 55, 61] [(0, 1), (1, 2), (29, 36), (36, 64), (64, 71)] o_me y ∧ ((gI y 15).toInt ≤ (gI y 13).toInt + 0)) := by
                          intro N9
                          induction N9 with
                          | zero =>
                            intro o_me_9 hI_me_9 hkp_me_9 hh186 hh187 hh188 hN9
                            exact absurd hN9 (Nat.not_lt_zero _)
                          | succ N9 ihx =>
                            have ih9 := ihx
                            intro o_me_9 hI_me_9 hkp_me_9 hh186 hh187 hh188 hN9
                            show wp (lb_X9_next_243   (lp_X9_next_243   N9) o_me_9) (fun (y : Ob) => IvX9 y ∧ Kp [1, 8, 11, 13, 18, 19, 20, 21, 23, 26, 29, 34, 38, 43, 56, 57, 58, 59, 62] [2, 3, 4, 5, 7, 10, 12, 22, 24, 25, 27, 28, 42, 48, 50, 51, 55, 61] [(0, 1), (1, 2), (29, 36), (36, 64), (64, 71)] o_me y ∧ ((gI y 15).toInt ≤ (gI y 13).toInt + 0))
                            unfold lb_X9_next_243
                            refine wp_if (fun c190 => ?_) (fun c190 => ?_)
                            · have c190 := cv_eq (a := (gI o_me_9 16).toInt) (b := 2) rfl (by decide) c190
                              exact absurd c190 (zne_l (k := 1) (l := 2) hh187.2 (by decide) (by decide))
                            · have c190 := cv_ne (a := (gI o_me_9 16).toInt) (b := 2) rfl (by decide) c190
                              refine wp_some ?_
                              have t191 := igX9_13 hI_me_9
                              exact (show IvX9 o_me_9 ∧ Kp [1, 8, 11, 13, 18, 19, 20, 21, 23, 26, 29, 34, 38, 43, 56, 57, 58, 59, 62] [2, 3, 4, 5, 7, 10, 12, 22, 24, 25, 27, 28, 42, 48, 50, 51, 55, 61] [(0, 1), (1, 2), (29, 36), (36, 64), (64, 71)] o_me o_me_9 ∧ ((gI o_me_9 15).toInt ≤ (gI o_me_9 13).toInt + 0) from ⟨hI_me_9, hkp_me_9, hh188⟩)
                        exact lp9 zfu o_me_8 hI_me_8 hkp_me_8 ⟨hh176.1, hh176.2⟩ ⟨hh177.1, hh177.2⟩ hh178 (zme_u (l := 0) hh176.1 (by decide))
                      · have c182 := cv_nge (a := (gI o_me_8 15).toInt) (b := (gI o_me_8 13).toInt) rfl rfl c182
                        refine wp_gd (zin_of (m := 400) rfl hh176.1 (zlt_m (c := 399) (zu_e (zl_d c182) t181.2 (by decide)) (by decide))) ?_
                        refine wp_bd (s_X9_isSmall   (gA o_me_8 12 (gI o_me_8 15).toNatClampNeg)    ) (fun z192 hz192 => ?_)
                        have hz192_0 := hz192
                        refine wp_if (fun c193 => ?_) (fun c193 => ?_)
                        · have c193 := cv_eq (a := z192.toInt) (b := 0) rfl (by decide) c193
                          have lp10 : ∀ (N10 : Nat) (o_me_10 : Ob), IvX9 o_me_10 → Kp [1, 8, 11, 13, 18, 19, 20, 21, 23, 26, 29, 34, 38, 43, 56, 57, 58, 59, 62] [2, 3, 4, 5, 7, 10, 12, 22, 24, 25, 27, 28, 42, 48, 50, 51, 55, 61] [(0, 1), (1, 2), (29, 36), (36, 64), (64, 71)] o_me o_me_10 → (0 ≤ (gI o_me_10 15).toInt ∧ (gI o_me_10 15).toInt ≤ 399) → (1 ≤ (gI o_me_10 16).toInt ∧ (gI o_me_10 16).toInt ≤ 1) → ((gI o_me_10 15).toInt ≤ (gI o_me_10 13).toInt + (-1)) → (399 - (gI o_me_10 15).toInt).toNat < N10 → wp (lp_X9_next_243   N10 o_me_10) (fun (y : Ob) => IvX9 y ∧ Kp [1, 8, 11, 13, 18, 19, 20, 21, 23, 26, 29, 34, 38, 43, 56, 57, 58, 59, 62] [2, 3, 4, 5, 7, 10, 12, 22, 24, 25, 27, 28, 42, 48, 50, 51, 55, 61] [(0, 1), (1, 2), (29, 36), (36, 64), (64, 71)] o_me y ∧ ((gI y 15).toInt ≤ (gI y 13).toInt + 0)) := by
                            intro N10
                            induction N10 with
                            | zero =>
                              intro o_me_10 hI_me_10 hkp_me_10 hh197 hh198 hh199 hN10
                              exact absurd hN10 (Nat.not_lt_zero _)
                            | succ N10 ihx =>
                              have ih10 := ihx
                              intro o_me_10 hI_me_10 hkp_me_10 hh197 hh198 hh199 hN10
                              show wp (lb_X9_next_243   (lp_X9_next_243   N10) o_me_10) (fun (y : Ob) => IvX9 y ∧ Kp [1, 8, 11, 13, 18, 19, 20, 21, 23, 26, 29, 34, 38, 43, 56, 57, 58, 59, 62] [2, 3, 4, 5, 7, 10, 12, 22, 24, 25, 27, 28, 42, 48, 50, 51, 55, 61] [(0, 1), (1, 2), (29, 36), (36, 64), (64, 71)] o_me y ∧ ((gI y 15).toInt ≤ (gI y 13).toInt + 0))
                              unfold lb_X9_next_243
                              refine wp_if (fun c201 => ?_) (fun c201 => ?_)
                              · have c201 := cv_eq (a := (gI o_me_10 16).toInt) (b := 2) rfl (by decide) c201
                                exact absurd c201 (zne_l (k := 1) (l := 2) hh198.2 (by decide) (by decide))
                              · have c201 := cv_ne (a := (gI o_me_10 16).toInt) (b := 2) rfl (by decide) c201
                                refine wp_some ?_
                                have t202 := igX9_13 hI_me_10
                                exact (show IvX9 o_me_10 ∧ Kp [1, 8, 11, 13, 18, 19, 20, 21, 23, 26, 29, 34, 38, 43, 56, 57, 58, 59, 62] [2, 3, 4, 5, 7, 10, 12, 22, 24, 25, 27, 28, 42, 48, 50, 51, 55, 61] [(0, 1), (1, 2), (29, 36), (36, 64), (64, 71)] o_me o_me_10 ∧ ((gI o_me_10 15).toInt ≤ (gI o_me_10 13).toInt + 0) from ⟨hI_me_10, hkp_me_10, (zd_w hh199 (by decide))⟩)
                          exact lp10 zfu o_me_8 hI_me_8 hkp_me_8 ⟨hh176.1, (zu_e (zl_d c182) t181.2 (by decide))⟩ ⟨hh177.1, hh177.2⟩ (zl_d c182) (zme_u (l := 0) hh176.1 (by decide))
                        · have c193z := c193
                          have c193 := cv_ne (a := z192.toInt) (b := 0) rfl (by decide) c193
                          have t203 := igX9_14 hI_me_8
                          have t204 : ((gI o_me_8 15) - (gI o_me_8 14)).toInt = (gI o_me_8 15).toInt - (gI o_me_8 14).toInt := i32_sub rfl rfl (zs_ll hh176.1 t203.2 (by decide)) (zs_uu (zu_e (k := 399) (zl_d c182) t181.2 (by decide)) t203.1 (by decide))
                          refine wp_if (fun c205 => ?_) (fun c205 => ?_)
                          · have c205 := cv_ge (a := ((gI o_me_8 15) - (gI o_me_8 14)).toInt) (b := 10) rfl (by decide) c205
                            obtain ⟨w206, ew206⟩ : ∃ z : Int64, z = (-1 : Int64) := ⟨_, rfl⟩
                            have tw206 : w206.toInt = (-1) := by rw [ew206]; decide
                            rw [show bk_X9_next_227  (lp_X9_next_149   N8) (-1 : Int64) o_me_8 = bk_X9_next_227  (lp_X9_next_149   N8) w206 o_me_8 from by rw [ew206]]
                            unfold bk_X9_next_227
                            refine wp_lt (fun o207 eo207 => ?_)
                            have hIo207 : IvX9 o207 := by rw [eo207]; exact hI_me_8
                            have ko207_k208 : (gI o207 13).toInt = (gI o_me_8 13).toInt := by rw [eo207]; rfl
                            have ko207_k209 : (gI o207 14).toInt = (gI o_me_8 14).toInt := by rw [eo207]; rfl
                            have ko207_k210 : (gI o207 15).toInt = (gI o_me_8 15).toInt := by rw [eo207]; rfl
                            have ko207_k211 : (gI o207 16).toInt = (gI o_me_8 16).toInt := by rw [eo207]; rfl
                            have ko207_v : (gL o207 17).toInt = w206.toInt := by rw [eo207]; rfl
                            have hkpo207 : Kp [1, 8, 11, 13, 18, 19, 20, 21, 23, 26, 29, 34, 38, 43, 56, 57, 58, 59, 62] [2, 3, 4, 5, 7, 10, 12, 22, 24, 25, 27, 28, 42, 48, 50, 51, 55, 61] [(0, 1), (1, 2), (29, 36), (36, 64), (64, 71)] o_me o207 := hkp_me_8.trans (by rw [eo207]; exact Kp.sL)
                            have t212 : ((gI o207 15) + (1 : Int32)).toInt = (gI o207 15).toInt + 1 := i32_add rfl (by decide) (zk_l (zl_e (k := 0) (zq_0 ko207_k210.symm) hh176.1 (by decide)) (by decide)) (zk_u (zu_e (k := 399) (zd_e (c := (-1)) (zq_0 ko207_k210) (zl_d c182) (by decide)) t181.2 (by decide)) (by decide))
                            refine wp_lt (fun o213 eo213 => ?_)
                            have hIo213 : IvX9 o213 := by rw [eo213]; exact ipX9_15 hIo207 ⟨(zl_e (zd_e (c := (-1)) (zq_0 ko207_k210.symm) (zq_r (c := (-1)) t212 (by decide)) (by decide)) hh176.1 (by decide)), (zu_e (zd_e (c := 0) (zd_e (c := 1) (Int.le_of_eq t212) (zq_0 ko207_k210) (by decide)) (zl_d c182) (by decide)) t181.2 (by decide))⟩
                            have ko213_k214 : (gI o213 13).toInt = (gI o207 13).toInt := by rw [eo213]; rfl
                            have ko213_k215 : (gI o213 14).toInt = (gI o207 14).toInt := by rw [eo213]; rfl
                            have ko213_k216 : (gI o213 16).toInt = (gI o207 16).toInt := by rw [eo213]; rfl
                            have ko213_k217 : (gL o213 17).toInt = (gL o207 17).toInt := by rw [eo213]; rfl
                            have ko213_v : (gI o213 15).toInt = ((gI o207 15) + (1 : Int32)).toInt := by rw [eo213]; rfl
                            have hkpo213 : Kp [1, 8, 11, 13, 18, 19, 20, 21, 23, 26, 29, 34, 38, 43, 56, 57, 58, 59, 62] [2, 3, 4, 5, 7, 10, 12, 22, 24, 25, 27, 28, 42, 48, 50, 51, 55, 61] [(0, 1), (1, 2), (29, 36), (36, 64), (64, 71)] o_me o213 := hkpo207.trans (by rw [eo213]; exact Kp.sI (by decide))
                            exact ih8 o213 hIo213 hkpo213 ⟨(zl_e (zd_e (c := (-1)) (zq_0 ko207_k210.symm) (zd_e (c := (-1)) (zq_r (c := (-1)) t212 (by decide)) (zq_0 ko213_v.symm) (by decide)) (by decide)) hh176.1 (by decide)), (zu_e (zd_e (c := 0) (zd_e (c := 1) (zd_e (c := 1) (zq_0 ko213_v) (Int.le_of_eq t212) (by decide)) (zq_0 ko207_k210) (by decide)) (zl_d c182) (by decide)) t181.2 (by decide))⟩ ⟨(zl_e (zd_e (c := 0) (zq_0 ko207_k211.symm) (zq_0 ko213_k216.symm) (by decide)) hh177.1 (by decide)), (zu_e (zd_e (c := 0) (zq_0 ko213_k216) (zq_0 ko207_k211) (by decide)) hh177.2 (by decide))⟩ (by omega) (zms_u (c := 399) hN8 (zd_e (c := (-1)) (zd_e (c := (-1)) (zq_0 ko207_k210.symm) (zq_r (c := (-1)) t212 (by decide)) (by decide)) (zq_0 ko213_v.symm) (by decide)) (zu_e (zl_d c182) t181.2 (by decide)) (by decide))
                          · have c205 := cv_nge (a := ((gI o_me_8 15) - (gI o_me_8 14)).toInt) (b := 10) rfl (by decide) c205
                            refine wp_gd (zin_of (m := 400) rfl hh176.1 (zlt_m (c := 399) (zu_e (zl_d c182) t181.2 (by decide)) (by decide))) ?_
                            have rg218 := i32_rg (gA o_me_8 12 (gI o_me_8 15).toNatClampNeg)
                            have t219 : ((gA o_me_8 12 (gI o_me_8 15).toNatClampNeg).toInt64).toInt = (gA o_me_8 12 (gI o_me_8 15).toNatClampNeg).toInt := Int32.toInt_toInt64 _
                            obtain ⟨w220, ew220⟩ : ∃ z : Int64, z = (((gL o_me_8 17) * (32 : Int64)) + ((gA o_me_8 12 (gI o_me_8 15).toNatClampNeg).toInt64)) - (96 : Int64) := ⟨_, rfl⟩
                            have tw220 : w220.toInt = ((((gL o_me_8 17) * (32 : Int64)) + ((gA o_me_8 12 (gI o_me_8 15).toNatClampNeg).toInt64)) - (96 : Int64)).toInt := by rw [ew220]
                            rw [show bk_X9_next_227  (lp_X9_next_149   N8) ((((gL o_me_8 17) * (32 : Int64)) + ((gA o_me_8 12 (gI o_me_8 15).toNatClampNeg).toInt64)) - (96 : Int64)) o_me_8 = bk_X9_next_227  (lp_X9_next_149   N8) w220 o_me_8 from by rw [ew220]]
                            unfold bk_X9_next_227
                            refine wp_lt (fun o221 eo221 => ?_)
                            have hIo221 : IvX9 o221 := by rw [eo221]; exact hI_me_8
                            have ko221_k222 : (gA o221 12 (gI o_me_8 15).toNatClampNeg).toInt = (gA o_me_8 12 (gI o_me_8 15).toNatClampNeg).toInt := by rw [eo221]; rfl
                            have ko221_k223 : (gI o221 13).toInt = (gI o_me_8 13).toInt := by rw [eo221]; rfl
                            have ko221_k224 : (gI o221 14).toInt = (gI o_me_8 14).toInt := by rw [eo221]; rfl
                            have ko221_k225 : (gI o221 15).toInt = (gI o_me_8 15).toInt := by rw [eo221]; rfl
                            have ko221_k226 : (gI o221 16).toInt = (gI o_me_8 16).toInt := by rw [eo221]; rfl
                            have ko221_v : (gL o221 17).toInt = w220.toInt := by rw [eo221]; rfl
                            have hkpo221 : Kp [1, 8, 11, 13, 18, 19, 20, 21, 23, 26, 29, 34, 38, 43, 56, 57, 58, 59, 62] [2, 3, 4, 5, 7, 10, 12, 22, 24, 25, 27, 28, 42, 48, 50, 51, 55, 61] [(0, 1), (1, 2), (29, 36), (36, 64), (64, 71)] o_me o221 := hkp_me_8.trans (by rw [eo221]; exact Kp.sL)
                            have t227 : ((gI o221 15) + (1 : Int32)).toInt = (gI o221 15).toInt + 1 := i32_add rfl (by decide) (zk_l (zl_e (k := 0) (zq_0 ko221_k225.symm) hh176.1 (by decide)) (by decide)) (zk_u (zu_e (k := 399) (zd_e (c := (-1)) (zq_0 ko221_k225) (zl_d c182) (by decide)) t181.2 (by decide)) (by decide))
                            refine wp_lt (fun o228 eo228 => ?_)
                            have hIo228 : IvX9 o228 := by rw [eo228]; exact ipX9_15 hIo221 ⟨(zl_e (zd_e (c := (-1)) (zq_0 ko221_k225.symm) (zq_r (c := (-1)) t227 (by decide)) (by decide)) hh176.1 (by decide)), (zu_e (zd_e (c := 0) (zd_e (c := 1) (Int.le_of_eq t227) (zq_0 ko221_k225) (by decide)) (zl_d c182) (by decide)) t181.2 (by decide))⟩
                            have ko228_k229 : (gA o228 12 (gI o_me_8 15).toNatClampNeg).toInt = (gA o221 12 (gI o_me_8 15).toNatClampNeg).toInt := by rw [eo228]; rfl
                            have ko228_k230 : (gI o228 13).toInt = (gI o221 13).toInt := by rw [eo228]; rfl
                            have ko228_k231 : (gI o228 14).toInt = (gI o221 14).toInt := by rw [eo228]; rfl
                            have ko228_k232 : (gI o228 16).toInt = (gI o221 16).toInt := by rw [eo228]; rfl
                            have ko228_k233 : (gL o228 17).toInt = (gL o221 17).toInt := by rw [eo228]; rfl
                            have ko228_v : (gI o228 15).toInt = ((gI o221 15) + (1 : Int32)).toInt := by rw [eo228]; rfl
                            have hkpo228 : Kp [1, 8, 11, 13, 18, 19, 20, 21, 23, 26, 29, 34, 38, 43, 56, 57, 58, 59, 62] [2, 3, 4, 5, 7, 10, 12, 22, 24, 25, 27, 28, 42, 48, 50, 51, 55, 61] [(0, 1), (1, 2), (29, 36), (36, 64), (64, 71)] o_me o228 := hkpo221.trans (by rw [eo228]; exact Kp.sI (by decide))
                            exact ih8 o228 hIo228 hkpo228 ⟨(zl_e (zd_e (c := (-1)) (zq_0 ko221_k225.symm) (zd_e (c := (-1)) (zq_r (c := (-1)) t227 (by decide)) (zq_0 ko228_v.symm) (by decide)) (by decide)) hh176.1 (by decide)), (zu_e (zd_e (c := 0) (zd_e (c := 1) (zd_e (c := 1) (zq_0 ko228_v) (Int.le_of_eq t227) (by decide)) (zq_0 ko221_k225) (by decide)) (zl_d c182) (by decide)) t181.2 (by decide))⟩ ⟨(zl_e (zd_e (c := 0) (zq_0 ko221_k226.symm) (zq_0 ko228_k232.symm) (by decide)) hh177.1 (by decide)), (zu_e (zd_e (c := 0) (zq_0 ko228_k232) (zq_0 ko221_k226) (by decide)) hh177.2 (by decide))⟩ (by omega) (zms_u (c := 399) hN8 (zd_e (c := (-1)) (zd_e (c := (-1)) (zq_0 ko221_k225.symm) (zq_r (c := (-1)) t227 (by decide)) (by decide)) (zq_0 ko228_v.symm) (by decide)) (zu_e (zl_d c182) t181.2 (by decide)) (by decide))
                    · have c180 := cv_ne (a := (gI o_me_8 16).toInt) (b := 1) rfl (by decide) c180
                      exact absurd (Int.le_antisymm hh177.2 hh177.1) c180
                exact lp8 zfu o166 hIo166 hkpo166 ⟨(zl_e (zd_e (c := 0) (zq_0 ko52_v.symm) (zd_e (c := 0) (zq_0 ko56_k60.symm) (zq_0 ko166_k170.symm) (by decide)) (by decide)) hh8.1 (by decide)), (zu_e (zd_e (c := 0) (zd_e (c := 0) (zq_0 ko166_k170) (zq_0 ko56_k60) (by decide)) (zq_0 ko52_v) (by decide)) hh8.2 (by decide))⟩ ⟨(zl_e (zq_0 ko166_v.symm) (Int.le_of_eq tw165.symm) (by decide)), (zu_e (zq_0 ko166_v) (Int.le_of_eq tw165) (by decide))⟩ (by omega) (zme_u (l := 0) (zl_e (k := 0) (zd_e (c := 0) (zq_0 ko52_v.symm) (zd_e (c := 0) (zq_0 ko56_k60.symm) (zq_0 ko166_k170.symm) (by decide)) (by decide)) hh8.1 (by decide)) (by decide))
  have t234 := igX9_13 hIo2
  exact lp1 zfu o2 hIo2 hkpo2 ⟨(zl_e (zq_0 ko2_v.symm) t1.1 (by decide)), (zu_e (zq_0 ko2_v) t1.2 (by decide))⟩ (zd_e (c := 0) (zd_e (c := 0) (zq_0 ko2_v) r0 (by decide)) (zq_0 ko2_k3.symm) (by decide)) (zme_u (l := 0) (zl_e (k := 0) (zq_0 ko2_v.symm) t1.1 (by decide)) (by decide))

set_option maxHeartbeats 4000000 in
set_option maxRecDepth 100000 in
theorem s_X9_begin (o_me : Ob) (hI_me : IvX9 o_me)  : wp (f_X9_begin   o_me) (fun (y : Ob) => IvX9 y ∧ Kp [1, 8, 11, 13, 20, 21, 23, 26, 29, 34, 38, 43, 56, 57, 58, 59, 62] [2, 3, 4, 5, 7, 10, 12, 22, 24, 25, 27, 28, 42, 48, 50, 51, 55, 61] [(0, 1), (1, 2), (29, 36), (36, 64), (64, 71)] o_me y ∧ ((gI y 15).toInt ≤ (gI y 13).toInt + 0)) := by
  unfold f_X9_begin
  refine wp_lt (fun o1 eo1 => ?_)
  have hIo1 : IvX9 o1 := by rw [eo1]; exact ipX9_15 hI_me ⟨by decide, by decide⟩
  have ko1_v : (gI o1 15).toInt = 0 := by rw [eo1]; exact (show ((0 : Int32)).toInt = _ from by decide)
  have hkpo1 : Kp [1, 8, 11, 13, 20, 21, 23, 26, 29, 34, 38, 43, 56, 57, 58, 59, 62] [2, 3, 4, 5, 7, 10, 12, 22, 24, 25, 27, 28, 42, 48, 50, 51, 55, 61] [(0, 1), (1, 2), (29, 36), (36, 64), (64, 71)] o_me o1 := Kp.rf.trans (by rw [eo1]; exact Kp.sI (by decide))
  refine wp_lt (fun o2 eo2 => ?_)
  have hIo2 : IvX9 o2 := by rw [eo2]; exact ipX9_19 hIo1 ⟨by decide, by decide⟩
  have ko2_k3 : (gI o2 15).toInt = (gI o1 15).toInt := by rw [eo2]; rfl
  have hkpo2 : Kp [1, 8, 11, 13, 20, 21, 23, 26, 29, 34, 38, 43, 56, 57, 58, 59, 62] [2, 3, 4, 5, 7, 10, 12, 22, 24, 25, 27, 28, 42, 48, 50, 51, 55, 61] [(0, 1), (1, 2), (29, 36), (36, 64), (64, 71)] o_me o2 := hkpo1.trans (by rw [eo2]; exact Kp.sI (by decide))
  refine wp_lt (fun o4 eo4 => ?_)
  have hIo4 : IvX9 o4 := by rw [eo4]; exact hIo2
  have ko4_k5 : (gI o4 15).toInt = (gI o2 15).toInt := by rw [eo4]; rfl
  have hkpo4 : Kp [1, 8, 11, 13, 20, 21, 23, 26, 29, 34, 38, 43, 56, 57, 58, 59, 62] [2, 3, 4, 5, 7, 10, 12, 22, 24, 25, 27, 28, 42, 48, 50, 51, 55, 61] [(0, 1), (1, 2), (29, 36), (36, 64), (64, 71)] o_me o4 := hkpo2.trans (by rw [eo4]; exact Kp.sI (by decide))
  have t8 := igX9_13 hIo4
  refine wp_bd (s_X9_next   o4  hIo4  (zd_b (zu_e (k := 0) (zd_e (c := 0) (zq_0 ko4_k5) (zq_0 ko2_k3) (by decide)) (Int.le_of_eq ko1_v) (by decide)) t8.1 (by decide))) (fun z7 hz7 => ?_)
  obtain ⟨hz7_0, hz7_1, hz7_2⟩ := hz7
  have hkpz7_me : Kp [1, 8, 11, 13, 20, 21, 23, 26, 29, 34, 38, 43, 56, 57, 58, 59, 62] [2, 3, 4, 5, 7, 10, 12, 22, 24, 25, 27, 28, 42, 48, 50, 51, 55, 61] [(0, 1), (1, 2), (29, 36), (36, 64), (64, 71)] o_me z7 := hkpo4.trans (hz7_1.mono (by decide) (by decide) (by decide))
  refine wp_some ?_
  exact (show IvX9 z7 ∧ Kp [1, 8, 11, 13, 20, 21, 23, 26, 29, 34, 38, 43, 56, 57, 58, 59, 62] [2, 3, 4, 5, 7, 10, 12, 22, 24, 25, 27, 28, 42, 48, 50, 51, 55, 61] [(0, 1), (1, 2), (29, 36), (36, 64), (64, 71)] o_me z7 ∧ ((gI z7 15).toInt ≤ (gI z7 13).toInt + 0) from ⟨hz7_0, hkpz7_me, hz7_2⟩)

set_option maxHeartbeats 4000000 in
set_option maxRecDepth 100000 in
theorem s_X9_beginText (o_me : Ob) (p0 : Int32) (hI_me : IvX9 o_me) (q0 : 0 ≤ p0.toInt ∧ p0.toInt ≤ 1) : wp (f_X9_beginText   o_me p0) (fun (y : Ob) => IvX9 y ∧ Kp [1, 8, 11, 13, 29, 34, 38, 43, 56, 57, 58, 59, 62] [2, 3, 4, 5, 7, 10, 12, 22, 24, 25, 27, 28, 42, 48, 50, 51, 55, 61] [(0, 1), (1, 2), (29, 36), (36, 64), (64, 71)] o_me y ∧ ((gI y 15).toInt ≤ (gI y 13).toInt + 0)) := by
  have li0 : (0 : Int32).toInt = 0 := by decide
  unfold f_X9_beginText
  refine wp_gd (zbo_of q0.1 q0.2) ?_
  refine wp_lt (fun o1 eo1 => ?_)
  have hIo1 : IvX9 o1 := by rw [eo1]; exact ipX9_20 hI_me ⟨q0.1, q0.2⟩
  have ko1_v : (gI o1 20).toInt = p0.toInt := by rw [eo1]; rfl
  have hkpo1 : Kp [1, 8, 11, 13, 29, 34, 38, 43, 56, 57, 58, 59, 62] [2, 3, 4, 5, 7, 10, 12, 22, 24, 25, 27, 28, 42, 48, 50, 51, 55, 61] [(0, 1), (1, 2), (29, 36), (36, 64), (64, 71)] o_me o1 := Kp.rf.trans (by rw [eo1]; exact Kp.sI (by decide))
  refine wp_bd (s_X9_begin   o1  hIo1  ) (fun z2 hz2 => ?_)
  obtain ⟨hz2_0, hz2_1, hz2_2⟩ := hz2
  have hkpz2_me : Kp [1, 8, 11, 13, 29, 34, 38, 43, 56, 57, 58, 59, 62] [2, 3, 4, 5, 7, 10, 12, 22, 24, 25, 27, 28, 42, 48, 50, 51, 55, 61] [(0, 1), (1, 2), (29, 36), (36, 64), (64, 71)] o_me z2 := hkpo1.trans (hz2_1.mono (by decide) (by decide) (by decide))
  have kz2_k3 : (gI z2 20).toInt = (gI o1 20).toInt := congrArg Int32.toInt (hz2_1.1 20 (by decide))
  refine wp_lt (fun o4 eo4 => ?_)
  have hIo4 : IvX9 o4 := by rw [eo4]; exact ipX9_21 hz2_0 ⟨by decide, by decide⟩
  have ko4_k5 : (gI o4 13).toInt = (gI z2 13).toInt := by rw [eo4]; rfl
  have ko4_k6 : (gI o4 15).toInt = (gI z2 15).toInt := by rw [eo4]; rfl
  have ko4_k7 : (gI o4 20).toInt = (gI z2 20).toInt := by rw [eo4]; rfl
  have ko4_v : (gI o4 21).toInt = 0 := by rw [eo4]; exact (show ((0 : Int32)).toInt = _ from by decide)
  have hkpo4 : Kp [1, 8, 11, 13, 29, 34, 38, 43, 56, 57, 58, 59, 62] [2, 3, 4, 5, 7, 10, 12, 22, 24, 25, 27, 28, 42, 48, 50, 51, 55, 61] [(0, 1), (1, 2), (29, 36), (36, 64), (64, 71)] o_me o4 := hkpz2_me.trans (by rw [eo4]; exact Kp.sI (by decide))
  refine wp_lt (fun o8 eo8 => ?_)
  have hIo8 : IvX9 o8 := by rw [eo8]; exact ipX9_23 hIo4 ⟨by decide, by decide⟩
  have ko8_k9 : (gI o8 13).toInt = (gI o4 13).toInt := by rw [eo8]; rfl
  have ko8_k10 : (gI o8 15).toInt = (gI o4 15).toInt := by rw [eo8]; rfl
  have ko8_k11 : (gI o8 20).toInt = (gI o4 20).toInt := by rw [eo8]; rfl
  have ko8_k12 : (gI o8 21).toInt = (gI o4 21).toInt := by rw [eo8]; rfl
  have ko8_v : (gI o8 23).toInt = 0 := by rw [eo8]; exact (show ((0 : Int32)).toInt = _ from by decide)
  have hkpo8 : Kp [1, 8, 11, 13, 29, 34, 38, 43, 56, 57, 58, 59, 62] [2, 3, 4, 5, 7, 10, 12, 22, 24, 25, 27, 28, 42, 48, 50, 51, 55, 61] [(0, 1), (1, 2), (29, 36), (36, 64), (64, 71)] o_me o8 := hkpo4.trans (by rw [eo8]; exact Kp.sI (by decide))
  refine wp_lt (fun o13 eo13 => ?_)
  have hIo13 : IvX9 o13 := by rw [eo13]; exact ipX9_26 hIo8 ⟨by decide, by decide⟩
  have ko13_k14 : (gI o13 13).toInt = (gI o8 13).toInt := by rw [eo13]; rfl
  have ko13_k15 : (gI o13 15).toInt = (gI o8 15).toInt := by rw [eo13]; rfl
  have ko13_k16 : (gI o13 20).toInt = (gI o8 20).toInt := by rw [eo13]; rfl
  have ko13_k17 : (gI o13 21).toInt = (gI o8 21).toInt := by rw [eo13]; rfl
  have ko13_k18 : (gI o13 23).toInt = (gI o8 23).toInt := by rw [eo13]; rfl
  have ko13_v : (gI o13 26).toInt = 0 := by rw [eo13]; exact (show ((0 : Int32)).toInt = _ from by decide)
  have hkpo13 : Kp [1, 8, 11, 13, 29, 34, 38, 43, 56, 57, 58, 59, 62] [2, 3, 4, 5, 7, 10, 12, 22, 24, 25, 27, 28, 42, 48, 50, 51, 55, 61] [(0, 1), (1, 2), (29, 36), (36, 64), (64, 71)] o_me o13 := hkpo8.trans (by rw [eo13]; exact Kp.sI (by decide))
  refine wp_some ?_
  have t19 := igX9_15 hIo13
  have t20 := igX9_13 hIo13
  exact (show IvX9 o13 ∧ Kp [1, 8, 11, 13, 29, 34, 38, 43, 56, 57, 58, 59, 62] [2, 3, 4, 5, 7, 10, 12, 22, 24, 25, 27, 28, 42, 48, 50, 51, 55, 61] [(0, 1), (1, 2), (29, 36), (36, 64), (64, 71)] o_me o13 ∧ ((gI o13 15).toInt ≤ (gI o13 13).toInt + 0) from ⟨hIo13, hkpo13, (by omega)⟩)

set_option maxHeartbeats 4000000 in
set_option maxRecDepth 100000 in
theorem s_X9_isSign (o_me : Ob) (p0 : Int32) (hI_me : IvX9 o_me)  : wp (f_X9_isSign   o_me p0) (fun (y : Int32) => (0 ≤ y.toInt ∧ y.toInt ≤ 1)) := by
  unfold f_X9_isSign
  refine wp_if (fun c2 => ?_) (fun c2 => ?_)
  · refine wp_if (fun c5 => ?_) (fun c5 => ?_)
    · refine wp_some ?_
      exact (show (0 ≤ (1 : Int32).toInt ∧ (1 : Int32).toInt ≤ 1) from ⟨by decide, by decide⟩)
    · refine wp_some ?_
      exact (show (0 ≤ (0 : Int32).toInt ∧ (0 : Int32).toInt ≤ 1) from ⟨by decide, by decide⟩)
  · refine wp_some ?_
    exact (show (0 ≤ (0 : Int32).toInt ∧ (0 : Int32).toInt ≤ 1) from ⟨by decide, by decide⟩)

set_option maxHeartbeats 4000000 in
set_option maxRecDepth 100000 in
theorem s_X9_inner (o_me : Ob) (hI_me : IvX9 o_me)  : wp (f_X9_inner   o_me) (fun (y : Int32) => ((-1) ≤ y.toInt ∧ y.toInt ≤ 2147483647)) := by
  unfold f_X9_inner
  have lp1 : ∀ (N1 : Nat) (v1_1 : Int32) (v2_1 : Int32), ((-1) ≤ v1_1.toInt ∧ v1_1.toInt ≤ 2147483647) → (0 ≤ v2_1.toInt ∧ v2_1.toInt ≤ 400) → (400 - v2_1.toInt).toNat < N1 → wp (lp_X9_inner_4 o_me  N1 (v1_1, v2_1)) (fun (y : Int32) => ((-1) ≤ y.toInt ∧ y.toInt ≤ 2147483647)) := by
    intro N1
    induction N1 with
    | zero =>
      intro v1_1 v2_1 hh1 hh2 hN1
      exact absurd hN1 (Nat.not_lt_zero _)
    | succ N1 ihx =>
      have ih1 := ihx
      intro v1_1 v2_1 hh1 hh2 hN1
      show wp (lb_X9_inner_4 o_me  (lp_X9_inner_4 o_me  N1) v1_1 v2_1) (fun (y : Int32) => ((-1) ≤ y.toInt ∧ y.toInt ≤ 2147483647))
      unfold lb_X9_inner_4
      have t3 := igX9_29 hI_me
      refine wp_if (fun c4 => ?_) (fun c4 => ?_)
      · have c4 := cv_ge (a := v2_1.toInt) (b := (gI o_me 29).toInt) rfl rfl c4
        refine wp_some ?_
        exact (show ((-1) ≤ v1_1.toInt ∧ v1_1.toInt ≤ 2147483647) from ⟨hh1.1, hh1.2⟩)
      · have c4 := cv_nge (a := v2_1.toInt) (b := (gI o_me 29).toInt) rfl rfl c4
        refine wp_gd (zin_of (m := 400) rfl hh2.1 (zlt_m (c := 399) (zu_e (zl_d c4) t3.2 (by decide)) (by decide))) ?_
        refine wp_if (fun c6 => ?_) (fun c6 => ?_)
        · have c6 := cv_lt (a := (gA o_me 27 v2_1.toNatClampNeg).toInt) (b := 31) rfl (by decide) c6
          unfold bk_X9_inner_33
          refine wp_lt (fun x7 ex7 => ?_)
          have tx7 : x7.toInt = v2_1.toInt + 1 := by rw [ex7]; exact i32_add rfl (by decide) (zk_l hh2.1 (by decide)) (zk_u (zu_e (k := 399) (zl_d c4) t3.2 (by decide)) (by decide))
          exact ih1 v1_1 x7  ⟨hh1.1, hh1.2⟩ ⟨(zl_e (zq_r (c := (-1)) tx7 (by decide)) hh2.1 (by decide)), (zu_e (zd_e (c := 0) (Int.le_of_eq tx7) (zl_d c4) (by decide)) t3.2 (by decide))⟩ (zms_u (c := 399) hN1 (zq_r (c := (-1)) tx7 (by decide)) (zu_e (zl_d c4) t3.2 (by decide)) (by decide))
        · have c6 := cv_nlt (a := (gA o_me 27 v2_1.toNatClampNeg).toInt) (b := 31) rfl (by decide) c6
          refine wp_gd (zin_of (m := 400) rfl hh2.1 (zlt_m (c := 399) (zu_e (zl_d c4) t3.2 (by decide)) (by decide))) ?_
          obtain ⟨w9, ew9⟩ : ∃ z : Int32, z = gA o_me 27 v2_1.toNatClampNeg := ⟨_, rfl⟩
          have tw9 : w9.toInt = (gA o_me 27 v2_1.toNatClampNeg).toInt := by rw [ew9]
          rw [show bk_X9_inner_33 o_me (lp_X9_inner_4 o_me  N1) v2_1 (gA o_me 27 v2_1.toNatClampNeg) = bk_X9_inner_33 o_me (lp_X9_inner_4 o_me  N1) v2_1 w9 from by rw [ew9]]
          unfold bk_X9_inner_33
          refine wp_lt (fun x10 ex10 => ?_)
          have tx10 : x10.toInt = v2_1.toInt + 1 := by rw [ex10]; exact i32_add rfl (by decide) (zk_l hh2.1 (by decide)) (zk_u (zu_e (k := 399) (zl_d c4) t3.2 (by decide)) (by decide))
          have rg11 := i32_rg w9
          exact ih1 w9 x10  ⟨(zl_e (zq_0 tw9.symm) c6 (by decide)), rg11.2⟩ ⟨(zl_e (zq_r (c := (-1)) tx10 (by decide)) hh2.1 (by decide)), (zu_e (zd_e (c := 0) (Int.le_of_eq tx10) (zl_d c4) (by decide)) t3.2 (by decide))⟩ (zms_u (c := 399) hN1 (zq_r (c := (-1)) tx10 (by decide)) (zu_e (zl_d c4) t3.2 (by decide)) (by decide))
  exact lp1 zfu (-1 : Int32) (0 : Int32)  ⟨by decide, by decide⟩ ⟨by decide, by decide⟩ (zme_u (l := 0) (Int.le_of_eq tz0.symm) (by decide))

set_option maxHeartbeats 4000000 in
set_option maxRecDepth 100000 in
theorem s_X9_isCompared (o_me : Ob) (hI_me : IvX9 o_me)  : wp (f_X9_isCompared   o_me) (fun (y : Int32) => (0 ≤ y.toInt ∧ y.toInt ≤ 1)) := by
  unfold f_X9_isCompared
  have t1 := igX9_29 hI_me
  have t2 : ((gI o_me 29) - (1 : Int32)).toInt = (gI o_me 29).toInt - 1 := i32_sub rfl (by decide) (zs_l t1.1 (by decide)) (zs_u t1.2 (by decide))
  refine wp_lt (fun x3 ex3 => ?_)
  have tx3 : x3.toInt = ((gI o_me 29) - (1 : Int32)).toInt := by rw [ex3]
  have lp1 : ∀ (N1 : Nat) (v1_1 : Int32), ((-1) ≤ v1_1.toInt ∧ v1_1.toInt ≤ 399) → (v1_1.toInt - (-1)).toNat < N1 → wp (lp_X9_isCompared_7 o_me  N1 v1_1) (fun (y : Int32) => (0 ≤ y.toInt ∧ y.toInt ≤ 1)) := by
    intro N1
    induction N1 with
    | zero =>
      intro v1_1 hh4 hN1
      exact absurd hN1 (Nat.not_lt_zero _)
    | succ N1 ihx =>
      have ih1 := ihx
      intro v1_1 hh4 hN1
      show wp (lb_X9_isCompared_7 o_me  (lp_X9_isCompared_7 o_me  N1) v1_1) (fun (y : Int32) => (0 ≤ y.toInt ∧ y.toInt ≤ 1))
      unfold lb_X9_isCompared_7
      refine wp_if (fun c5 => ?_) (fun c5 => ?_)
      · have c5 := cv_lt (a := v1_1.toInt) (b := 0) rfl (by decide) c5
        unfold bk_X9_isCompared_36
        refine wp_if (fun c6 => ?_) (fun c6 => ?_)
        · have c6 := cv_lt (a := v1_1.toInt) (b := 0) rfl (by decide) c6
          refine wp_some ?_
          exact (show (0 ≤ (0 : Int32).toInt ∧ (0 : Int32).toInt ≤ 1) from ⟨by decide, by decide⟩)
        · have c6 := cv_nlt (a := v1_1.toInt) (b := 0) rfl (by decide) c6
          exact absurd c6 (Int.not_le.mpr (zlt_m (c := (-1)) (zlt_u (c := (-1)) c5 (by decide)) (by decide)))
      · have c5 := cv_nlt (a := v1_1.toInt) (b := 0) rfl (by decide) c5
        refine wp_gd (zin_of (m := 400) rfl c5 (zlt_m (c := 399) hh4.2 (by decide))) ?_
        refine wp_bd (s_X9_in   ((gA o_me 27 v1_1.toNatClampNeg).toInt64) (20 : Int64) (24 : Int64)    ) (fun z9 hz9 => ?_)
        refine wp_if (fun c10 => ?_) (fun c10 => ?_)
        · unfold bk_X9_isCompared_36
          refine wp_if (fun c11 => ?_) (fun c11 => ?_)
          · have c11 := cv_lt (a := v1_1.toInt) (b := 0) rfl (by decide) c11
            exact absurd c11 (Int.not_lt.mpr c5)
          · refine wp_gd (zin_of (m := 400) rfl c5 (zlt_m (c := 399) hh4.2 (by decide))) ?_
            refine wp_bd (s_X9_in   ((gA o_me 27 v1_1.toNatClampNeg).toInt64) (25 : Int64) (27 : Int64)    ) (fun z13 hz13 => ?_)
            refine wp_if (fun c14 => ?_) (fun c14 => ?_)
            · refine wp_some ?_
              exact (show (0 ≤ (0 : Int32).toInt ∧ (0 : Int32).toInt ≤ 1) from ⟨by decide, by decide⟩)
            · refine wp_some ?_
              exact (show (0 ≤ (1 : Int32).toInt ∧ (1 : Int32).toInt ≤ 1) from ⟨by decide, by decide⟩)
        · refine wp_lt (fun x15 ex15 => ?_)
          have tx15 : x15.toInt = v1_1.toInt + (-1) := by rw [ex15]; exact i32_add rfl (by decide) (zk_l c5 (by decide)) (zk_u hh4.2 (by decide))
          exact ih1 x15  ⟨(zl_e (zq_r (c := 1) tx15 (by decide)) c5 (by decide)), (zu_e (Int.le_of_eq tx15) hh4.2 (by decide))⟩ (zms_d (c := 0) hN1 (Int.le_of_eq tx15) c5 (by decide))
  exact lp1 zfu x3  ⟨(zl_e (zd_e (c := 1) (zq_t (c := 1) t2 (by decide)) (zq_0 tx3.symm) (by decide)) t1.1 (by decide)), (zu_e (zd_e (c := (-1)) (zq_0 tx3) (zq_s (c := (-1)) t2 (by decide)) (by decide)) t1.2 (by decide))⟩ (zme_d (u := 399) (zu_e (k := 399) (zd_e (c := (-1)) (zq_0 tx3) (zq_s (c := (-1)) t2 (by decide)) (by decide)) t1.2 (by decide)) (by decide))

set_option maxHeartbeats 4000000 in
set_option maxRecDepth 100000 in
theorem s_X9_must (o_me : Ob) (p0 : Int32) (hI_me : IvX9 o_me) (q0 : 0 ≤ p0.toInt ∧ p0.toInt ≤ 1) (r0 : (gI o_me 15).toInt ≤ (gI o_me 13).toInt + 0) : wp (f_X9_must   o_me p0) (fun (y : Ob) => IvX9 y ∧ Kp [1, 8, 11, 13, 20, 21, 23, 26, 29, 34, 38, 43, 56, 57, 58, 59, 62] [2, 3, 4, 5, 7, 10, 12, 22, 24, 25, 27, 28, 42, 48, 50, 51, 55, 61] [(0, 1), (1, 2), (29, 36), (36, 64), (64, 71)] o_me y ∧ ((gI y 15).toInt ≤ (gI y 13).toInt + 0)) := by
  have li0 : (1 : Int32).toInt = 1 := by decide
  unfold f_X9_must
  have t1 := igX9_19 hI_me
  refine wp_if (fun c2 => ?_) (fun c2 => ?_)
  · have c2 := cv_eq (a := (gI o_me 19).toInt) (b := 0) rfl (by decide) c2
    refine wp_if (fun c3 => ?_) (fun c3 => ?_)
    · have c3 := cv_eq (a := p0.toInt) (b := 0) rfl (by decide) c3
      refine wp_lt (fun o4 eo4 => ?_)
      have hIo4 : IvX9 o4 := by rw [eo4]; exact ipX9_19 hI_me ⟨by decide, by decide⟩
      have ko4_k5 : (gI o4 13).toInt = (gI o_me 13).toInt := by rw [eo4]; rfl
      have ko4_k6 : (gI o4 15).toInt = (gI o_me 15).toInt := by rw [eo4]; rfl
      have ko4_v : (gI o4 19).toInt = 1 := by rw [eo4]; exact (show ((1 : Int32)).toInt = _ from by decide)
      have hkpo4 : Kp [1, 8, 11, 13, 20, 21, 23, 26, 29, 34, 38, 43, 56, 57, 58, 59, 62] [2, 3, 4, 5, 7, 10, 12, 22, 24, 25, 27, 28, 42, 48, 50, 51, 55, 61] [(0, 1), (1, 2), (29, 36), (36, 64), (64, 71)] o_me o4 := Kp.rf.trans (by rw [eo4]; exact Kp.sI (by decide))
      have t7 := igX9_14 hIo4
      refine wp_lt (fun o8 eo8 => ?_)
      have hIo8 : IvX9 o8 := by rw [eo8]; exact hIo4
      have ko8_k9 : (gI o8 13).toInt = (gI o4 13).toInt := by rw [eo8]; rfl
      have ko8_k10 : (gI o8 14).toInt = (gI o4 14).toInt := by rw [eo8]; rfl
      have ko8_k11 : (gI o8 15).toInt = (gI o4 15).toInt := by rw [eo8]; rfl
      have ko8_k12 : (gI o8 19).toInt = (gI o4 19).toInt := by rw [eo8]; rfl
      have ko8_v : (gI o8 18).toInt = (gI o4 14).toInt := by rw [eo8]; rfl
      have hkpo8 : Kp [1, 8, 11, 13, 20, 21, 23, 26, 29, 34, 38, 43, 56, 57, 58, 59, 62] [2, 3, 4, 5, 7, 10, 12, 22, 24, 25, 27, 28, 42, 48, 50, 51, 55, 61] [(0, 1), (1, 2), (29, 36), (36, 64), (64, 71)] o_me o8 := hkpo4.trans (by rw [eo8]; exact Kp.sI (by decide))
      unfold bk_X9_must_24
      refine wp_if (fun c13 => ?_) (fun c13 => ?_)
      · have c13 := cv_eq (a := (gI o8 19).toInt) (b := 0) rfl (by decide) c13
        exact absurd c13 (zne_r (k := 0) (l := 1) (by decide) (zl_e (k := 1) (zq_0 ko8_k12.symm) (Int.le_of_eq ko4_v.symm) (by decide)) (by decide))
      · have c13z := c13
        have c13 := cv_ne (a := (gI o8 19).toInt) (b := 0) rfl (by decide) c13
        refine wp_some ?_
        have t14 := igX9_15 hIo8
        have t15 := igX9_13 hIo8
        exact (show IvX9 o8 ∧ Kp [1, 8, 11, 13, 20, 21, 23, 26, 29, 34, 38, 43, 56, 57, 58, 59, 62] [2, 3, 4, 5, 7, 10, 12, 22, 24, 25, 27, 28, 42, 48, 50, 51, 55, 61] [(0, 1), (1, 2), (29, 36), (36, 64), (64, 71)] o_me o8 ∧ ((gI o8 15).toInt ≤ (gI o8 13).toInt + 0) from ⟨hIo8, hkpo8, (by omega)⟩)
    · have c3z := c3
      have c3 := cv_ne (a := p0.toInt) (b := 0) rfl (by decide) c3
      unfold bk_X9_must_24
      refine wp_if (fun c16 => ?_) (fun c16 => ?_)
      · have c16 := cv_eq (a := (gI o_me 19).toInt) (b := 0) rfl (by decide) c16
        have t18 := igX9_15 hI_me
        have t19 := igX9_13 hI_me
        refine wp_bd (s_X9_next   o_me  hI_me  r0) (fun z17 hz17 => ?_)
        obtain ⟨hz17_0, hz17_1, hz17_2⟩ := hz17
        have hkpz17_me : Kp [1, 8, 11, 13, 20, 21, 23, 26, 29, 34, 38, 43, 56, 57, 58, 59, 62] [2, 3, 4, 5, 7, 10, 12, 22, 24, 25, 27, 28, 42, 48, 50, 51, 55, 61] [(0, 1), (1, 2), (29, 36), (36, 64), (64, 71)] o_me z17 := Kp.rf.trans (hz17_1.mono (by decide) (by decide) (by decide))
        have kz17_k20 : (gI z17 13).toInt = (gI o_me 13).toInt := congrArg Int32.toInt (hz17_1.1 13 (by decide))
        have kz17_k21 : (gI z17 19).toInt = (gI o_me 19).toInt := congrArg Int32.toInt (hz17_1.1 19 (by decide))
        refine wp_some ?_
        have t22 := igX9_15 hz17_0
        exact (show IvX9 z17 ∧ Kp [1, 8, 11, 13, 20, 21, 23, 26, 29, 34, 38, 43, 56, 57, 58, 59, 62] [2, 3, 4, 5, 7, 10, 12, 22, 24, 25, 27, 28, 42, 48, 50, 51, 55, 61] [(0, 1), (1, 2), (29, 36), (36, 64), (64, 71)] o_me z17 ∧ ((gI z17 15).toInt ≤ (gI z17 13).toInt + 0) from ⟨hz17_0, hkpz17_me, hz17_2⟩)
      · have c16z := c16
        have c16 := cv_ne (a := (gI o_me 19).toInt) (b := 0) rfl (by decide) c16
        exact absurd (Int.le_antisymm (Int.le_of_eq c2) t1.1) c16
  · have c2z := c2
    have c2 := cv_ne (a := (gI o_me 19).toInt) (b := 0) rfl (by decide) c2
    unfold bk_X9_must_24
    refine wp_if (fun c23 => ?_) (fun c23 => ?_)
    · have c23 := cv_eq (a := (gI o_me 19).toInt) (b := 0) rfl (by decide) c23
      exact absurd c23 c2
    · have c23z := c23
      have c23 := cv_ne (a := (gI o_me 19).toInt) (b := 0) rfl (by decide) c23
      refine wp_some ?_
      have t24 := igX9_15 hI_me
      have t25 := igX9_13 hI_me
      exact (show IvX9 o_me ∧ Kp [1, 8, 11, 13, 20, 21, 23, 26, 29, 34, 38, 43, 56, 57, 58, 59, 62] [2, 3, 4, 5, 7, 10, 12, 22, 24, 25, 27, 28, 42, 48, 50, 51, 55, 61] [(0, 1), (1, 2), (29, 36), (36, 64), (64, 71)] o_me o_me ∧ ((gI o_me 15).toInt ≤ (gI o_me 13).toInt + 0) from ⟨hI_me, Kp.rf, r0⟩)

set_option maxHeartbeats 4000000 in
set_option maxRecDepth 100000 in
theorem s_X9_binds (p0 : Int32)   : wp (f_X9_binds   p0) (fun (y : Int32) => (0 ≤ y.toInt ∧ y.toInt ≤ 6)) := by
  unfold f_X9_binds
  refine wp_if (fun c1 => ?_) (fun c1 => ?_)
  · refine wp_if (fun c2 => ?_) (fun c2 => ?_)
    · refine wp_some ?_
      exact (show (0 ≤ (1 : Int32).toInt ∧ (1 : Int32).toInt ≤ 6) from ⟨by decide, by decide⟩)
    · refine wp_if (fun c3 => ?_) (fun c3 => ?_)
      · refine wp_some ?_
        exact (show (0 ≤ (2 : Int32).toInt ∧ (2 : Int32).toInt ≤ 6) from ⟨by decide, by decide⟩)
      · refine wp_if (fun c4 => ?_) (fun c4 => ?_)
        · refine wp_some ?_
          exact (show (0 ≤ (3 : Int32).toInt ∧ (3 : Int32).toInt ≤ 6) from ⟨by decide, by decide⟩)
        · refine wp_if (fun c5 => ?_) (fun c5 => ?_)
          · refine wp_if (fun c6 => ?_) (fun c6 => ?_)
            · refine wp_some ?_
              exact (show (0 ≤ (5 : Int32).toInt ∧ (5 : Int32).toInt ≤ 6) from ⟨by decide, by decide⟩)
            · refine wp_some ?_
              exact (show (0 ≤ (6 : Int32).toInt ∧ (6 : Int32).toInt ≤ 6) from ⟨by decide, by decide⟩)
          · refine wp_some ?_
            exact (show (0 ≤ (4 : Int32).toInt ∧ (4 : Int32).toInt ≤ 6) from ⟨by decide, by decide⟩)
  · refine wp_some ?_
    exact (show (0 ≤ (0 : Int32).toInt ∧ (0 : Int32).toInt ≤ 6) from ⟨by decide, by decide⟩)

set_option maxHeartbeats 4000000 in
set_option maxRecDepth 100000 in
theorem s_X9_isWord (o_me : Ob) (p0 : Int64) (hI_me : IvX9 o_me)  : wp (f_X9_isWord   o_me p0) (fun (y : Int32) => (0 ≤ y.toInt ∧ y.toInt ≤ 1)) := by
  unfold f_X9_isWord
  refine wp_if (fun c2 => ?_) (fun c2 => ?_)
  · refine wp_if (fun c3 => ?_) (fun c3 => ?_)
    · refine wp_some ?_
      exact (show (0 ≤ (1 : Int32).toInt ∧ (1 : Int32).toInt ≤ 1) from ⟨by decide, by decide⟩)
    · refine wp_some ?_
      exact (show (0 ≤ (0 : Int32).toInt ∧ (0 : Int32).toInt ≤ 1) from ⟨by decide, by decide⟩)
  · refine wp_some ?_
    exact (show (0 ≤ (0 : Int32).toInt ∧ (0 : Int32).toInt ≤ 1) from ⟨by decide, by decide⟩)

set_option maxHeartbeats 4000000 in
set_option maxRecDepth 100000 in
theorem s_X9_blots (o_me : Ob) (hI_me : IvX9 o_me)  : wp (f_X9_blots   o_me) (fun (y : Int32 × Ob) => IvX9 y.2 ∧ Kp [1, 8, 11, 13, 14, 15, 16, 18, 19, 20, 21, 23, 26, 29, 34, 38, 43, 56, 57, 58, 59, 62] [2, 3, 4, 5, 7, 10, 12, 22, 24, 25, 27, 28, 42, 48, 50, 51, 55, 61] [(0, 1), (1, 2), (29, 36), (36, 64), (64, 71)] o_me y.2) := by
  unfold f_X9_blots
  refine wp_lt (fun o1 eo1 => ?_)
  have hIo1 : IvX9 o1 := by rw [eo1]; exact hI_me
  have hkpo1 : Kp [1, 8, 11, 13, 14, 15, 16, 18, 19, 20, 21, 23, 26, 29, 34, 38, 43, 56, 57, 58, 59, 62] [2, 3, 4, 5, 7, 10, 12, 22, 24, 25, 27, 28, 42, 48, 50, 51, 55, 61] [(0, 1), (1, 2), (29, 36), (36, 64), (64, 71)] o_me o1 := Kp.rf.trans (by rw [eo1]; exact Kp.sI (by decide))
  refine wp_some ?_
  exact (show IvX9 o1 ∧ Kp [1, 8, 11, 13, 14, 15, 16, 18, 19, 20, 21, 23, 26, 29, 34, 38, 43, 56, 57, 58, 59, 62] [2, 3, 4, 5, 7, 10, 12, 22, 24, 25, 27, 28, 42, 48, 50, 51, 55, 61] [(0, 1), (1, 2), (29, 36), (36, 64), (64, 71)] o_me o1 from ⟨hIo1, hkpo1⟩)

set_option maxHeartbeats 4000000 in
set_option maxRecDepth 100000 in
theorem s_X9_thatCanBe (o_me : Ob) (hI_me : IvX9 o_me) (q0 : 0 ≤ (gI o_me 20).toInt ∧ (gI o_me 20).toInt ≤ 0) : wp (f_X9_thatCanBe   o_me) (fun (y : Int32 × Ob) => (0 ≤ y.1.toInt ∧ y.1.toInt ≤ 127) ∧ IvX9 y.2 ∧ Kp [1, 8, 11, 13, 14, 15, 16, 18, 19, 20, 21, 23, 26, 29, 43, 56, 57, 58, 59, 62] [2, 3, 4, 5, 7, 10, 12, 22, 24, 25, 27, 28, 42, 48, 50, 51, 55, 61] [(0, 1), (1, 2), (29, 36), (36, 64), (64, 71)] o_me y.2) := by
  unfold f_X9_thatCanBe
  have lp1 : ∀ (N1 : Nat) (v1_1 : Int32) (v2_1 : Int32) (o_me_1 : Ob), IvX9 o_me_1 → Kp [1, 8, 11, 13, 14, 15, 16, 18, 19, 20, 21, 23, 26, 29, 43, 56, 57, 58, 59, 62] [2, 3, 4, 5, 7, 10, 12, 22, 24, 25, 27, 28, 42, 48, 50, 51, 55, 61] [(0, 1), (1, 2), (29, 36), (36, 64), (64, 71)] o_me o_me_1 → (0 ≤ v1_1.toInt ∧ v1_1.toInt ≤ 127) → (0 ≤ v2_1.toInt ∧ v2_1.toInt ≤ 7) → (0 ≤ (gI o_me_1 20).toInt ∧ (gI o_me_1 20).toInt ≤ 0) → (7 - v2_1.toInt).toNat < N1 → wp (lp_X9_thatCanBe_4   N1 (v1_1, v2_1, o_me_1)) (fun (y : Int32 × Ob) => (0 ≤ y.1.toInt ∧ y.1.toInt ≤ 127) ∧ IvX9 y.2 ∧ Kp [1, 8, 11, 13, 14, 15, 16, 18, 19, 20, 21, 23, 26, 29, 43, 56, 57, 58, 59, 62] [2, 3, 4, 5, 7, 10, 12, 22, 24, 25, 27, 28, 42, 48, 50, 51, 55, 61] [(0, 1), (1, 2), (29, 36), (36, 64), (64, 71)] o_me y.2) := by
    intro N1
    induction N1 with
    | zero =>
      intro v1_1 v2_1 o_me_1 hI_me_1 hkp_me_1 hh2 hh3 hh4 hN1
      exact absurd hN1 (Nat.not_lt_zero _)
    | succ N1 ihx =>
      have ih1 := ihx
      intro v1_1 v2_1 o_me_1 hI_me_1 hkp_me_1 hh2 hh3 hh4 hN1
      show wp (lb_X9_thatCanBe_4   (lp_X9_thatCanBe_4   N1) v1_1 v2_1 o_me_1) (fun (y : Int32 × Ob) => (0 ≤ y.1.toInt ∧ y.1.toInt ≤ 127) ∧ IvX9 y.2 ∧ Kp [1, 8, 11, 13, 14, 15, 16, 18, 19, 20, 21, 23, 26, 29, 43, 56, 57, 58, 59, 62] [2, 3, 4, 5, 7, 10, 12, 22, 24, 25, 27, 28, 42, 48, 50, 51, 55, 61] [(0, 1), (1, 2), (29, 36), (36, 64), (64, 71)] o_me y.2)
      unfold lb_X9_thatCanBe_4
      have t6 := iaX9_3_0 hI_me_1 (j := (0 : Int32)) (by decide) (by decide)
      refine wp_if (fun c7 => ?_) (fun c7 => ?_)
      · have c7 := cv_ge (a := v2_1.toInt) (b := (gA o_me_1 3 (0 : Int32).toNatClampNeg).toInt) rfl rfl c7
        refine wp_some ?_
        exact (show (0 ≤ v1_1.toInt ∧ v1_1.toInt ≤ 127) ∧ IvX9 o_me_1 ∧ Kp [1, 8, 11, 13, 14, 15, 16, 18, 19, 20, 21, 23, 26, 29, 43, 56, 57, 58, 59, 62] [2, 3, 4, 5, 7, 10, 12, 22, 24, 25, 27, 28, 42, 48, 50, 51, 55, 61] [(0, 1), (1, 2), (29, 36), (36, 64), (64, 71)] o_me o_me_1 from ⟨⟨hh2.1, hh2.2⟩, hI_me_1, hkp_me_1⟩)
      · have c7 := cv_nge (a := v2_1.toInt) (b := (gA o_me_1 3 (0 : Int32).toNatClampNeg).toInt) rfl rfl c7
        have lp2 : ∀ (N2 : Nat) (v1_2 : Int32) (v2_2 : Int32) (v3_2 : Int32) (v4_2 : Int32) (o_me_2 : Ob), IvX9 o_me_2 → Kp [1, 8, 11, 13, 14, 15, 16, 18, 19, 20, 21, 23, 26, 29, 43, 56, 57, 58, 59, 62] [2, 3, 4, 5, 7, 10, 12, 22, 24, 25, 27, 28, 42, 48, 50, 51, 55, 61] [(0, 1), (1, 2), (29, 36), (36, 64), (64, 71)] o_me o_me_2 → (0 ≤ v1_2.toInt ∧ v1_2.toInt ≤ 127) → (0 ≤ v2_2.toInt ∧ v2_2.toInt ≤ 6) → (0 ≤ v4_2.toInt ∧ v4_2.toInt ≤ 6) → (0 ≤ (gI o_me_2 20).toInt ∧ (gI o_me_2 20).toInt ≤ 0) → (v2_1.toInt ≤ v2_2.toInt + 0) → (6 - v4_2.toInt).toNat < N2 → wp (lp_X9_thatCanBe_19  (lp_X9_thatCanBe_4   N1) N2 (v1_2, v2_2, v3_2, v4_2, o_me_2)) (fun (y : Int32 × Ob) => (0 ≤ y.1.toInt ∧ y.1.toInt ≤ 127) ∧ IvX9 y.2 ∧ Kp [1, 8, 11, 13, 14, 15, 16, 18, 19, 20, 21, 23, 26, 29, 43, 56, 57, 58, 59, 62] [2, 3, 4, 5, 7, 10, 12, 22, 24, 25, 27, 28, 42, 48, 50, 51, 55, 61] [(0, 1), (1, 2), (29, 36), (36, 64), (64, 71)] o_me y.2) := by
          intro N2
          induction N2 with
          | zero =>
            intro v1_2 v2_2 v3_2 v4_2 o_me_2 hI_me_2 hkp_me_2 hh9 hh10 hh11 hh12 hh13 hN2
            exact absurd hN2 (Nat.not_lt_zero _)
          | succ N2 ihx =>
            have ih2 := ihx
            intro v1_2 v2_2 v3_2 v4_2 o_me_2 hI_me_2 hkp_me_2 hh9 hh10 hh11 hh12 hh13 hN2
            show wp (lb_X9_thatCanBe_19  (lp_X9_thatCanBe_4   N1) (lp_X9_thatCanBe_19  (lp_X9_thatCanBe_4   N1) N2) v1_2 v2_2 v3_2 v4_2 o_me_2) (fun (y : Int32 × Ob) => (0 ≤ y.1.toInt ∧ y.1.toInt ≤ 127) ∧ IvX9 y.2 ∧ Kp [1, 8, 11, 13, 14, 15, 16, 18, 19, 20, 21, 23, 26, 29, 43, 56, 57, 58, 59, 62] [2, 3, 4, 5, 7, 10, 12, 22, 24, 25, 27, 28, 42, 48, 50, 51, 55, 61] [(0, 1), (1, 2), (29, 36), (36, 64), (64, 71)] o_me y.2)
            unfold lb_X9_thatCanBe_19
            have t15 := iaX9_3_1 hI_me_2 (j := (1 : Int32)) (by decide) (by decide)
            refine wp_if (fun c16 => ?_) (fun c16 => ?_)
            · have c16 := cv_ge (a := v4_2.toInt) (b := (gA o_me_2 3 (1 : Int32).toNatClampNeg).toInt) rfl rfl c16
              unfold bk_X9_thatCanBe_80
              refine wp_if (fun c17 => ?_) (fun c17 => ?_)
              · obtain ⟨w18, ew18⟩ : ∃ z : Int32, z = (0 : Int32) := ⟨_, rfl⟩
                have tw18 : w18.toInt = 0 := by rw [ew18]; decide
                rw [show bk_X9_thatCanBe_92  (lp_X9_thatCanBe_4   N1) v2_2 (0 : Int32) v1_2 o_me_2 = bk_X9_thatCanBe_92  (lp_X9_thatCanBe_4   N1) v2_2 w18 v1_2 o_me_2 from by rw [ew18]]
                unfold bk_X9_thatCanBe_92
                have t19 := i32_or7 (x := v1_2) (y := w18) ⟨hh9.1, hh9.2⟩ ⟨(Int.le_of_eq tw18.symm), (Int.le_trans (Int.le_of_eq tw18) (by decide))⟩
                refine wp_lt (fun x20 ex20 => ?_)
                have tx20 : x20.toInt = (v1_2 ||| w18).toInt := by rw [ex20]
                refine wp_lt (fun x21 ex21 => ?_)
                have tx21 : x21.toInt = v2_2.toInt + 1 := by rw [ex21]; exact i32_add rfl (by decide) (zk_l hh10.1 (by decide)) (zk_u hh10.2 (by decide))
                exact ih1 x20 x21 o_me_2 hI_me_2 hkp_me_2 ⟨(zl_e (zq_0 tx20.symm) t19.1 (by decide)), (zu_e (zq_0 tx20) t19.2 (by decide))⟩ ⟨(zl_e (zq_r (c := (-1)) tx21 (by decide)) hh10.1 (by decide)), (zu_e (Int.le_of_eq tx21) hh10.2 (by decide))⟩ ⟨hh12.1, hh12.2⟩ (zms_u (c := 6) hN1 (zd_e (c := (-1)) hh13 (zq_r (c := (-1)) tx21 (by decide)) (by decide)) (zu_e (zl_d c7) t6.2 (by decide)) (by decide))
              · have t22 : 1 ≤ ((1 : Int32) <<< (v2_2 &&& 31)).toInt ∧ ((1 : Int32) <<< (v2_2 &&& 31)).toInt ≤ 64 := i32_shl6 (p := v2_2) hh10.1 hh10.2
                obtain ⟨w23, ew23⟩ : ∃ z : Int32, z = (1 : Int32) <<< (v2_2 &&& 31) := ⟨_, rfl⟩
                have tw23 : w23.toInt = ((1 : Int32) <<< (v2_2 &&& 31)).toInt := by rw [ew23]
                rw [show bk_X9_thatCanBe_92  (lp_X9_thatCanBe_4   N1) v2_2 ((1 : Int32) <<< (v2_2 &&& 31)) v1_2 o_me_2 = bk_X9_thatCanBe_92  (lp_X9_thatCanBe_4   N1) v2_2 w23 v1_2 o_me_2 from by rw [ew23]]
                unfold bk_X9_thatCanBe_92
                have t24 := i32_or7 (x := v1_2) (y := w23) ⟨hh9.1, hh9.2⟩ ⟨(zl_e (zq_0 tw23.symm) t22.1 (by decide)), (zu_e (zq_0 tw23) t22.2 (by decide))⟩
                refine wp_lt (fun x25 ex25 => ?_)
                have tx25 : x25.toInt = (v1_2 ||| w23).toInt := by rw [ex25]
                refine wp_lt (fun x26 ex26 => ?_)
                have tx26 : x26.toInt = v2_2.toInt + 1 := by rw [ex26]; exact i32_add rfl (by decide) (zk_l hh10.1 (by decide)) (zk_u hh10.2 (by decide))
                exact ih1 x25 x26 o_me_2 hI_me_2 hkp_me_2 ⟨(zl_e (zq_0 tx25.symm) t24.1 (by decide)), (zu_e (zq_0 tx25) t24.2 (by decide))⟩ ⟨(zl_e (zq_r (c := (-1)) tx26 (by decide)) hh10.1 (by decide)), (zu_e (Int.le_of_eq tx26) hh10.2 (by decide))⟩ ⟨hh12.1, hh12.2⟩ (zms_u (c := 6) hN1 (zd_e (c := (-1)) hh13 (zq_r (c := (-1)) tx26 (by decide)) (by decide)) (zu_e (zl_d c7) t6.2 (by decide)) (by decide))
            · have c16 := cv_nge (a := v4_2.toInt) (b := (gA o_me_2 3 (1 : Int32).toNatClampNeg).toInt) rfl rfl c16
              refine wp_if (fun c27 => ?_) (fun c27 => ?_)
              · have c27 := cv_eq (a := v3_2.toInt) (b := 0) rfl (by decide) c27
                unfold bk_X9_thatCanBe_80
                refine wp_if (fun c28 => ?_) (fun c28 => ?_)
                · have c28 := cv_eq (a := v3_2.toInt) (b := 0) rfl (by decide) c28
                  obtain ⟨w29, ew29⟩ : ∃ z : Int32, z = (0 : Int32) := ⟨_, rfl⟩
                  have tw29 : w29.toInt = 0 := by rw [ew29]; decide
                  rw [show bk_X9_thatCanBe_92  (lp_X9_thatCanBe_4   N1) v2_2 (0 : Int32) v1_2 o_me_2 = bk_X9_thatCanBe_92  (lp_X9_thatCanBe_4   N1) v2_2 w29 v1_2 o_me_2 from by rw [ew29]]
                  unfold bk_X9_thatCanBe_92
                  have t30 := i32_or7 (x := v1_2) (y := w29) ⟨hh9.1, hh9.2⟩ ⟨(Int.le_of_eq tw29.symm), (Int.le_trans (Int.le_of_eq tw29) (by decide))⟩
                  refine wp_lt (fun x31 ex31 => ?_)
                  have tx31 : x31.toInt = (v1_2 ||| w29).toInt := by rw [ex31]
                  refine wp_lt (fun x32 ex32 => ?_)
                  have tx32 : x32.toInt = v2_2.toInt + 1 := by rw [ex32]; exact i32_add rfl (by decide) (zk_l hh10.1 (by decide)) (zk_u hh10.2 (by decide))
                  exact ih1 x31 x32 o_me_2 hI_me_2 hkp_me_2 ⟨(zl_e (zq_0 tx31.symm) t30.1 (by decide)), (zu_e (zq_0 tx31) t30.2 (by decide))⟩ ⟨(zl_e (zq_r (c := (-1)) tx32 (by decide)) hh10.1 (by decide)), (zu_e (Int.le_of_eq tx32) hh10.2 (by decide))⟩ ⟨hh12.1, hh12.2⟩ (zms_u (c := 6) hN1 (zd_e (c := (-1)) hh13 (zq_r (c := (-1)) tx32 (by decide)) (by decide)) (zu_e (zl_d c7) t6.2 (by decide)) (by decide))
                · have c28 := cv_ne (a := v3_2.toInt) (b := 0) rfl (by decide) c28
                  exact absurd (Int.le_antisymm (Int.le_of_eq c27) (Int.le_of_eq c27.symm)) c28
              · have t33 : ((2 : Int32) * v4_2).toInt = 2 * v4_2.toInt := i32_mul (by decide) rfl (zm_l hh11.1 (by decide) (by decide)) (zm_u (zu_e (k := 5) (zl_d c16) t15.2 (by decide)) (by decide) (by decide))
                have t34 : ((71 : Int32) + ((2 : Int32) * v4_2)).toInt = 71 + ((2 : Int32) * v4_2).toInt := i32_add (by decide) rfl (zk_cl (zmq_l (c := 0) t33 hh11.1 (by decide) (by decide)) (by decide)) (zk_cu (zmq_u (c := 10) t33 (zu_e (k := 5) (zl_d c16) t15.2 (by decide)) (by decide) (by decide)) (by decide))
                refine wp_gd (zin_of (m := 5484) rfl (Int.le_trans (by decide) (zaqc_l (c := 71) t34 (zmq_l (c := 0) t33 hh11.1 (by decide) (by decide)) (by decide))) (zlt_m (c := 5483) (Int.le_trans (zaqc_u (c := 81) t34 (zmq_u (c := 10) t33 (zu_e (k := 5) (zl_d c16) t15.2 (by decide)) (by decide) (by decide)) (by decide)) (by decide)) (by decide))) ?_
                have t35 := iaX9_3_8 hI_me_2 (j := (71 : Int32) + ((2 : Int32) * v4_2)) (zaqc_l (c := 71) t34 (zmq_l (c := 0) t33 hh11.1 (by decide) (by decide)) (by decide)) (Int.le_trans (zaqc_u (c := 81) t34 (zmq_u (c := 10) t33 (zu_e (k := 5) (zl_d c16) t15.2 (by decide)) (by decide) (by decide)) (by decide)) (by decide))
                refine wp_bd (s_X9_turnsOf   o_me_2 v2_2 (gA o_me_2 3 ((71 : Int32) + ((2 : Int32) * v4_2)).toNatClampNeg)  hI_me_2  ⟨hh10.1, hh10.2⟩ ⟨t35.1, t35.2⟩ ⟨hh12.1, hh12.2⟩) (fun z36 hz36 => ?_)
                obtain ⟨hz36_0, hz36_1, hz36_2⟩ := hz36
                have hkpz36_me : Kp [1, 8, 11, 13, 14, 15, 16, 18, 19, 20, 21, 23, 26, 29, 43, 56, 57, 58, 59, 62] [2, 3, 4, 5, 7, 10, 12, 22, 24, 25, 27, 28, 42, 48, 50, 51, 55, 61] [(0, 1), (1, 2), (29, 36), (36, 64), (64, 71)] o_me z36.2 := hkp_me_2.trans (hz36_2.mono (by decide) (by decide) (by decide))
                have kz36_k39 : (gI z36.2 20).toInt = (gI o_me_2 20).toInt := congrArg Int32.toInt (hz36_2.1 20 (by decide))
                have t40 : (((71 : Int32) + ((2 : Int32) * v4_2)) + (1 : Int32)).toInt = ((71 : Int32) + ((2 : Int32) * v4_2)).toInt + 1 := i32_add rfl (by decide) (zk_l (zaqc_l (c := 71) t34 (zmq_l (c := 0) t33 hh11.1 (by decide) (by decide)) (by decide)) (by decide)) (zk_u (zaqc_u (c := 81) t34 (zmq_u (c := 10) t33 (zu_e (k := 5) (zl_d c16) t15.2 (by decide)) (by decide) (by decide)) (by decide)) (by decide))
                refine wp_gd (zin_of (m := 5484) rfl (zl_e (zq_r (c := (-1)) t40 (by decide)) (zaqc_l (c := 71) t34 (zmq_l (c := 0) t33 hh11.1 (by decide) (by decide)) (by decide)) (by decide)) (zlt_m (c := 5483) (zu_e (Int.le_of_eq t40) (zaqc_u (c := 81) t34 (zmq_u (c := 10) t33 (zu_e (k := 5) (zl_d c16) t15.2 (by decide)) (by decide) (by decide)) (by decide)) (by decide)) (by decide))) ?_
                refine wp_if (fun c42 => ?_) (fun c42 => ?_)
                · obtain ⟨w43, ew43⟩ : ∃ z : Int32, z = (1 : Int32) := ⟨_, rfl⟩
                  rw [show bk_X9_thatCanBe_73  (lp_X9_thatCanBe_4   N1) (lp_X9_thatCanBe_19  (lp_X9_thatCanBe_4   N1) N2) v1_2 v2_2 v4_2 (1 : Int32) z36.2 = bk_X9_thatCanBe_73  (lp_X9_thatCanBe_4   N1) (lp_X9_thatCanBe_19  (lp_X9_thatCanBe_4   N1) N2) v1_2 v2_2 v4_2 w43 z36.2 from by rw [ew43]]
                  unfold bk_X9_thatCanBe_73
                  refine wp_lt (fun x44 ex44 => ?_)
                  have tx44 : x44.toInt = v4_2.toInt + 1 := by rw [ex44]; exact i32_add rfl (by decide) (zk_l hh11.1 (by decide)) (zk_u (zu_e (k := 5) (zl_d c16) t15.2 (by decide)) (by decide))
                  exact ih2 v1_2 v2_2 w43 x44 z36.2 hz36_1 hkpz36_me ⟨hh9.1, hh9.2⟩ ⟨hh10.1, hh10.2⟩ ⟨(zl_e (zq_r (c := (-1)) tx44 (by decide)) hh11.1 (by decide)), (zu_e (zd_e (c := 0) (Int.le_of_eq tx44) (zl_d c16) (by decide)) t15.2 (by decide))⟩ ⟨(zl_e (zq_0 kz36_k39.symm) hh12.1 (by decide)), (zu_e (zq_0 kz36_k39) hh12.2 (by decide))⟩ hh13 (zms_u (c := 5) hN2 (zq_r (c := (-1)) tx44 (by decide)) (zu_e (zl_d c16) t15.2 (by decide)) (by decide))
                · obtain ⟨w45, ew45⟩ : ∃ z : Int32, z = (0 : Int32) := ⟨_, rfl⟩
                  rw [show bk_X9_thatCanBe_73  (lp_X9_thatCanBe_4   N1) (lp_X9_thatCanBe_19  (lp_X9_thatCanBe_4   N1) N2) v1_2 v2_2 v4_2 (0 : Int32) z36.2 = bk_X9_thatCanBe_73  (lp_X9_thatCanBe_4   N1) (lp_X9_thatCanBe_19  (lp_X9_thatCanBe_4   N1) N2) v1_2 v2_2 v4_2 w45 z36.2 from by rw [ew45]]
                  unfold bk_X9_thatCanBe_73
                  refine wp_lt (fun x46 ex46 => ?_)
                  have tx46 : x46.toInt = v4_2.toInt + 1 := by rw [ex46]; exact i32_add rfl (by decide) (zk_l hh11.1 (by decide)) (zk_u (zu_e (k := 5) (zl_d c16) t15.2 (by decide)) (by decide))
                  exact ih2 v1_2 v2_2 w45 x46 z36.2 hz36_1 hkpz36_me ⟨hh9.1, hh9.2⟩ ⟨hh10.1, hh10.2⟩ ⟨(zl_e (zq_r (c := (-1)) tx46 (by decide)) hh11.1 (by decide)), (zu_e (zd_e (c := 0) (Int.le_of_eq tx46) (zl_d c16) (by decide)) t15.2 (by decide))⟩ ⟨(zl_e (zq_0 kz36_k39.symm) hh12.1 (by decide)), (zu_e (zq_0 kz36_k39) hh12.2 (by decide))⟩ hh13 (zms_u (c := 5) hN2 (zq_r (c := (-1)) tx46 (by decide)) (zu_e (zl_d c16) t15.2 (by decide)) (by decide))
        exact lp2 zfu v1_1 v2_1 (1 : Int32) (0 : Int32) o_me_1 hI_me_1 hkp_me_1 ⟨hh2.1, hh2.2⟩ ⟨hh3.1, (zu_e (zl_d c7) t6.2 (by decide))⟩ ⟨by decide, by decide⟩ ⟨hh4.1, hh4.2⟩ (zd_r (by decide)) (zme_u (l := 0) (Int.le_of_eq tz0.symm) (by decide))
  exact lp1 zfu (0 : Int32) (0 : Int32) o_me hI_me Kp.rf ⟨by decide, by decide⟩ ⟨by decide, by decide⟩ ⟨q0.1, q0.2⟩ (zme_u (l := 0) (Int.le_of_eq tz0.symm) (by decide))

set_option maxHeartbeats 4000000 in
set_option maxRecDepth 100000 in
theorem s_X9_canBe (o_me : Ob) (hI_me : IvX9 o_me) (q0 : 0 ≤ (gI o_me 20).toInt ∧ (gI o_me 20).toInt ≤ 0) : wp (f_X9_canBe   o_me) (fun (y : Int32 × Ob) => (0 ≤ y.1.toInt ∧ y.1.toInt ≤ 127) ∧ IvX9 y.2 ∧ Kp [1, 8, 11, 13, 14, 15, 16, 18, 19, 20, 21, 23, 26, 29, 43, 56, 57, 58, 59, 62] [2, 3, 4, 5, 7, 10, 12, 22, 24, 25, 27, 28, 42, 48, 50, 51, 55, 61] [(0, 1), (1, 2), (29, 36), (36, 64), (64, 71)] o_me y.2) := by
  unfold f_X9_canBe
  refine wp_lt (fun o1 eo1 => ?_)
  have hIo1 : IvX9 o1 := by rw [eo1]; exact hI_me
  have ko1_k2 : (gI o1 20).toInt = (gI o_me 20).toInt := by rw [eo1]; rfl
  have hkpo1 : Kp [1, 8, 11, 13, 14, 15, 16, 18, 19, 20, 21, 23, 26, 29, 43, 56, 57, 58, 59, 62] [2, 3, 4, 5, 7, 10, 12, 22, 24, 25, 27, 28, 42, 48, 50, 51, 55, 61] [(0, 1), (1, 2), (29, 36), (36, 64), (64, 71)] o_me o1 := Kp.rf.trans (by rw [eo1]; exact Kp.sI (by decide))
  refine wp_bd (s_X9_thatCanBe   o1  hIo1  ⟨(zl_e (zq_0 ko1_k2.symm) q0.1 (by decide)), (zu_e (zq_0 ko1_k2) q0.2 (by decide))⟩) (fun z3 hz3 => ?_)
  obtain ⟨hz3_0, hz3_1, hz3_2⟩ := hz3
  have hkpz3_me : Kp [1, 8, 11, 13, 14, 15, 16, 18, 19, 20, 21, 23, 26, 29, 43, 56, 57, 58, 59, 62] [2, 3, 4, 5, 7, 10, 12, 22, 24, 25, 27, 28, 42, 48, 50, 51, 55, 61] [(0, 1), (1, 2), (29, 36), (36, 64), (64, 71)] o_me z3.2 := hkpo1.trans (hz3_2.mono (by decide) (by decide) (by decide))
  refine wp_some ?_
  exact (show (0 ≤ z3.1.toInt ∧ z3.1.toInt ≤ 127) ∧ IvX9 z3.2 ∧ Kp [1, 8, 11, 13, 14, 15, 16, 18, 19, 20, 21, 23, 26, 29, 43, 56, 57, 58, 59, 62] [2, 3, 4, 5, 7, 10, 12, 22, 24, 25, 27, 28, 42, 48, 50, 51, 55, 61] [(0, 1), (1, 2), (29, 36), (36, 64), (64, 71)] o_me z3.2 from ⟨⟨hz3_0.1, hz3_0.2⟩, hz3_1, hkpz3_me⟩)

set_option maxHeartbeats 4000000 in
set_option maxRecDepth 100000 in
theorem s_X9_putBack (o_me : Ob) (p0 : Int32) (hI_me : IvX9 o_me) (q0 : 0 ≤ p0.toInt ∧ p0.toInt ≤ 17) : wp (f_X9_putBack   o_me p0) (fun (y : Ob) => IvX9 y ∧ Kp [1, 8, 11, 13, 14, 15, 16, 18, 19, 20, 21, 23, 26, 29, 34, 38, 43, 56, 57, 58, 59, 62] [2, 4, 5, 7, 10, 12, 22, 24, 25, 27, 28, 42, 48, 50, 51, 55, 61] [(0, 1), (1, 2), (29, 36), (36, 64), (64, 71)] o_me y) := by
  unfold f_X9_putBack
  have lp1 : ∀ (N1 : Nat) (v1_1 : Int32) (v2_1 : Int32) (o_me_1 : Ob), IvX9 o_me_1 → Kp [1, 8, 11, 13, 14, 15, 16, 18, 19, 20, 21, 23, 26, 29, 34, 38, 43, 56, 57, 58, 59, 62] [2, 4, 5, 7, 10, 12, 22, 24, 25, 27, 28, 42, 48, 50, 51, 55, 61] [(0, 1), (1, 2), (29, 36), (36, 64), (64, 71)] o_me o_me_1 → (0 ≤ v1_1.toInt ∧ v1_1.toInt ≤ 17) → (0 ≤ v2_1.toInt ∧ v2_1.toInt ≤ 25) → (25 - v2_1.toInt).toNat < N1 → wp (lp_X9_putBack_2   N1 (v1_1, v2_1, o_me_1)) (fun (y : Ob) => IvX9 y ∧ Kp [1, 8, 11, 13, 14, 15, 16, 18, 19, 20, 21, 23, 26, 29, 34, 38, 43, 56, 57, 58, 59, 62] [2, 4, 5, 7, 10, 12, 22, 24, 25, 27, 28, 42, 48, 50, 51, 55, 61] [(0, 1), (1, 2), (29, 36), (36, 64), (64, 71)] o_me y) := by
    intro N1
    induction N1 with
    | zero =>
      intro v1_1 v2_1 o_me_1 hI_me_1 hkp_me_1 hh1 hh2 hN1
      exact absurd hN1 (Nat.not_lt_zero _)
    | succ N1 ihx =>
      have ih1 := ihx
      intro v1_1 v2_1 o_me_1 hI_me_1 hkp_me_1 hh1 hh2 hN1
      show wp (lb_X9_putBack_2   (lp_X9_putBack_2   N1) v1_1 v2_1 o_me_1) (fun (y : Ob) => IvX9 y ∧ Kp [1, 8, 11, 13, 14, 15, 16, 18, 19, 20, 21, 23, 26, 29, 34, 38, 43, 56, 57, 58, 59, 62] [2, 4, 5, 7, 10, 12, 22, 24, 25, 27, 28, 42, 48, 50, 51, 55, 61] [(0, 1), (1, 2), (29, 36), (36, 64), (64, 71)] o_me y)
      unfold lb_X9_putBack_2
      refine wp_if (fun c3 => ?_) (fun c3 => ?_)
      · have c3 := cv_ge (a := v2_1.toInt) (b := 25) rfl (by decide) c3
        refine wp_some ?_
        exact (show IvX9 o_me_1 ∧ Kp [1, 8, 11, 13, 14, 15, 16, 18, 19, 20, 21, 23, 26, 29, 34, 38, 43, 56, 57, 58, 59, 62] [2, 4, 5, 7, 10, 12, 22, 24, 25, 27, 28, 42, 48, 50, 51, 55, 61] [(0, 1), (1, 2), (29, 36), (36, 64), (64, 71)] o_me o_me_1 from ⟨hI_me_1, hkp_me_1⟩)
      · have c3 := cv_nge (a := v2_1.toInt) (b := 25) rfl (by decide) c3
        have t4 : ((4 : Int32) + v2_1).toInt = 4 + v2_1.toInt := i32_add (by decide) rfl (zk_cl hh2.1 (by decide)) (zk_cu (zlt_u (c := 24) c3 (by decide)) (by decide))
        have t5 : ((25 : Int32) * v1_1).toInt = 25 * v1_1.toInt := i32_mul (by decide) rfl (zm_l hh1.1 (by decide) (by decide)) (zm_u hh1.2 (by decide) (by decide))
        have t6 : (((25 : Int32) * v1_1) + v2_1).toInt = ((25 : Int32) * v1_1).toInt + v2_1.toInt := i32_add rfl rfl (zk_ll (zmq_l (c := 0) t5 hh1.1 (by decide) (by decide)) hh2.1 (by decide)) (zk_uu (zmq_u (c := 425) t5 hh1.2 (by decide) (by decide)) (zlt_u (c := 24) c3 (by decide)) (by decide))
        refine wp_gd (zin_of (m := 450) rfl (zaq_l (c := 0) t6 (zmq_l (c := 0) t5 hh1.1 (by decide) (by decide)) hh2.1 (by decide)) (zlt_m (c := 449) (zaq_u (c := 449) t6 (zmq_u (c := 425) t5 hh1.2 (by decide) (by decide)) (zlt_u (c := 24) c3 (by decide)) (by decide)) (by decide))) ?_
        refine wp_gd (zin_of (m := 5484) rfl (Int.le_trans (by decide) (zaqc_l (c := 4) t4 hh2.1 (by decide))) (zlt_m (c := 5483) (Int.le_trans (zaqc_u (c := 28) t4 (zlt_u (c := 24) c3 (by decide)) (by decide)) (by decide)) (by decide))) ?_
        refine wp_lt (fun o7 eo7 => ?_)
        have hIo7 : IvX9 o7 := by rw [eo7]; exact spX9_put hI_me_1 ⟨hh1.1, hh1.2⟩ ⟨hh2.1, (zlt_u (c := 24) c3 (by decide))⟩
        have hkpo7 : Kp [1, 8, 11, 13, 14, 15, 16, 18, 19, 20, 21, 23, 26, 29, 34, 38, 43, 56, 57, 58, 59, 62] [2, 4, 5, 7, 10, 12, 22, 24, 25, 27, 28, 42, 48, 50, 51, 55, 61] [(0, 1), (1, 2), (29, 36), (36, 64), (64, 71)] o_me o7 := hkp_me_1.trans (by rw [eo7]; exact kp_bw (a := 2) (b := 29) (by decide) (by decide) (Int.le_trans (by decide) (zaqc_l (c := 4) t4 hh2.1 (by decide))) (Int.lt_of_le_of_lt (zaqc_u (c := 28) t4 (zlt_u (c := 24) c3 (by decide)) (by decide)) (by decide)))
        refine wp_lt (fun x8 ex8 => ?_)
        have tx8 : x8.toInt = v2_1.toInt + 1 := by rw [ex8]; exact i32_add rfl (by decide) (zk_l hh2.1 (by decide)) (zk_u (zlt_u (c := 24) c3 (by decide)) (by decide))
        exact ih1 v1_1 x8 o7 hIo7 hkpo7 ⟨hh1.1, hh1.2⟩ ⟨(zl_e (zq_r (c := (-1)) tx8 (by decide)) hh2.1 (by decide)), (zu_e (Int.le_of_eq tx8) (zlt_u (c := 24) c3 (by decide)) (by decide))⟩ (zms_u (c := 24) hN1 (zq_r (c := (-1)) tx8 (by decide)) (zlt_u (c := 24) c3 (by decide)) (by decide))
  exact lp1 zfu p0 (0 : Int32) o_me hI_me Kp.rf ⟨q0.1, q0.2⟩ ⟨by decide, by decide⟩ (zme_u (l := 0) (Int.le_of_eq tz0.symm) (by decide))

set_option maxHeartbeats 4000000 in
set_option maxRecDepth 100000 in
theorem s_X9_draw (o_me : Ob) (p0 : Int32) (hI_me : IvX9 o_me) (q0 : 1 ≤ p0.toInt ∧ p0.toInt ≤ 7) : wp (f_X9_draw   o_me p0) (fun (y : Int32 × Ob) => (0 ≤ y.1.toInt ∧ y.1.toInt ≤ 6) ∧ IvX9 y.2 ∧ Kp [1, 8, 11, 13, 14, 15, 16, 18, 19, 20, 21, 23, 26, 29, 34, 38, 43, 56, 57, 58, 59, 62] [2, 3, 4, 5, 7, 10, 12, 22, 24, 25, 27, 28, 42, 48, 50, 51, 55, 61] [(0, 1), (1, 2), (29, 36), (36, 64), (64, 71)] o_me y.2 ∧ (y.1.toInt ≤ p0.toInt + (-1))) := by
  unfold f_X9_draw
  have hs := (h9last hI_me).2
  have m1 : ((gL o_me 60) * (1103 : Int64)).toInt = (gL o_me 60).toInt * 1103 := i64_mul rfl (by decide) (by omega) (by omega)
  have m2 : (((gL o_me 60) * (1103 : Int64)) + (12345 : Int64)).toInt = (gL o_me 60).toInt * 1103 + 12345 := i64_add m1 (by decide) (by omega) (by omega)
  have m3 := i64_rem (x := ((gL o_me 60) * (1103 : Int64)) + (12345 : Int64)) (y := 1000003) (m := 1000003) (by decide) (by decide) (by omega)
  refine wp_lt (fun o1 e1 => ?_)
  have hI1 : IvX9 o1 := by rw [e1]; exact ilX9_60 hI_me ⟨m3.1, by omega⟩
  have hK1 : Kp [1, 8, 11, 13, 14, 15, 16, 18, 19, 20, 21, 23, 26, 29, 34, 38, 43, 56, 57, 58, 59, 62] [2, 3, 4, 5, 7, 10, 12, 22, 24, 25, 27, 28, 42, 48, 50, 51, 55, 61] [(0, 1), (1, 2), (29, 36), (36, 64), (64, 71)] o_me o1 := by rw [e1]; exact Kp.sL
  have h1 := (h9last hI1).2
  have ep := Int32.toInt_toInt64 p0
  refine wp_gd (decide_eq_true (fun e9 => by have e8 := congrArg Int64.toInt e9; have e7 : (0 : Int64).toInt = 0 := (by decide); omega)) ?_
  have m4 := i64_rem (x := gL o1 60) (y := p0.toInt64) (m := p0.toInt) ep (by omega) h1.1
  have t := l2i_eq (x := (gL o1 60) - (gL o1 60) / p0.toInt64 * p0.toInt64) (by omega) (by omega)
  refine wp_some ?_
  dsimp only
  exact ⟨⟨by omega, by omega⟩, hI1, hK1, by omega⟩

set_option maxHeartbeats 4000000 in
set_option maxRecDepth 100000 in
theorem s_X9_centuries (o_me : Ob) (p0 : Int32) (p1 : Int32) (hI_me : IvX9 o_me) (q0 : 0 ≤ (gI o_me 20).toInt ∧ (gI o_me 20).toInt ≤ 0) : wp (f_X9_centuries   o_me p0 p1) (fun (y : Int32 × Ob) => ((-6) ≤ y.1.toInt ∧ y.1.toInt ≤ 2147483647) ∧ IvX9 y.2 ∧ Kp [8, 11, 13, 14, 15, 16, 18, 19, 20, 21, 23, 26, 29, 56, 57, 58, 59] [4, 5, 7, 10, 12, 22, 24, 25, 27, 28, 48, 50, 51, 55] [(0, 1), (1, 2), (29, 36), (36, 64), (64, 71)] o_me y.2) := by
  have li0 : (-1 : Int32).toInt = (-1) := by decide
  have li1 : (-3 : Int32).toInt = (-3) := by decide
  have li2 : (0 : Int32).toInt = 0 := by decide
  have li3 : (0 : Int64).toInt = 0 := by decide
  have li4 : (1 : Int32).toInt = 1 := by decide
  have li5 : (1 : Int64).toInt = 1 := by decide
  have li6 : (1000000 : Int64).toInt = 1000000 := by decide
  have li7 : (16 : Int32).toInt = 16 := by decide
  have li8 : (2 : Int32).toInt = 2 := by decide
  have li9 : (22 : Int32).toInt = 22 := by decide
  have li10 : (25 : Int32).toInt = 25 := by decide
  have li11 : (3 : Int32).toInt = 3 := by decide
  have li12 : (4 : Int32).toInt = 4 := by decide
  have li13 : (60 : Int64).toInt = 60 := by decide
  have li14 : (999 : Int32).toInt = 999 := by decide
  unfold f_X9_centuries
  refine wp_lt (fun o1 eo1 => ?_)
  have hIo1 : IvX9 o1 := by rw [eo1]; exact hI_me
  have ko1_k2 : (gI o1 20).toInt = (gI o_me 20).toInt := by rw [eo1]; rfl
  have ko1_v : (gI o1 0).toInt = 0 := by rw [eo1]; exact (show ((0 : Int32)).toInt = _ from by decide)
  have hkpo1 : Kp [8, 11, 13, 14, 15, 16, 18, 19, 20, 21, 23, 26, 29, 56, 57, 58, 59] [4, 5, 7, 10, 12, 22, 24, 25, 27, 28, 48, 50, 51, 55] [(0, 1), (1, 2), (29, 36), (36, 64), (64, 71)] o_me o1 := Kp.rf.trans (by rw [eo1]; exact Kp.sI (by decide))
  have rg3 := i32_rg p0
  have t4 : p0.toInt64.toInt = p0.toInt := Int32.toInt_toInt64 _
  refine wp_bd (s_X9_in   p0.toInt64 (0 : Int64) (1000000 : Int64)    ) (fun z5 hz5 => ?_)
  obtain ⟨hz5_0, hz5_1⟩ := hz5
  refine wp_if (fun c6 => ?_) (fun c6 => ?_)
  · have c6 := cv_eq (a := z5.toInt) (b := 0) rfl (by decide) c6
    unfold bk_X9_centuries_29
    refine wp_bd (s_X9_tell   o1 (-1 : Int32)  hIo1  ⟨by decide, by decide⟩) (fun z7 hz7 => ?_)
    obtain ⟨hz7_0, hz7_1, hz7_2⟩ := hz7
    have hkpz7_me : Kp [8, 11, 13, 14, 15, 16, 18, 19, 20, 21, 23, 26, 29, 56, 57, 58, 59] [4, 5, 7, 10, 12, 22, 24, 25, 27, 28, 48, 50, 51, 55] [(0, 1), (1, 2), (29, 36), (36, 64), (64, 71)] o_me z7.2 := hkpo1.trans (hz7_2.mono (by decide) (by decide) (by decide))
    have kz7_k8 : (gI z7.2 20).toInt = (gI o1 20).toInt := congrArg Int32.toInt (hz7_2.1 20 (by decide))
    refine wp_some ?_
    have rg9 := i32_rg z7.1
    exact (show ((-6) ≤ z7.1.toInt ∧ z7.1.toInt ≤ 2147483647) ∧ IvX9 z7.2 ∧ Kp [8, 11, 13, 14, 15, 16, 18, 19, 20, 21, 23, 26, 29, 56, 57, 58, 59] [4, 5, 7, 10, 12, 22, 24, 25, 27, 28, 48, 50, 51, 55] [(0, 1), (1, 2), (29, 36), (36, 64), (64, 71)] o_me z7.2 from ⟨⟨hz7_0.1, hz7_0.2⟩, hz7_1, hkpz7_me⟩)
  · have c6z := c6
    have c6i := hz5_1 c6
    have c6 := cv_ne (a := z5.toInt) (b := 0) rfl (by decide) c6
    have rg10 := i32_rg p1
    have t11 : p1.toInt64.toInt = p1.toInt := Int32.toInt_toInt64 _
    refine wp_bd (s_X9_in   p1.toInt64 (1 : Int64) (60 : Int64)    ) (fun z12 hz12 => ?_)
    obtain ⟨hz12_0, hz12_1⟩ := hz12
    refine wp_if (fun c13 => ?_) (fun c13 => ?_)
    · have c13 := cv_eq (a := z12.toInt) (b := 0) rfl (by decide) c13
      unfold bk_X9_centuries_29
      refine wp_bd (s_X9_tell   o1 (-1 : Int32)  hIo1  ⟨by decide, by decide⟩) (fun z14 hz14 => ?_)
      obtain ⟨hz14_0, hz14_1, hz14_2⟩ := hz14
      have hkpz14_me : Kp [8, 11, 13, 14, 15, 16, 18, 19, 20, 21, 23, 26, 29, 56, 57, 58, 59] [4, 5, 7, 10, 12, 22, 24, 25, 27, 28, 48, 50, 51, 55] [(0, 1), (1, 2), (29, 36), (36, 64), (64, 71)] o_me z14.2 := hkpo1.trans (hz14_2.mono (by decide) (by decide) (by decide))
      have kz14_k15 : (gI z14.2 20).toInt = (gI o1 20).toInt := congrArg Int32.toInt (hz14_2.1 20 (by decide))
      refine wp_some ?_
      have rg16 := i32_rg z14.1
      exact (show ((-6) ≤ z14.1.toInt ∧ z14.1.toInt ≤ 2147483647) ∧ IvX9 z14.2 ∧ Kp [8, 11, 13, 14, 15, 16, 18, 19, 20, 21, 23, 26, 29, 56, 57, 58, 59] [4, 5, 7, 10, 12, 22, 24, 25, 27, 28, 48, 50, 51, 55] [(0, 1), (1, 2), (29, 36), (36, 64), (64, 71)] o_me z14.2 from ⟨⟨hz14_0.1, hz14_0.2⟩, hz14_1, hkpz14_me⟩)
    · have c13z := c13
      have c13i := hz12_1 c13
      have c13 := cv_ne (a := z12.toInt) (b := 0) rfl (by decide) c13
      have kc17 : (gA o1 3 (0 : Int32).toNatClampNeg).toInt = (gA o_me 3 (0 : Int32).toNatClampNeg).toInt := congrArg Int32.toInt (hkpo1.2.2 (0, 1) (by decide) (0 : Int32).toNatClampNeg (by decide) (by decide))
      have t18 := iaX9_3_0 hIo1 (j := (0 : Int32)) (by decide) (by decide)
      refine wp_if (fun c19 => ?_) (fun c19 => ?_)
      · have c19 := cv_eq (a := (gA o1 3 (0 : Int32).toNatClampNeg).toInt) (b := 0) rfl (by decide) c19
        refine wp_bd (s_X9_tell   o1 (-3 : Int32)  hIo1  ⟨by decide, by decide⟩) (fun z20 hz20 => ?_)
        obtain ⟨hz20_0, hz20_1, hz20_2⟩ := hz20
        have hkpz20_me : Kp [8, 11, 13, 14, 15, 16, 18, 19, 20, 21, 23, 26, 29, 56, 57, 58, 59] [4, 5, 7, 10, 12, 22, 24, 25, 27, 28, 48, 50, 51, 55] [(0, 1), (1, 2), (29, 36), (36, 64), (64, 71)] o_me z20.2 := hkpo1.trans (hz20_2.mono (by decide) (by decide) (by decide))
        have kz20_k21 : (gA z20.2 3 (0 : Int32).toNatClampNeg).toInt = (gA o1 3 (0 : Int32).toNatClampNeg).toInt := congrArg (fun g => (g (0 : Int32).toNatClampNeg).toInt) (hz20_2.2.1 3 (by decide))
        have kz20_k22 : (gI z20.2 20).toInt = (gI o1 20).toInt := congrArg Int32.toInt (hz20_2.1 20 (by decide))
        refine wp_some ?_
        have rg23 := i32_rg z20.1
        exact (show ((-6) ≤ z20.1.toInt ∧ z20.1.toInt ≤ 2147483647) ∧ IvX9 z20.2 ∧ Kp [8, 11, 13, 14, 15, 16, 18, 19, 20, 21, 23, 26, 29, 56, 57, 58, 59] [4, 5, 7, 10, 12, 22, 24, 25, 27, 28, 48, 50, 51, 55] [(0, 1), (1, 2), (29, 36), (36, 64), (64, 71)] o_me z20.2 from ⟨⟨hz20_0.1, hz20_0.2⟩, hz20_1, hkpz20_me⟩)
      · have c19z := c19
        have c19 := cv_ne (a := (gA o1 3 (0 : Int32).toNatClampNeg).toInt) (b := 0) rfl (by decide) c19
        refine wp_bd (s_X9_keepAll   o1 (16 : Int32)  hIo1  ⟨by decide, by decide⟩) (fun z24 hz24 => ?_)
        obtain ⟨hz24_0, hz24_1⟩ := hz24
        have hkpz24_me : Kp [8, 11, 13, 14, 15, 16, 18, 19, 20, 21, 23, 26, 29, 56, 57, 58, 59] [4, 5, 7, 10, 12, 22, 24, 25, 27, 28, 48, 50, 51, 55] [(0, 1), (1, 2), (29, 36), (36, 64), (64, 71)] o_me z24 := hkpo1.trans (hz24_1.mono (by decide) (by decide) (by decide))
        have kz24_k25 : (gA z24 3 (0 : Int32).toNatClampNeg).toInt = (gA o1 3 (0 : Int32).toNatClampNeg).toInt := congrArg (fun g => (g (0 : Int32).toNatClampNeg).toInt) (hz24_1.2.1 3 (by decide))
        have kz24_k26 : (gI z24 20).toInt = (gI o1 20).toInt := congrArg Int32.toInt (hz24_1.1 20 (by decide))
        have t27 : p0.toInt64.toInt = p0.toInt := Int32.toInt_toInt64 _
        refine wp_lt (fun o28 eo28 => ?_)
        have hIo28 : IvX9 o28 := by rw [eo28]; exact ilX9_60 hz24_0 ⟨(zl_e c6i.1 (Int.le_of_eq tl0.symm) (by decide)), (zu_e c6i.2 (Int.le_of_eq tl1000000) (by decide))⟩
        have ko28_k29 : (gA o28 3 (0 : Int32).toNatClampNeg).toInt = (gA z24 3 (0 : Int32).toNatClampNeg).toInt := by rw [eo28]; rfl
        have ko28_k30 : (gI o28 20).toInt = (gI z24 20).toInt := by rw [eo28]; rfl
        have ko28_v : (gL o28 60).toInt = p0.toInt64.toInt := by rw [eo28]; rfl
        have hkpo28 : Kp [8, 11, 13, 14, 15, 16, 18, 19, 20, 21, 23, 26, 29, 56, 57, 58, 59] [4, 5, 7, 10, 12, 22, 24, 25, 27, 28, 48, 50, 51, 55] [(0, 1), (1, 2), (29, 36), (36, 64), (64, 71)] o_me o28 := hkpz24_me.trans (by rw [eo28]; exact Kp.sL)
        have lp1 : ∀ (N1 : Nat) (v2_1 : Int32) (v3_1 : Int32) (v4_1 : Int32) (o_me_1 : Ob), IvX9 o_me_1 → Kp [8, 11, 13, 14, 15, 16, 18, 19, 20, 21, 23, 26, 29, 56, 57, 58, 59] [4, 5, 7, 10, 12, 22, 24, 25, 27, 28, 48, 50, 51, 55] [(0, 1), (1, 2), (29, 36), (36, 64), (64, 71)] o_me o_me_1 → (1 ≤ v2_1.toInt ∧ v2_1.toInt ≤ 60) → (0 ≤ v3_1.toInt ∧ v3_1.toInt ≤ 60) → (0 ≤ v4_1.toInt ∧ v4_1.toInt ≤ 60) → (0 ≤ (gI o_me_1 20).toInt ∧ (gI o_me_1 20).toInt ≤ 0) → (v3_1.toInt ≤ v4_1.toInt + 0) → (60 - v4_1.toInt).toNat < N1 → wp (lp_X9_centuries_68   N1 (v2_1, v3_1, v4_1, o_me_1)) (fun (y : Int32 × Ob) => ((-6) ≤ y.1.toInt ∧ y.1.toInt ≤ 2147483647) ∧ IvX9 y.2 ∧ Kp [8, 11, 13, 14, 15, 16, 18, 19, 20, 21, 23, 26, 29, 56, 57, 58, 59] [4, 5, 7, 10, 12, 22, 24, 25, 27, 28, 48, 50, 51, 55] [(0, 1), (1, 2), (29, 36), (36, 64), (64, 71)] o_me y.2) := by
          intro N1
          induction N1 with
          | zero =>
            intro v2_1 v3_1 v4_1 o_me_1 hI_me_1 hkp_me_1 hh32 hh33 hh34 hh35 hh36 hN1
            exact absurd hN1 (Nat.not_lt_zero _)
          | succ N1 ihx =>
            have ih1 := ihx
            intro v2_1 v3_1 v4_1 o_me_1 hI_me_1 hkp_me_1 hh32 hh33 hh34 hh35 hh36 hN1
            show wp (lb_X9_centuries_68   (lp_X9_centuries_68   N1) v2_1 v3_1 v4_1 o_me_1) (fun (y : Int32 × Ob) => ((-6) ≤ y.1.toInt ∧ y.1.toInt ≤ 2147483647) ∧ IvX9 y.2 ∧ Kp [8, 11, 13, 14, 15, 16, 18, 19, 20, 21, 23, 26, 29, 56, 57, 58, 59] [4, 5, 7, 10, 12, 22, 24, 25, 27, 28, 48, 50, 51, 55] [(0, 1), (1, 2), (29, 36), (36, 64), (64, 71)] o_me y.2)
            unfold lb_X9_centuries_68
            refine wp_if (fun c37 => ?_) (fun c37 => ?_)
            · have c37 := cv_ge (a := v4_1.toInt) (b := v2_1.toInt) rfl rfl c37
              unfold bk_X9_centuries_192
              have lp2 : ∀ (N2 : Nat) (v3_2 : Int32) (v4_2 : Int32) (o_me_2 : Ob), IvX9 o_me_2 → Kp [8, 11, 13, 14, 15, 16, 18, 19, 20, 21, 23, 26, 29, 56, 57, 58, 59] [4, 5, 7, 10, 12, 22, 24, 25, 27, 28, 48, 50, 51, 55] [(0, 1), (1, 2), (29, 36), (36, 64), (64, 71)] o_me o_me_2 → (0 ≤ v3_2.toInt ∧ v3_2.toInt ≤ 60) → (0 ≤ v4_2.toInt ∧ v4_2.toInt ≤ 25) → (25 - v4_2.toInt).toNat < N2 → wp (lp_X9_centuries_195   N2 (v3_2, v4_2, o_me_2)) (fun (y : Int32 × Ob) => ((-6) ≤ y.1.toInt ∧ y.1.toInt ≤ 2147483647) ∧ IvX9 y.2 ∧ Kp [8, 11, 13, 14, 15, 16, 18, 19, 20, 21, 23, 26, 29, 56, 57, 58, 59] [4, 5, 7, 10, 12, 22, 24, 25, 27, 28, 48, 50, 51, 55] [(0, 1), (1, 2), (29, 36), (36, 64), (64, 71)] o_me y.2) := by
                intro N2
                induction N2 with
                | zero =>
                  intro v3_2 v4_2 o_me_2 hI_me_2 hkp_me_2 hh38 hh39 hN2
                  exact absurd hN2 (Nat.not_lt_zero _)
                | succ N2 ihx =>
                  have ih2 := ihx
                  intro v3_2 v4_2 o_me_2 hI_me_2 hkp_me_2 hh38 hh39 hN2
                  show wp (lb_X9_centuries_195   (lp_X9_centuries_195   N2) v3_2 v4_2 o_me_2) (fun (y : Int32 × Ob) => ((-6) ≤ y.1.toInt ∧ y.1.toInt ≤ 2147483647) ∧ IvX9 y.2 ∧ Kp [8, 11, 13, 14, 15, 16, 18, 19, 20, 21, 23, 26, 29, 56, 57, 58, 59] [4, 5, 7, 10, 12, 22, 24, 25, 27, 28, 48, 50, 51, 55] [(0, 1), (1, 2), (29, 36), (36, 64), (64, 71)] o_me y.2)
                  unfold lb_X9_centuries_195
                  refine wp_if (fun c40 => ?_) (fun c40 => ?_)
                  · have c40 := cv_ge (a := v4_2.toInt) (b := 25) rfl (by decide) c40
                    have kc41 : (gA o_me_2 3 (0 : Int32).toNatClampNeg).toInt = (gA o_me 3 (0 : Int32).toNatClampNeg).toInt := congrArg Int32.toInt (hkp_me_2.2.2 (0, 1) (by decide) (0 : Int32).toNatClampNeg (by decide) (by decide))
                    have t42 := iaX9_3_0 hI_me_2 (j := (0 : Int32)) (by decide) (by decide)
                    refine wp_lt (fun o43 eo43 => ?_)
                    have hIo43 : IvX9 o43 := by rw [eo43]; exact ipX9_62 hI_me_2 ⟨(Int.le_trans (by decide) t42.1), t42.2⟩
                    have ko43_k44 : (gA o43 3 (0 : Int32).toNatClampNeg).toInt = (gA o_me_2 3 (0 : Int32).toNatClampNeg).toInt := by rw [eo43]; rfl
                    have ko43_v : (gI o43 62).toInt = (gA o_me_2 3 (0 : Int32).toNatClampNeg).toInt := by rw [eo43]; rfl
                    have hkpo43 : Kp [8, 11, 13, 14, 15, 16, 18, 19, 20, 21, 23, 26, 29, 56, 57, 58, 59] [4, 5, 7, 10, 12, 22, 24, 25, 27, 28, 48, 50, 51, 55] [(0, 1), (1, 2), (29, 36), (36, 64), (64, 71)] o_me o43 := hkp_me_2.trans (by rw [eo43]; exact Kp.sI (by decide))
                    refine wp_bd (s_X9_putBack   o43 (16 : Int32)  hIo43  ⟨by decide, by decide⟩) (fun z45 hz45 => ?_)
                    obtain ⟨hz45_0, hz45_1⟩ := hz45
                    have hkpz45_me : Kp [8, 11, 13, 14, 15, 16, 18, 19, 20, 21, 23, 26, 29, 56, 57, 58, 59] [4, 5, 7, 10, 12, 22, 24, 25, 27, 28, 48, 50, 51, 55] [(0, 1), (1, 2), (29, 36), (36, 64), (64, 71)] o_me z45 := hkpo43.trans (hz45_1.mono (by decide) (by decide) (by decide))
                    have kz45_k46 : (gI z45 62).toInt = (gI o43 62).toInt := congrArg Int32.toInt (hz45_1.1 62 (by decide))
                    have rg48 := i32_rg v3_2
                    refine wp_bd (s_X9_tell   z45 v3_2  hz45_0  ⟨(Int.le_trans (by decide) hh38.1), (Int.le_trans hh38.2 (by decide))⟩) (fun z47 hz47 => ?_)
                    obtain ⟨hz47_0, hz47_1, hz47_2⟩ := hz47
                    have hkpz47_me : Kp [8, 11, 13, 14, 15, 16, 18, 19, 20, 21, 23, 26, 29, 56, 57, 58, 59] [4, 5, 7, 10, 12, 22, 24, 25, 27, 28, 48, 50, 51, 55] [(0, 1), (1, 2), (29, 36), (36, 64), (64, 71)] o_me z47.2 := hkpz45_me.trans (hz47_2.mono (by decide) (by decide) (by decide))
                    have kz47_k49 : (gI z47.2 62).toInt = (gI z45 62).toInt := congrArg Int32.toInt (hz47_2.1 62 (by decide))
                    refine wp_some ?_
                    have rg50 := i32_rg z47.1
                    exact (show ((-6) ≤ z47.1.toInt ∧ z47.1.toInt ≤ 2147483647) ∧ IvX9 z47.2 ∧ Kp [8, 11, 13, 14, 15, 16, 18, 19, 20, 21, 23, 26, 29, 56, 57, 58, 59] [4, 5, 7, 10, 12, 22, 24, 25, 27, 28, 48, 50, 51, 55] [(0, 1), (1, 2), (29, 36), (36, 64), (64, 71)] o_me z47.2 from ⟨⟨hz47_0.1, hz47_0.2⟩, hz47_1, hkpz47_me⟩)
                  · have c40 := cv_nge (a := v4_2.toInt) (b := 25) rfl (by decide) c40
                    have t51 : ((4 : Int32) + v4_2).toInt = 4 + v4_2.toInt := i32_add (by decide) rfl (zk_cl hh39.1 (by decide)) (zk_cu (zlt_u (c := 24) c40 (by decide)) (by decide))
                    refine wp_gd (zin_of (m := 5484) rfl (Int.le_trans (by decide) (zaqc_l (c := 4) t51 hh39.1 (by decide))) (zlt_m (c := 5483) (Int.le_trans (zaqc_u (c := 28) t51 (zlt_u (c := 24) c40 (by decide)) (by decide)) (by decide)) (by decide))) ?_
                    refine wp_gd (zin_of (m := 25) rfl hh39.1 (zlt_m (c := 24) (zlt_u (c := 24) c40 (by decide)) (by decide))) ?_
                    refine wp_lt (fun o52 eo52 => ?_)
                    have hIo52 : IvX9 o52 := by rw [eo52]; exact hI_me_2
                    have ko52_v : (gA o52 61 v4_2.toNatClampNeg).toInt = (gA o_me_2 3 ((4 : Int32) + v4_2).toNatClampNeg).toInt := by rw [eo52]; exact congrArg Int32.toInt (upd_eq (g := gA o_me_2 61) (i := v4_2) (v := (gA o_me_2 3 ((4 : Int32) + v4_2).toNatClampNeg)))
                    have hkpo52 : Kp [8, 11, 13, 14, 15, 16, 18, 19, 20, 21, 23, 26, 29, 56, 57, 58, 59] [4, 5, 7, 10, 12, 22, 24, 25, 27, 28, 48, 50, 51, 55] [(0, 1), (1, 2), (29, 36), (36, 64), (64, 71)] o_me o52 := hkp_me_2.trans (by rw [eo52]; exact Kp.tA (by decide) (by decide))
                    refine wp_lt (fun x53 ex53 => ?_)
                    have tx53 : x53.toInt = v4_2.toInt + 1 := by rw [ex53]; exact i32_add rfl (by decide) (zk_l hh39.1 (by decide)) (zk_u (zlt_u (c := 24) c40 (by decide)) (by decide))
                    exact ih2 v3_2 x53 o52 hIo52 hkpo52 ⟨hh38.1, hh38.2⟩ ⟨(zl_e (zq_r (c := (-1)) tx53 (by decide)) hh39.1 (by decide)), (zu_e (Int.le_of_eq tx53) (zlt_u (c := 24) c40 (by decide)) (by decide))⟩ (zms_u (c := 24) hN2 (zq_r (c := (-1)) tx53 (by decide)) (zlt_u (c := 24) c40 (by decide)) (by decide))
              exact lp2 zfu v3_1 (0 : Int32) o_me_1 hI_me_1 hkp_me_1 ⟨hh33.1, hh33.2⟩ ⟨by decide, by decide⟩ (zme_u (l := 0) (Int.le_of_eq tz0.symm) (by decide))
            · have c37 := cv_nge (a := v4_1.toInt) (b := v2_1.toInt) rfl rfl c37
              refine wp_if (fun c54 => ?_) (fun c54 => ?_)
              · have c54 := cv_ge (a := (gA o_me_1 3 (4 : Int32).toNatClampNeg).toInt) (b := 999) rfl (by decide) c54
                unfold bk_X9_centuries_192
                have lp3 : ∀ (N3 : Nat) (v3_3 : Int32) (v4_3 : Int32) (o_me_3 : Ob), IvX9 o_me_3 → Kp [8, 11, 13, 14, 15, 16, 18, 19, 20, 21, 23, 26, 29, 56, 57, 58, 59] [4, 5, 7, 10, 12, 22, 24, 25, 27, 28, 48, 50, 51, 55] [(0, 1), (1, 2), (29, 36), (36, 64), (64, 71)] o_me o_me_3 → (0 ≤ v3_3.toInt ∧ v3_3.toInt ≤ 59) → (0 ≤ v4_3.toInt ∧ v4_3.toInt ≤ 25) → (25 - v4_3.toInt).toNat < N3 → wp (lp_X9_centuries_195   N3 (v3_3, v4_3, o_me_3)) (fun (y : Int32 × Ob) => ((-6) ≤ y.1.toInt ∧ y.1.toInt ≤ 2147483647) ∧ IvX9 y.2 ∧ Kp [8, 11, 13, 14, 15, 16, 18, 19, 20, 21, 23, 26, 29, 56, 57, 58, 59] [4, 5, 7, 10, 12, 22, 24, 25, 27, 28, 48, 50, 51, 55] [(0, 1), (1, 2), (29, 36), (36, 64), (64, 71)] o_me y.2) := by
                  intro N3
                  induction N3 with
                  | zero =>
                    intro v3_3 v4_3 o_me_3 hI_me_3 hkp_me_3 hh55 hh56 hN3
                    exact absurd hN3 (Nat.not_lt_zero _)
                  | succ N3 ihx =>
                    have ih3 := ihx
                    intro v3_3 v4_3 o_me_3 hI_me_3 hkp_me_3 hh55 hh56 hN3
                    show wp (lb_X9_centuries_195   (lp_X9_centuries_195   N3) v3_3 v4_3 o_me_3) (fun (y : Int32 × Ob) => ((-6) ≤ y.1.toInt ∧ y.1.toInt ≤ 2147483647) ∧ IvX9 y.2 ∧ Kp [8, 11, 13, 14, 15, 16, 18, 19, 20, 21, 23, 26, 29, 56, 57, 58, 59] [4, 5, 7, 10, 12, 22, 24, 25, 27, 28, 48, 50, 51, 55] [(0, 1), (1, 2), (29, 36), (36, 64), (64, 71)] o_me y.2)
                    unfold lb_X9_centuries_195
                    refine wp_if (fun c57 => ?_) (fun c57 => ?_)
                    · have c57 := cv_ge (a := v4_3.toInt) (b := 25) rfl (by decide) c57
                      have kc58 : (gA o_me_3 3 (0 : Int32).toNatClampNeg).toInt = (gA o_me 3 (0 : Int32).toNatClampNeg).toInt := congrArg Int32.toInt (hkp_me_3.2.2 (0, 1) (by decide) (0 : Int32).toNatClampNeg (by decide) (by decide))
                      have t59 := iaX9_3_0 hI_me_3 (j := (0 : Int32)) (by decide) (by decide)
                      refine wp_lt (fun o60 eo60 => ?_)
                      have hIo60 : IvX9 o60 := by rw [eo60]; exact ipX9_62 hI_me_3 ⟨(Int.le_trans (by decide) t59.1), t59.2⟩
                      have ko60_k61 : (gA o60 3 (0 : Int32).toNatClampNeg).toInt = (gA o_me_3 3 (0 : Int32).toNatClampNeg).toInt := by rw [eo60]; rfl
                      have ko60_v : (gI o60 62).toInt = (gA o_me_3 3 (0 : Int32).toNatClampNeg).toInt := by rw [eo60]; rfl
                      have hkpo60 : Kp [8, 11, 13, 14, 15, 16, 18, 19, 20, 21, 23, 26, 29, 56, 57, 58, 59] [4, 5, 7, 10, 12, 22, 24, 25, 27, 28, 48, 50, 51, 55] [(0, 1), (1, 2), (29, 36), (36, 64), (64, 71)] o_me o60 := hkp_me_3.trans (by rw [eo60]; exact Kp.sI (by decide))
                      refine wp_bd (s_X9_putBack   o60 (16 : Int32)  hIo60  ⟨by decide, by decide⟩) (fun z62 hz62 => ?_)
                      obtain ⟨hz62_0, hz62_1⟩ := hz62
                      have hkpz62_me : Kp [8, 11, 13, 14, 15, 16, 18, 19, 20, 21, 23, 26, 29, 56, 57, 58, 59] [4, 5, 7, 10, 12, 22, 24, 25, 27, 28, 48, 50, 51, 55] [(0, 1), (1, 2), (29, 36), (36, 64), (64, 71)] o_me z62 := hkpo60.trans (hz62_1.mono (by decide) (by decide) (by decide))
                      have kz62_k63 : (gI z62 62).toInt = (gI o60 62).toInt := congrArg Int32.toInt (hz62_1.1 62 (by decide))
                      have rg65 := i32_rg v3_3
                      refine wp_bd (s_X9_tell   z62 v3_3  hz62_0  ⟨(Int.le_trans (by decide) hh55.1), (Int.le_trans hh55.2 (by decide))⟩) (fun z64 hz64 => ?_)
                      obtain ⟨hz64_0, hz64_1, hz64_2⟩ := hz64
                      have hkpz64_me : Kp [8, 11, 13, 14, 15, 16, 18, 19, 20, 21, 23, 26, 29, 56, 57, 58, 59] [4, 5, 7, 10, 12, 22, 24, 25, 27, 28, 48, 50, 51, 55] [(0, 1), (1, 2), (29, 36), (36, 64), (64, 71)] o_me z64.2 := hkpz62_me.trans (hz64_2.mono (by decide) (by decide) (by decide))
                      have kz64_k66 : (gI z64.2 62).toInt = (gI z62 62).toInt := congrArg Int32.toInt (hz64_2.1 62 (by decide))
                      refine wp_some ?_
                      have rg67 := i32_rg z64.1
                      exact (show ((-6) ≤ z64.1.toInt ∧ z64.1.toInt ≤ 2147483647) ∧ IvX9 z64.2 ∧ Kp [8, 11, 13, 14, 15, 16, 18, 19, 20, 21, 23, 26, 29, 56, 57, 58, 59] [4, 5, 7, 10, 12, 22, 24, 25, 27, 28, 48, 50, 51, 55] [(0, 1), (1, 2), (29, 36), (36, 64), (64, 71)] o_me z64.2 from ⟨⟨hz64_0.1, hz64_0.2⟩, hz64_1, hkpz64_me⟩)
                    · have c57 := cv_nge (a := v4_3.toInt) (b := 25) rfl (by decide) c57
                      have t68 : ((4 : Int32) + v4_3).toInt = 4 + v4_3.toInt := i32_add (by decide) rfl (zk_cl hh56.1 (by decide)) (zk_cu (zlt_u (c := 24) c57 (by decide)) (by decide))
                      refine wp_gd (zin_of (m := 5484) rfl (Int.le_trans (by decide) (zaqc_l (c := 4) t68 hh56.1 (by decide))) (zlt_m (c := 5483) (Int.le_trans (zaqc_u (c := 28) t68 (zlt_u (c := 24) c57 (by decide)) (by decide)) (by decide)) (by decide))) ?_
                      refine wp_gd (zin_of (m := 25) rfl hh56.1 (zlt_m (c := 24) (zlt_u (c := 24) c57 (by decide)) (by decide))) ?_
                      refine wp_lt (fun o69 eo69 => ?_)
                      have hIo69 : IvX9 o69 := by rw [eo69]; exact hI_me_3
                      have ko69_v : (gA o69 61 v4_3.toNatClampNeg).toInt = (gA o_me_3 3 ((4 : Int32) + v4_3).toNatClampNeg).toInt := by rw [eo69]; exact congrArg Int32.toInt (upd_eq (g := gA o_me_3 61) (i := v4_3) (v := (gA o_me_3 3 ((4 : Int32) + v4_3).toNatClampNeg)))
                      have hkpo69 : Kp [8, 11, 13, 14, 15, 16, 18, 19, 20, 21, 23, 26, 29, 56, 57, 58, 59] [4, 5, 7, 10, 12, 22, 24, 25, 27, 28, 48, 50, 51, 55] [(0, 1), (1, 2), (29, 36), (36, 64), (64, 71)] o_me o69 := hkp_me_3.trans (by rw [eo69]; exact Kp.tA (by decide) (by decide))
                      refine wp_lt (fun x70 ex70 => ?_)
                      have tx70 : x70.toInt = v4_3.toInt + 1 := by rw [ex70]; exact i32_add rfl (by decide) (zk_l hh56.1 (by decide)) (zk_u (zlt_u (c := 24) c57 (by decide)) (by decide))
                      exact ih3 v3_3 x70 o69 hIo69 hkpo69 ⟨hh55.1, hh55.2⟩ ⟨(zl_e (zq_r (c := (-1)) tx70 (by decide)) hh56.1 (by decide)), (zu_e (Int.le_of_eq tx70) (zlt_u (c := 24) c57 (by decide)) (by decide))⟩ (zms_u (c := 24) hN3 (zq_r (c := (-1)) tx70 (by decide)) (zlt_u (c := 24) c57 (by decide)) (by decide))
                exact lp3 zfu v3_1 (0 : Int32) o_me_1 hI_me_1 hkp_me_1 ⟨hh33.1, (zu_e (zd_e (c := (-1)) hh36 (zl_d c37) (by decide)) hh32.2 (by decide))⟩ ⟨by decide, by decide⟩ (zme_u (l := 0) (Int.le_of_eq tz0.symm) (by decide))
              · have c54 := cv_nge (a := (gA o_me_1 3 (4 : Int32).toNatClampNeg).toInt) (b := 999) rfl (by decide) c54
                have kc71 : (gA o_me_1 3 (0 : Int32).toNatClampNeg).toInt = (gA o_me 3 (0 : Int32).toNatClampNeg).toInt := congrArg Int32.toInt (hkp_me_1.2.2 (0, 1) (by decide) (0 : Int32).toNatClampNeg (by decide) (by decide))
                have t72 := iaX9_3_0 hI_me_1 (j := (0 : Int32)) (by decide) (by decide)
                refine wp_bd (s_X9_draw   o_me_1 (gA o_me_1 3 (0 : Int32).toNatClampNeg)  hI_me_1  ⟨(zl_e (zd_e (c := 0) (zq_0 kc17) (zq_0 kc71.symm) (by decide)) (zn_l (c := 1) t18.1 c19 (by decide)) (by decide)), t72.2⟩) (fun z73 hz73 => ?_)
                obtain ⟨hz73_0, hz73_1, hz73_2, hz73_3⟩ := hz73
                have hkpz73_me : Kp [8, 11, 13, 14, 15, 16, 18, 19, 20, 21, 23, 26, 29, 56, 57, 58, 59] [4, 5, 7, 10, 12, 22, 24, 25, 27, 28, 48, 50, 51, 55] [(0, 1), (1, 2), (29, 36), (36, 64), (64, 71)] o_me z73.2 := hkp_me_1.trans (hz73_2.mono (by decide) (by decide) (by decide))
                have kz73_k74 : (gA z73.2 3 (0 : Int32).toNatClampNeg).toInt = (gA o_me_1 3 (0 : Int32).toNatClampNeg).toInt := congrArg (fun g => (g (0 : Int32).toNatClampNeg).toInt) (hz73_2.2.1 3 (by decide))
                have kz73_k75 : (gA z73.2 3 (4 : Int32).toNatClampNeg).toInt = (gA o_me_1 3 (4 : Int32).toNatClampNeg).toInt := congrArg (fun g => (g (4 : Int32).toNatClampNeg).toInt) (hz73_2.2.1 3 (by decide))
                have kz73_k76 : (gI z73.2 20).toInt = (gI o_me_1 20).toInt := congrArg Int32.toInt (hz73_2.1 20 (by decide))
                refine wp_bd (s_X9_draw   z73.2 (4 : Int32)  hz73_1  ⟨by decide, by decide⟩) (fun z77 hz77 => ?_)
                obtain ⟨hz77_0, hz77_1, hz77_2, hz77_3⟩ := hz77
                have hkpz77_me : Kp [8, 11, 13, 14, 15, 16, 18, 19, 20, 21, 23, 26, 29, 56, 57, 58, 59] [4, 5, 7, 10, 12, 22, 24, 25, 27, 28, 48, 50, 51, 55] [(0, 1), (1, 2), (29, 36), (36, 64), (64, 71)] o_me z77.2 := hkpz73_me.trans (hz77_2.mono (by decide) (by decide) (by decide))
                have kz77_k78 : (gA z77.2 3 (0 : Int32).toNatClampNeg).toInt = (gA z73.2 3 (0 : Int32).toNatClampNeg).toInt := congrArg (fun g => (g (0 : Int32).toNatClampNeg).toInt) (hz77_2.2.1 3 (by decide))
                have kz77_k79 : (gA z77.2 3 (4 : Int32).toNatClampNeg).toInt = (gA z73.2 3 (4 : Int32).toNatClampNeg).toInt := congrArg (fun g => (g (4 : Int32).toNatClampNeg).toInt) (hz77_2.2.1 3 (by decide))
                have kz77_k80 : (gI z77.2 20).toInt = (gI z73.2 20).toInt := congrArg Int32.toInt (hz77_2.1 20 (by decide))
                refine wp_bd (s_X9_draw   z77.2 (4 : Int32)  hz77_1  ⟨by decide, by decide⟩) (fun z81 hz81 => ?_)
                obtain ⟨hz81_0, hz81_1, hz81_2, hz81_3⟩ := hz81
                have hkpz81_me : Kp [8, 11, 13, 14, 15, 16, 18, 19, 20, 21, 23, 26, 29, 56, 57, 58, 59] [4, 5, 7, 10, 12, 22, 24, 25, 27, 28, 48, 50, 51, 55] [(0, 1), (1, 2), (29, 36), (36, 64), (64, 71)] o_me z81.2 := hkpz77_me.trans (hz81_2.mono (by decide) (by decide) (by decide))
                have kz81_k82 : (gA z81.2 3 (0 : Int32).toNatClampNeg).toInt = (gA z77.2 3 (0 : Int32).toNatClampNeg).toInt := congrArg (fun g => (g (0 : Int32).toNatClampNeg).toInt) (hz81_2.2.1 3 (by decide))
                have kz81_k83 : (gA z81.2 3 (4 : Int32).toNatClampNeg).toInt = (gA z77.2 3 (4 : Int32).toNatClampNeg).toInt := congrArg (fun g => (g (4 : Int32).toNatClampNeg).toInt) (hz81_2.2.1 3 (by decide))
                have kz81_k84 : (gI z81.2 20).toInt = (gI z77.2 20).toInt := congrArg Int32.toInt (hz81_2.1 20 (by decide))
                refine wp_if (fun c85 => ?_) (fun c85 => ?_)
                · have c85 := cv_ge (a := z81.1.toInt) (b := 2) rfl (by decide) c85
                  unfold bk_X9_centuries_140
                  refine wp_if (fun c86 => ?_) (fun c86 => ?_)
                  · have c86 := cv_eq (a := z81.1.toInt) (b := 2) rfl (by decide) c86
                    refine wp_bd (s_X9_layPlaces   z81.2 z77.1  hz81_1  ⟨hz77_0.1, (zu_e hz77_3 (Int.le_of_eq tz4) (by decide))⟩ ⟨(zl_e (zd_e (c := 0) (zq_0 kz73_k76.symm) (zd_e (c := 0) (zq_0 kz77_k80.symm) (zq_0 kz81_k84.symm) (by decide)) (by decide)) hh35.1 (by decide)), (zu_e (zd_e (c := 0) (zd_e (c := 0) (zq_0 kz81_k84) (zq_0 kz77_k80) (by decide)) (zq_0 kz73_k76) (by decide)) hh35.2 (by decide))⟩) (fun z87 hz87 => ?_)
                    obtain ⟨hz87_0, hz87_1⟩ := hz87
                    have hkpz87_me : Kp [8, 11, 13, 14, 15, 16, 18, 19, 20, 21, 23, 26, 29, 56, 57, 58, 59] [4, 5, 7, 10, 12, 22, 24, 25, 27, 28, 48, 50, 51, 55] [(0, 1), (1, 2), (29, 36), (36, 64), (64, 71)] o_me z87 := hkpz81_me.trans (hz87_1.mono (by decide) (by decide) (by decide))
                    have kz87_k88 : (gA z87 3 (0 : Int32).toNatClampNeg).toInt = (gA z81.2 3 (0 : Int32).toNatClampNeg).toInt := congrArg (fun g => (g (0 : Int32).toNatClampNeg).toInt) (hz87_1.2.1 3 (by decide))
                    have kz87_k89 : (gA z87 3 (4 : Int32).toNatClampNeg).toInt = (gA z81.2 3 (4 : Int32).toNatClampNeg).toInt := congrArg (fun g => (g (4 : Int32).toNatClampNeg).toInt) (hz87_1.2.1 3 (by decide))
                    have kz87_k90 : (gI z87 20).toInt = (gI z81.2 20).toInt := congrArg Int32.toInt (hz87_1.1 20 (by decide))
                    have t91 := igX9_43 hz87_0
                    refine wp_if (fun c92 => ?_) (fun c92 => ?_)
                    · have c92 := cv_le (a := (gI z87 43).toInt) (b := 0) rfl (by decide) c92
                      unfold bk_X9_centuries_169
                      refine wp_if (fun c93 => ?_) (fun c93 => ?_)
                      · have c93 := cv_eq (a := z81.1.toInt) (b := 3) rfl (by decide) c93
                        exact absurd c93 (zne_l (k := 2) (l := 3) (Int.le_of_eq c86) (by decide) (by decide))
                      · have c93 := cv_ne (a := z81.1.toInt) (b := 3) rfl (by decide) c93
                        unfold bk_X9_centuries_181
                        refine wp_bd (s_X9_passIt   z87  hz87_0  ⟨(zl_e (zd_e (c := 0) (zq_0 kz73_k76.symm) (zd_e (c := 0) (zq_0 kz77_k80.symm) (zd_e (c := 0) (zq_0 kz81_k84.symm) (zq_0 kz87_k90.symm) (by decide)) (by decide)) (by decide)) hh35.1 (by decide)), (zu_e (zd_e (c := 0) (zd_e (c := 0) (zd_e (c := 0) (zq_0 kz87_k90) (zq_0 kz81_k84) (by decide)) (zq_0 kz77_k80) (by decide)) (zq_0 kz73_k76) (by decide)) hh35.2 (by decide))⟩) (fun z94 hz94 => ?_)
                        obtain ⟨hz94_0, hz94_1, hz94_2⟩ := hz94
                        have hkpz94_me : Kp [8, 11, 13, 14, 15, 16, 18, 19, 20, 21, 23, 26, 29, 56, 57, 58, 59] [4, 5, 7, 10, 12, 22, 24, 25, 27, 28, 48, 50, 51, 55] [(0, 1), (1, 2), (29, 36), (36, 64), (64, 71)] o_me z94.2 := hkpz87_me.trans (hz94_2.mono (by decide) (by decide) (by decide))
                        have kz94_k95 : (gI z94.2 20).toInt = (gI z87 20).toInt := congrArg Int32.toInt (hz94_2.1 20 (by decide))
                        have kz94_k96 : (gI z94.2 43).toInt = (gI z87 43).toInt := congrArg Int32.toInt (hz94_2.1 43 (by decide))
                        refine wp_lt (fun x97 ex97 => ?_)
                        have tx97 : x97.toInt = v4_1.toInt + 1 := by rw [ex97]; exact i32_add rfl (by decide) (zk_l hh34.1 (by decide)) (zk_u (zu_e (k := 59) (zl_d c37) hh32.2 (by decide)) (by decide))
                        exact ih1 v2_1 v3_1 x97 z94.2 hz94_1 hkpz94_me ⟨hh32.1, hh32.2⟩ ⟨hh33.1, hh33.2⟩ ⟨(zl_e (zq_r (c := (-1)) tx97 (by decide)) hh34.1 (by decide)), (zu_e (zd_e (c := 0) (Int.le_of_eq tx97) (zl_d c37) (by decide)) hh32.2 (by decide))⟩ ⟨(by omega), (by omega)⟩ (zd_w (zd_e (c := (-1)) hh36 (zq_r (c := (-1)) tx97 (by decide)) (by decide)) (by decide)) (zms_u (c := 59) hN1 (zq_r (c := (-1)) tx97 (by decide)) (zu_e (zl_d c37) hh32.2 (by decide)) (by decide))
                    · have c92 := cv_nle (a := (gI z87 43).toInt) (b := 0) rfl (by decide) c92
                      refine wp_bd (s_X9_raceIt   z87 z77.1  hz87_0  ⟨hz77_0.1, (zu_e hz77_3 (Int.le_of_eq tz4) (by decide))⟩ ⟨(zl_e (zd_e (c := 0) (zq_0 kz73_k76.symm) (zd_e (c := 0) (zq_0 kz77_k80.symm) (zd_e (c := 0) (zq_0 kz81_k84.symm) (zq_0 kz87_k90.symm) (by decide)) (by decide)) (by decide)) hh35.1 (by decide)), (zu_e (zd_e (c := 0) (zd_e (c := 0) (zd_e (c := 0) (zq_0 kz87_k90) (zq_0 kz81_k84) (by decide)) (zq_0 kz77_k80) (by decide)) (zq_0 kz73_k76) (by decide)) hh35.2 (by decide))⟩) (fun z98 hz98 => ?_)
                      obtain ⟨hz98_0, hz98_1, hz98_2⟩ := hz98
                      have hkpz98_me : Kp [8, 11, 13, 14, 15, 16, 18, 19, 20, 21, 23, 26, 29, 56, 57, 58, 59] [4, 5, 7, 10, 12, 22, 24, 25, 27, 28, 48, 50, 51, 55] [(0, 1), (1, 2), (29, 36), (36, 64), (64, 71)] o_me z98.2 := hkpz87_me.trans (hz98_2.mono (by decide) (by decide) (by decide))
                      have kz98_k99 : (gI z98.2 20).toInt = (gI z87 20).toInt := congrArg Int32.toInt (hz98_2.1 20 (by decide))
                      have kz98_k100 : (gI z98.2 43).toInt = (gI z87 43).toInt := congrArg Int32.toInt (hz98_2.1 43 (by decide))
                      refine wp_lt (fun x101 ex101 => ?_)
                      have tx101 : x101.toInt = v3_1.toInt + 1 := by rw [ex101]; exact i32_add rfl (by decide) (zk_l hh33.1 (by decide)) (zk_u (zu_e (k := 59) (zd_e (c := (-1)) hh36 (zl_d c37) (by decide)) hh32.2 (by decide)) (by decide))
                      unfold bk_X9_centuries_169
                      refine wp_if (fun c102 => ?_) (fun c102 => ?_)
                      · have c102 := cv_eq (a := z81.1.toInt) (b := 3) rfl (by decide) c102
                        exact absurd c102 (zne_l (k := 2) (l := 3) (Int.le_of_eq c86) (by decide) (by decide))
                      · have c102 := cv_ne (a := z81.1.toInt) (b := 3) rfl (by decide) c102
                        unfold bk_X9_centuries_181
                        refine wp_bd (s_X9_passIt   z98.2  hz98_1  ⟨(by omega), (by omega)⟩) (fun z103 hz103 => ?_)
                        obtain ⟨hz103_0, hz103_1, hz103_2⟩ := hz103
                        have hkpz103_me : Kp [8, 11, 13, 14, 15, 16, 18, 19, 20, 21, 23, 26, 29, 56, 57, 58, 59] [4, 5, 7, 10, 12, 22, 24, 25, 27, 28, 48, 50, 51, 55] [(0, 1), (1, 2), (29, 36), (36, 64), (64, 71)] o_me z103.2 := hkpz98_me.trans (hz103_2.mono (by decide) (by decide) (by decide))
                        have kz103_k104 : (gI z103.2 20).toInt = (gI z98.2 20).toInt := congrArg Int32.toInt (hz103_2.1 20 (by decide))
                        have kz103_k105 : (gI z103.2 43).toInt = (gI z98.2 43).toInt := congrArg Int32.toInt (hz103_2.1 43 (by decide))
                        refine wp_lt (fun x106 ex106 => ?_)
                        have tx106 : x106.toInt = v4_1.toInt + 1 := by rw [ex106]; exact i32_add rfl (by decide) (zk_l hh34.1 (by decide)) (zk_u (zu_e (k := 59) (zl_d c37) hh32.2 (by decide)) (by decide))
                        exact ih1 v2_1 x101 x106 z103.2 hz103_1 hkpz103_me ⟨hh32.1, hh32.2⟩ ⟨(zl_e (zq_r (c := (-1)) tx101 (by decide)) hh33.1 (by decide)), (zu_e (zd_e (c := 0) (zd_e (c := 1) (Int.le_of_eq tx101) hh36 (by decide)) (zl_d c37) (by decide)) hh32.2 (by decide))⟩ ⟨(zl_e (zq_r (c := (-1)) tx106 (by decide)) hh34.1 (by decide)), (zu_e (zd_e (c := 0) (Int.le_of_eq tx106) (zl_d c37) (by decide)) hh32.2 (by decide))⟩ ⟨(by omega), (by omega)⟩ (zd_e (c := 0) (zd_e (c := 1) (Int.le_of_eq tx101) hh36 (by decide)) (zq_r (c := (-1)) tx106 (by decide)) (by decide)) (zms_u (c := 59) hN1 (zq_r (c := (-1)) tx106 (by decide)) (zu_e (zl_d c37) hh32.2 (by decide)) (by decide))
                  · have c86 := cv_ne (a := z81.1.toInt) (b := 2) rfl (by decide) c86
                    unfold bk_X9_centuries_169
                    refine wp_if (fun c107 => ?_) (fun c107 => ?_)
                    · have c107 := cv_eq (a := z81.1.toInt) (b := 3) rfl (by decide) c107
                      refine wp_bd (s_X9_takeIt   z81.2 z73.1  hz81_1  ⟨hz73_0.1, hz73_0.2⟩) (fun z108 hz108 => ?_)
                      obtain ⟨hz108_0, hz108_1⟩ := hz108
                      have hkpz108_me : Kp [8, 11, 13, 14, 15, 16, 18, 19, 20, 21, 23, 26, 29, 56, 57, 58, 59] [4, 5, 7, 10, 12, 22, 24, 25, 27, 28, 48, 50, 51, 55] [(0, 1), (1, 2), (29, 36), (36, 64), (64, 71)] o_me z108 := hkpz81_me.trans (hz108_1.mono (by decide) (by decide) (by decide))
                      have kz108_k109 : (gI z108 20).toInt = (gI z81.2 20).toInt := congrArg Int32.toInt (hz108_1.1 20 (by decide))
                      unfold bk_X9_centuries_181
                      refine wp_bd (s_X9_passIt   z108  hz108_0  ⟨(zl_e (zd_e (c := 0) (zq_0 kz73_k76.symm) (zd_e (c := 0) (zq_0 kz77_k80.symm) (zd_e (c := 0) (zq_0 kz81_k84.symm) (zq_0 kz108_k109.symm) (by decide)) (by decide)) (by decide)) hh35.1 (by decide)), (zu_e (zd_e (c := 0) (zd_e (c := 0) (zd_e (c := 0) (zq_0 kz108_k109) (zq_0 kz81_k84) (by decide)) (zq_0 kz77_k80) (by decide)) (zq_0 kz73_k76) (by decide)) hh35.2 (by decide))⟩) (fun z110 hz110 => ?_)
                      obtain ⟨hz110_0, hz110_1, hz110_2⟩ := hz110
                      have hkpz110_me : Kp [8, 11, 13, 14, 15, 16, 18, 19, 20, 21, 23, 26, 29, 56, 57, 58, 59] [4, 5, 7, 10, 12, 22, 24, 25, 27, 28, 48, 50, 51, 55] [(0, 1), (1, 2), (29, 36), (36, 64), (64, 71)] o_me z110.2 := hkpz108_me.trans (hz110_2.mono (by decide) (by decide) (by decide))
                      have kz110_k111 : (gI z110.2 20).toInt = (gI z108 20).toInt := congrArg Int32.toInt (hz110_2.1 20 (by decide))
                      refine wp_lt (fun x112 ex112 => ?_)
                      have tx112 : x112.toInt = v4_1.toInt + 1 := by rw [ex112]; exact i32_add rfl (by decide) (zk_l hh34.1 (by decide)) (zk_u (zu_e (k := 59) (zl_d c37) hh32.2 (by decide)) (by decide))
                      exact ih1 v2_1 v3_1 x112 z110.2 hz110_1 hkpz110_me ⟨hh32.1, hh32.2⟩ ⟨hh33.1, hh33.2⟩ ⟨(zl_e (zq_r (c := (-1)) tx112 (by decide)) hh34.1 (by decide)), (zu_e (zd_e (c := 0) (Int.le_of_eq tx112) (zl_d c37) (by decide)) hh32.2 (by decide))⟩ ⟨(by omega), (by omega)⟩ (zd_w (zd_e (c := (-1)) hh36 (zq_r (c := (-1)) tx112 (by decide)) (by decide)) (by decide)) (zms_u (c := 59) hN1 (zq_r (c := (-1)) tx112 (by decide)) (zu_e (zl_d c37) hh32.2 (by decide)) (by decide))
                    · have c107 := cv_ne (a := z81.1.toInt) (b := 3) rfl (by decide) c107
                      exact absurd (Int.le_antisymm (zu_e hz81_3 (Int.le_of_eq tz4) (by decide)) (zn_l (c := 3) c85 c86 (by decide))) c107
                · have c85 := cv_nge (a := z81.1.toInt) (b := 2) rfl (by decide) c85
                  have t113 : ((22 : Int32) + z73.1).toInt = 22 + z73.1.toInt := i32_add (by decide) rfl (zk_cl hz73_0.1 (by decide)) (zk_cu hz73_0.2 (by decide))
                  refine wp_gd (zin_of (m := 5484) rfl (Int.le_trans (by decide) (zaqc_l (c := 22) t113 hz73_0.1 (by decide))) (zlt_m (c := 5483) (Int.le_trans (zaqc_u (c := 28) t113 hz73_0.2 (by decide)) (by decide)) (by decide))) ?_
                  have t114 := iaX9_3_6 hz81_1 (j := (22 : Int32) + z73.1) (zaqc_l (c := 22) t113 hz73_0.1 (by decide)) (zaqc_u (c := 28) t113 hz73_0.2 (by decide))
                  have t115 : ((1 : Int32) - (gA z81.2 3 ((22 : Int32) + z73.1).toNatClampNeg)).toInt = 1 - (gA z81.2 3 ((22 : Int32) + z73.1).toNatClampNeg).toInt := i32_sub (by decide) rfl (zs_cl t114.2 (by decide)) (zs_cu t114.1 (by decide))
                  refine wp_gd (zin_of (m := 5484) rfl (Int.le_trans (by decide) (zaqc_l (c := 22) t113 hz73_0.1 (by decide))) (zlt_m (c := 5483) (Int.le_trans (zaqc_u (c := 28) t113 hz73_0.2 (by decide)) (by decide)) (by decide))) ?_
                  refine wp_lt (fun o116 eo116 => ?_)
                  have hIo116 : IvX9 o116 := by rw [eo116]; exact ibX9_3 hz81_1 (Int.le_trans (by decide) (zaqc_l (c := 22) t113 hz73_0.1 (by decide))) (Int.le_trans (zaqc_u (c := 28) t113 hz73_0.2 (by decide)) (by decide)) (Or.inr (Or.inl (zlt_k (c := 1) (Int.le_trans (by decide) (zaqc_l (c := 22) t113 hz73_0.1 (by decide))) (by decide)))) (Or.inr (Or.inl (zlt_k (c := 2) (Int.le_trans (by decide) (zaqc_l (c := 22) t113 hz73_0.1 (by decide))) (by decide)))) (Or.inr (Or.inl (zlt_k (c := 3) (Int.le_trans (by decide) (zaqc_l (c := 22) t113 hz73_0.1 (by decide))) (by decide)))) (Or.inr (Or.inl (zlt_k (c := 4) (Int.le_trans (by decide) (zaqc_l (c := 22) t113 hz73_0.1 (by decide))) (by decide)))) (Or.inr (Or.inl (zlt_k (c := 8) (Int.le_trans (by decide) (zaqc_l (c := 22) t113 hz73_0.1 (by decide))) (by decide)))) (Or.inr (Or.inl (zlt_k (c := 15) (Int.le_trans (by decide) (zaqc_l (c := 22) t113 hz73_0.1 (by decide))) (by decide)))) (Or.inr (Or.inr ⟨(zsqc_l (c := 0) t115 t114.2 (by decide)), (zsqc_u (c := 1) t115 t114.1 (by decide))⟩)) (Or.inl (zlt_m (c := 28) (zaqc_u (c := 28) t113 hz73_0.2 (by decide)) (by decide))) (Or.inl (zlt_m (c := 70) (Int.le_trans (zaqc_u (c := 28) t113 hz73_0.2 (by decide)) (by decide)) (by decide)))
                  have ko116_k117 : (gA o116 3 (0 : Int32).toNatClampNeg).toInt = (gA z81.2 3 (0 : Int32).toNatClampNeg).toInt := by rw [eo116]; exact congrArg Int32.toInt (upd_ne (g := gA z81.2 3) (i := ((22 : Int32) + z73.1)) (j := (0 : Int32)) (v := ((1 : Int32) - (gA z81.2 3 ((22 : Int32) + z73.1).toNatClampNeg))) (Int.le_trans (by decide) (zaqc_l (c := 22) t113 hz73_0.1 (by decide))) (by decide) (zne_r (k := 0) (l := 22) (by decide) (zaqc_l (c := 22) t113 hz73_0.1 (by decide)) (by decide)))
                  have ko116_k118 : (gA o116 3 (4 : Int32).toNatClampNeg).toInt = (gA z81.2 3 (4 : Int32).toNatClampNeg).toInt := by rw [eo116]; exact congrArg Int32.toInt (upd_ne (g := gA z81.2 3) (i := ((22 : Int32) + z73.1)) (j := (4 : Int32)) (v := ((1 : Int32) - (gA z81.2 3 ((22 : Int32) + z73.1).toNatClampNeg))) (Int.le_trans (by decide) (zaqc_l (c := 22) t113 hz73_0.1 (by decide))) (by decide) (zne_r (k := 4) (l := 22) (by decide) (zaqc_l (c := 22) t113 hz73_0.1 (by decide)) (by decide)))
                  have ko116_k119 : (gI o116 20).toInt = (gI z81.2 20).toInt := by rw [eo116]; rfl
                  have ko116_v : (gA o116 3 ((22 : Int32) + z73.1).toNatClampNeg).toInt = ((1 : Int32) - (gA z81.2 3 ((22 : Int32) + z73.1).toNatClampNeg)).toInt := by rw [eo116]; exact congrArg Int32.toInt (upd_eq (g := gA z81.2 3) (i := ((22 : Int32) + z73.1)) (v := ((1 : Int32) - (gA z81.2 3 ((22 : Int32) + z73.1).toNatClampNeg))))
                  have hkpo116 : Kp [8, 11, 13, 14, 15, 16, 18, 19, 20, 21, 23, 26, 29, 56, 57, 58, 59] [4, 5, 7, 10, 12, 22, 24, 25, 27, 28, 48, 50, 51, 55] [(0, 1), (1, 2), (29, 36), (36, 64), (64, 71)] o_me o116 := hkpz81_me.trans (by rw [eo116]; exact kp_bw (a := 2) (b := 29) (by decide) (by decide) (Int.le_trans (by decide) (zaqc_l (c := 22) t113 hz73_0.1 (by decide))) (Int.lt_of_le_of_lt (zaqc_u (c := 28) t113 hz73_0.2 (by decide)) (by decide)))
                  unfold bk_X9_centuries_140
                  refine wp_if (fun c120 => ?_) (fun c120 => ?_)
                  · have c120 := cv_eq (a := z81.1.toInt) (b := 2) rfl (by decide) c120
                    exact absurd c120 (zne_l (k := 1) (l := 2) (zlt_u (c := 1) c85 (by decide)) (by decide) (by decide))
                  · have c120 := cv_ne (a := z81.1.toInt) (b := 2) rfl (by decide) c120
                    unfold bk_X9_centuries_169
                    refine wp_if (fun c121 => ?_) (fun c121 => ?_)
                    · have c121 := cv_eq (a := z81.1.toInt) (b := 3) rfl (by decide) c121
                      exact absurd c121 (zne_l (k := 1) (l := 3) (zlt_u (c := 1) c85 (by decide)) (by decide) (by decide))
                    · have c121 := cv_ne (a := z81.1.toInt) (b := 3) rfl (by decide) c121
                      unfold bk_X9_centuries_181
                      refine wp_bd (s_X9_passIt   o116  hIo116  ⟨(zl_e (zd_e (c := 0) (zq_0 kz73_k76.symm) (zd_e (c := 0) (zq_0 kz77_k80.symm) (zd_e (c := 0) (zq_0 kz81_k84.symm) (zq_0 ko116_k119.symm) (by decide)) (by decide)) (by decide)) hh35.1 (by decide)), (zu_e (zd_e (c := 0) (zd_e (c := 0) (zd_e (c := 0) (zq_0 ko116_k119) (zq_0 kz81_k84) (by decide)) (zq_0 kz77_k80) (by decide)) (zq_0 kz73_k76) (by decide)) hh35.2 (by decide))⟩) (fun z122 hz122 => ?_)
                      obtain ⟨hz122_0, hz122_1, hz122_2⟩ := hz122
                      have hkpz122_me : Kp [8, 11, 13, 14, 15, 16, 18, 19, 20, 21, 23, 26, 29, 56, 57, 58, 59] [4, 5, 7, 10, 12, 22, 24, 25, 27, 28, 48, 50, 51, 55] [(0, 1), (1, 2), (29, 36), (36, 64), (64, 71)] o_me z122.2 := hkpo116.trans (hz122_2.mono (by decide) (by decide) (by decide))
                      have kz122_k123 : (gI z122.2 20).toInt = (gI o116 20).toInt := congrArg Int32.toInt (hz122_2.1 20 (by decide))
                      refine wp_lt (fun x124 ex124 => ?_)
                      have tx124 : x124.toInt = v4_1.toInt + 1 := by rw [ex124]; exact i32_add rfl (by decide) (zk_l hh34.1 (by decide)) (zk_u (zu_e (k := 59) (zl_d c37) hh32.2 (by decide)) (by decide))
                      exact ih1 v2_1 v3_1 x124 z122.2 hz122_1 hkpz122_me ⟨hh32.1, hh32.2⟩ ⟨hh33.1, hh33.2⟩ ⟨(zl_e (zq_r (c := (-1)) tx124 (by decide)) hh34.1 (by decide)), (zu_e (zd_e (c := 0) (Int.le_of_eq tx124) (zl_d c37) (by decide)) hh32.2 (by decide))⟩ ⟨(by omega), (by omega)⟩ (zd_w (zd_e (c := (-1)) hh36 (zq_r (c := (-1)) tx124 (by decide)) (by decide)) (by decide)) (zms_u (c := 59) hN1 (zq_r (c := (-1)) tx124 (by decide)) (zu_e (zl_d c37) hh32.2 (by decide)) (by decide))
        exact lp1 zfu p1 (0 : Int32) (0 : Int32) o28 hIo28 hkpo28 ⟨(zl_e (zd_e (c := 0) c13i.1 (zq_0 t11) (by decide)) (Int.le_of_eq tl1.symm) (by decide)), (zu_e (zd_e (c := 0) (zq_0 t11.symm) c13i.2 (by decide)) (Int.le_of_eq tl60) (by decide))⟩ ⟨by decide, by decide⟩ ⟨by decide, by decide⟩ ⟨(zl_e (zd_e (c := 0) (zq_0 ko1_k2.symm) (zd_e (c := 0) (zq_0 kz24_k26.symm) (zq_0 ko28_k30.symm) (by decide)) (by decide)) q0.1 (by decide)), (zu_e (zd_e (c := 0) (zd_e (c := 0) (zq_0 ko28_k30) (zq_0 kz24_k26) (by decide)) (zq_0 ko1_k2) (by decide)) q0.2 (by decide))⟩ (zd_r (by decide)) (zme_u (l := 0) (Int.le_of_eq tz0.symm) (by decide))

