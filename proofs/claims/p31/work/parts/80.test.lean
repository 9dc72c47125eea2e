theorem i64_mul {x y : Int64} {a b : Int} (hx : x.toInt = a) (hy : y.toInt = b) (h1 : -9223372036854775808 ≤ a * b) (h2 : a * b ≤ 9223372036854775807) : (x * y).toInt = a * b := by
  rw [Int64.toInt_mul, hx, hy]
  exact Int.bmod_eq_of_le (by omega) (by omega)
theorem i64_rem {x y : Int64} {m : Int} (hy : y.toInt = m) (hm : 0 < m) (hx : 0 ≤ x.toInt) : 0 ≤ (x - x / y * y).toInt ∧ (x - x / y * y).toInt ≤ m - 1 := by
  have hr := i64_rg x
  have h1 : 0 ≤ x.toInt / m := Int.ediv_nonneg hx (by omega)
  have h2 : x.toInt / m * m ≤ x.toInt := Int.ediv_mul_le _ (by omega)
  have h2b : x.toInt / m ≤ x.toInt := Int.ediv_le_self _ hx
  have h3 : (x / y).toInt = x.toInt / m := by
    rw [Int64.toInt_div, hy, Int.tdiv_eq_ediv_of_nonneg hx]
    exact Int.bmod_eq_of_le (by omega) (by omega)
  have h0 : 0 ≤ x.toInt / m * m := Int.mul_nonneg h1 (by omega)
  have h4 : (x / y * y).toInt = x.toInt / m * m := i64_mul h3 hy (by omega) (by omega)
  have h5 : (x - x / y * y).toInt = x.toInt - x.toInt / m * m := i64_sub rfl h4 (by omega) (by omega)
  have h6 := Int.emod_nonneg x.toInt (show m ≠ 0 by omega)
  have h7 := Int.emod_lt_of_pos x.toInt hm
  have h8 : x.toInt % m = x.toInt - m * (x.toInt / m) := Int.emod_def _ _
  have h9 : m * (x.toInt / m) = x.toInt / m * m := Int.mul_comm _ _
  rw [h5]
  omega
theorem Kp.nil {o o' : Ob} : Kp [] [] [] o o' := ⟨fun _ h => absurd h List.not_mem_nil, fun _ h => absurd h List.not_mem_nil, fun _ h => absurd h List.not_mem_nil⟩
-- a law's code in the pool
theorem h9last {o : Ob} (h : IvX9 o) : EX9 (gA o 3) (gA o 4) (gA o 6) (gA o 9) ∧ (0 ≤ (gL o 60).toInt ∧ (gL o 60).toInt ≤ 1000002) := h.2.2.2.2.2.2.2.2.2.2.2.2.2.2.2.2.2.2.2.2.2.2.2
theorem ivX9_of {o o' : Ob} (h : IvX9 o) (hI : ∀ i, gI o' i = gI o i) (hL : gL o' 60 = gL o 60) (hA : ∀ i, i ≠ 3 → i ≠ 4 → gA o' i = gA o i) (s3 : sgd rowS (gA o' 3)) (hx : EX9 (gA o' 3) (gA o' 4) (gA o' 6) (gA o' 9)) : IvX9 o' := ⟨by rw [hI 8]; exact h.1, by rw [hI 13]; exact h.2.1, by rw [hI 14]; exact h.2.2.1, by rw [hI 15]; exact h.2.2.2.1, by rw [hI 16]; exact h.2.2.2.2.1, by rw [hI 19]; exact h.2.2.2.2.2.1, by rw [hI 20]; exact h.2.2.2.2.2.2.1, by rw [hI 21]; exact h.2.2.2.2.2.2.2.1, by rw [hI 23]; exact h.2.2.2.2.2.2.2.2.1, by rw [hI 26]; exact h.2.2.2.2.2.2.2.2.2.1, by rw [hI 29]; exact h.2.2.2.2.2.2.2.2.2.2.1, by rw [hI 30]; exact h.2.2.2.2.2.2.2.2.2.2.2.1, by rw [hI 38]; exact h.2.2.2.2.2.2.2.2.2.2.2.2.1, by rw [hI 43]; exact h.2.2.2.2.2.2.2.2.2.2.2.2.2.1, by rw [hI 59]; exact h.2.2.2.2.2.2.2.2.2.2.2.2.2.2.1, by rw [hI 62]; exact h.2.2.2.2.2.2.2.2.2.2.2.2.2.2.2.1, s3, by rw [hA 7 (by decide) (by decide)]; exact h.2.2.2.2.2.2.2.2.2.2.2.2.2.2.2.2.2.1, by rw [hA 10 (by decide) (by decide)]; exact h.2.2.2.2.2.2.2.2.2.2.2.2.2.2.2.2.2.2.1, by rw [hA 42 (by decide) (by decide)]; exact h.2.2.2.2.2.2.2.2.2.2.2.2.2.2.2.2.2.2.2.1, by rw [hA 48 (by decide) (by decide)]; exact h.2.2.2.2.2.2.2.2.2.2.2.2.2.2.2.2.2.2.2.2.1, by rw [hA 50 (by decide) (by decide)]; exact h.2.2.2.2.2.2.2.2.2.2.2.2.2.2.2.2.2.2.2.2.2.1, by rw [hA 51 (by decide) (by decide)]; exact h.2.2.2.2.2.2.2.2.2.2.2.2.2.2.2.2.2.2.2.2.2.2.1, hx, by rw [hL]; exact (h9last h).2⟩
theorem CW_eq {op arg op' arg' : Nat → Int32} {a b : Nat} (e : ∀ k, k < b → op' k = op k ∧ arg' k = arg k) (h : CW op arg a b) : CW op' arg' a b := by
  obtain ⟨t, h0, h1⟩ := h
  refine ⟨t, h0, fun k hk hb => ?_⟩
  have c := h1 k hk hb
  unfold CS at c ⊢
  rw [(e k hb).1, (e k hb).2]
  exact c
theorem WL_eqb {g g' : Nat → Int32} {s : Nat} (e : ∀ j, s ≤ j → j < s + 900 → g' j = g j) (h : WL g s) : WL g' s := by
  have e1 : g' (s + 1) = g (s + 1) := e _ (by omega) (by omega)
  refine ⟨by rw [e1]; exact h.1, fun c hc => ?_⟩
  rw [e1] at hc
  have h12 := h.1.2
  obtain ⟨a, b, d, hab, hbd, hd, q3, q4, q5, q6, w1, w2⟩ := h.2 c hc
  have eq : ∀ i : Nat, i ≤ 8 → g' (s + 2 + 8 * c + i) = g (s + 2 + 8 * c + i) := fun i hi => e _ (by omega) (by omega)
  refine ⟨a, b, d, hab, hbd, hd, ?_, ?_, ?_, ?_, ?_, ?_⟩
  · show (g' (s + 2 + 8 * c + 3)).toInt = _
    rw [eq 3 (by omega)]; exact q3
  · show (g' (s + 2 + 8 * c + 4)).toInt = _
    rw [eq 4 (by omega)]; exact q4
  · show (g' (s + 2 + 8 * c + 5)).toInt = _
    rw [eq 5 (by omega)]; exact q5
  · show (g' (s + 2 + 8 * c + 6)).toInt = _
    rw [eq 6 (by omega)]; exact q6
  · exact CW_eq (fun k hk => ⟨e _ (by omega) (by omega), e _ (by omega) (by omega)⟩) w1
  · exact CW_eq (fun k hk => ⟨e _ (by omega) (by omega), e _ (by omega) (by omega)⟩) w2
theorem rowS_lt : ∀ s ∈ rowS, s.2.1 < 84 := by decide
theorem EX9.img {row img img' und unb : Nat → Int32} {k : Nat} (h : EX9 row img und unb) (hr : sgd rowS row) (e1 : ∀ i, i < 5484 → img' (5484 * k + i) = row i) (e2 : ∀ j, j < 5484 * k ∨ 5484 * k + 5484 ≤ j → img' j = img j) : EX9 row img' und unb := by
  refine ⟨h.1, fun m hm => ?_, h.2.2⟩
  by_cases e : m = k
  · subst e
    refine ⟨fun l hl => WL_eqb (fun j hj hj2 => e1 j (by omega)) (h.1 l hl), fun j hj => ?_⟩
    rw [e1 j (by omega)]; exact sgd_pw.mp hr j
  · have h2 := h.2.1 m hm
    refine ⟨fun l hl => WL_eqb (fun j hj hj2 => e2 _ (by omega)) (h2.1 l hl), fun j hj => ?_⟩
    rw [e2 _ (by omega)]; exact h2.2 j hj
theorem EX9.bck {row row' img und unb : Nat → Int32} {k : Nat} (hk : k < 2) (h : EX9 row img und unb) (e1 : ∀ i, i < 5484 → row' i = img (5484 * k + i)) : EX9 row' img und unb ∧ sgd rowS row' := by
  have h2 := h.2.1 k hk
  refine ⟨⟨fun l hl => WL_eqb (g := fun i => img (5484 * k + i)) (fun j hj hj2 => e1 j (by omega)) (h2.1 l hl), h.2⟩, sgd_pw.mpr (fun j s hs g1 g2 => ?_)⟩
  have h3 := rowS_lt s hs
  rw [e1 j (by omega)]
  exact h2.2 j (by omega) s hs g1 g2
set_option maxHeartbeats 4000000 in
set_option maxRecDepth 100000 in
theorem ts_X9_within (p0 : Int64) (p1 : Int32) (p2 : Int32)  (r0 : p1.toInt ≤ p2.toInt + 0) : wp (f_X9_within   p0 p1 p2) (fun (y : Int32) => (y.toInt ≤ p2.toInt + 0) ∧ (p1.toInt ≤ y.toInt + 0)) := by
  unfold f_X9_within
  have e1 := Int32.toInt_toInt64 p1
  have e2 := Int32.toInt_toInt64 p2
  refine wp_if (fun c => ?_) (fun c => ?_)
  · have c := cvl_ge (a := p0.toInt) (b := p1.toInt64.toInt) rfl rfl c
    refine wp_if (fun d => ?_) (fun d => ?_)
    · have d := cvl_le (a := p0.toInt) (b := p2.toInt64.toInt) rfl rfl d
      have r1 := i32_rg p1
      have r2 := i32_rg p2
      have t := l2i_eq (x := p0) (by omega) (by omega)
      exact wp_some ⟨by omega, by omega⟩
    · exact wp_some ⟨by omega, by omega⟩
  · exact wp_some ⟨by omega, by omega⟩
set_option maxHeartbeats 4000000 in
set_option maxRecDepth 100000 in
theorem ts_X9_draw (o_me : Ob) (p0 : Int32) (hI_me : IvX9 o_me) (q0 : 1 ≤ p0.toInt ∧ p0.toInt ≤ 7) : wp (f_X9_draw   o_me p0) (fun (y : Int32 × Ob) => (0 ≤ y.1.toInt ∧ y.1.toInt ≤ 6) ∧ IvX9 y.2 ∧ Kp [8, 13, 14, 15, 16, 19, 20, 21, 23, 26, 29, 30, 34, 38, 43, 59, 62] [3, 7, 10, 12, 22, 24, 25, 27, 28, 42, 48, 50, 51, 55] [(3, (0 : Int32))] o_me y.2 ∧ (y.1.toInt ≤ p0.toInt + (-1))) := by
  unfold f_X9_draw
  have hs := (h9last hI_me).2
  have m1 : ((gL o_me 60) * (1103 : Int64)).toInt = (gL o_me 60).toInt * 1103 := i64_mul rfl (by decide) (by omega) (by omega)
  have m2 : (((gL o_me 60) * (1103 : Int64)) + (12345 : Int64)).toInt = (gL o_me 60).toInt * 1103 + 12345 := i64_add m1 (by decide) (by omega) (by omega)
  have m3 := i64_rem (x := ((gL o_me 60) * (1103 : Int64)) + (12345 : Int64)) (y := 1000003) (m := 1000003) (by decide) (by decide) (by omega)
  refine wp_lt (fun o1 e1 => ?_)
  have hI1 : IvX9 o1 := by rw [e1]; exact ilX9_60 hI_me ⟨m3.1, by omega⟩
  have hK1 : Kp [8, 13, 14, 15, 16, 19, 20, 21, 23, 26, 29, 30, 34, 38, 43, 59, 62] [3, 7, 10, 12, 22, 24, 25, 27, 28, 42, 48, 50, 51, 55] [(3, (0 : Int32))] o_me o1 := by rw [e1]; exact Kp.sL
  have h1 := (h9last hI1).2
  have ep := Int32.toInt_toInt64 p0
  refine wp_gd (decide_eq_true (fun e9 => by have e8 := congrArg Int64.toInt e9; have e7 : (0 : Int64).toInt = 0 := (by decide); omega)) ?_
  have m4 := i64_rem (x := gL o1 60) (y := p0.toInt64) (m := p0.toInt) ep (by omega) h1.1
  have t := l2i_eq (x := (gL o1 60) - (gL o1 60) / p0.toInt64 * p0.toInt64) (by omega) (by omega)
  exact wp_some ⟨⟨by omega, by omega⟩, hI1, hK1, by omega⟩
set_option maxHeartbeats 4000000 in
set_option maxRecDepth 100000 in
theorem ts_X5_set_O (o_me : Ob) (o_a0 : Ob) (hI_me : IvX5 o_me) (hI_a0 : IvX5 o_a0)  : wp (f_X5_set_O   o_me o_a0) (fun (y : Ob) => IvX5 y ∧ Kp [] [] [] o_me y) := by
  unfold f_X5_set_O
  refine wp_lt (fun o1 e1 => ?_)
  refine wp_lt (fun o2 e2 => ?_)
  refine wp_gd (by decide) ?_
  refine wp_lt (fun o4 e4 => ?_)
  refine wp_gd (by decide) ?_
  refine wp_lt (fun o6 e6 => ?_)
  refine wp_some ⟨?_, Kp.nil⟩
  subst e6 e4 e2 e1
  refine ⟨hI_a0.1, hI_a0.2.1, fun k j hk hj => ?_⟩
  have n0 : (0 : Int32).toNatClampNeg = 0 := by decide
  have n2 : (272 : Int32).toNatClampNeg = 272 := by decide
  show 0 ≤ (va_cpy (gA o_a0 1) (gA o_me 1) (0 : Int32).toNatClampNeg (0 : Int32).toNatClampNeg (272 : Int32).toNatClampNeg (17 * k + j)).toInt ∧ (va_cpy (gA o_a0 1) (gA o_me 1) (0 : Int32).toNatClampNeg (0 : Int32).toNatClampNeg (272 : Int32).toNatClampNeg (17 * k + j)).toInt ≤ 9
  rw [n0, n2]
  unfold va_cpy
  rw [if_pos ⟨Nat.zero_le _, by omega⟩]
  have e : 0 + (17 * k + j - 0) = 17 * k + j := by omega
  rw [e]
  exact hI_a0.2.2 k j hk hj
theorem AHok.up {g : Nat → Int32} {i : Nat} {v : Int32} (h : AHok g) (hi : ∀ k j : Nat, k < 16 → j < 7 → 17 * k + j ≠ i) : AHok (upd g i v) := by
  intro k j hk hj
  have e : upd g i v (17 * k + j) = g (17 * k + j) := if_neg (hi k j hk hj)
  rw [e]; exact h k j hk hj
theorem h_writeTo (oa o3 : Ob) (x : Int32) (h0 : 0 ≤ x.toInt) (h1 : x.toInt ≤ 15) (ha : IvX4 oa) (hg : AHok (gA o3 1)) : wp (f_X4_writeTo_AX5_1 oa o3 (x * (17 : Int32))) (fun y => AHok (gA y 1) ∧ gI y 2 = gI o3 2 ∧ gI y 3 = gI o3 3) := by
  have t : (x * (17 : Int32)).toInt = x.toInt * 17 := i32_mul rfl (by decide) (by omega) (by omega)
  generalize x * (17 : Int32) = q at t
  have t7 : (q + (7 : Int32)).toInt = q.toInt + 7 := i32_add rfl (by decide) (by omega) (by omega)
  have t17 : (q + (17 : Int32)).toInt = q.toInt + 17 := i32_add rfl (by decide) (by omega) (by omega)
  have u3 : ((q + (17 : Int32)) - (3 : Int32)).toInt = q.toInt + 17 - 3 := i32_sub t17 (by decide) (by omega) (by omega)
  have u2 : ((q + (17 : Int32)) - (2 : Int32)).toInt = q.toInt + 17 - 2 := i32_sub t17 (by decide) (by omega) (by omega)
  have u1 : ((q + (17 : Int32)) - (1 : Int32)).toInt = q.toInt + 17 - 1 := i32_sub t17 (by decide) (by omega) (by omega)
  obtain ⟨n, en⟩ : ∃ n : Nat, x.toInt = (n : Int) := ⟨x.toInt.toNat, by omega⟩
  have eq : q.toNatClampNeg = 17 * n := tnc_eq (by omega)
  have e7 : (q + (7 : Int32)).toNatClampNeg = 17 * n + 7 := tnc_eq (by omega)
  have f3 : ((q + (17 : Int32)) - (3 : Int32)).toNatClampNeg = 17 * n + 14 := tnc_eq (by omega)
  have f2 : ((q + (17 : Int32)) - (2 : Int32)).toNatClampNeg = 17 * n + 15 := tnc_eq (by omega)
  have f1 : ((q + (17 : Int32)) - (1 : Int32)).toNatClampNeg = 17 * n + 16 := tnc_eq (by omega)
  have n0 : (0 : Int32).toNatClampNeg = 0 := by decide
  have n7 : (7 : Int32).toNatClampNeg = 7 := by decide
  have z0 : (0 : Int32).toInt = 0 := by decide
  have z7 : (7 : Int32).toInt = 7 := by decide
  unfold f_X4_writeTo_AX5_1
  refine wp_if (fun c => ?_) (fun c => ?_)
  · exfalso; have c := cv_lt (a := q.toInt) (b := 0) rfl (by decide) c; omega
  refine wp_if (fun c => ?_) (fun c => ?_)
  swap
  · exfalso; have c := cv_nle (a := q.toInt) (b := 255) rfl (by decide) c; omega
  refine wp_gd (zcp_of (m0 := 7) (m1 := 272) rfl rfl (by omega) (by omega) (by omega) (by omega) (by omega)) ?_
  refine wp_lt (fun o2 e2 => ?_)
  have g2 : AHok (gA o2 1) := by
    intro k j hk hj
    rw [e2]
    show 0 ≤ (va_cpy (gA oa 0) (gA o3 1) (0 : Int32).toNatClampNeg q.toNatClampNeg (7 : Int32).toNatClampNeg (17 * k + j)).toInt ∧ (va_cpy (gA oa 0) (gA o3 1) (0 : Int32).toNatClampNeg q.toNatClampNeg (7 : Int32).toNatClampNeg (17 * k + j)).toInt ≤ 9
    rw [n0, n7, eq]
    unfold va_cpy
    split
    · exact ha.1.1 _ (Nat.zero_le _) (by omega)
    · exact hg k j hk hj
  have i2 : gI o2 2 = gI o3 2 ∧ gI o2 3 = gI o3 3 := by rw [e2]; exact ⟨rfl, rfl⟩
  refine wp_gd (zcp_of (m0 := 7) (m1 := 272) rfl rfl (by omega) (by omega) (by omega) (by omega) (by omega)) ?_
  refine wp_lt (fun o4 e4 => ?_)
  have g4 : AHok (gA o4 1) := by
    intro k j hk hj
    rw [e4]
    show 0 ≤ (va_cpy (gA oa 1) (gA o2 1) (0 : Int32).toNatClampNeg (q + (7 : Int32)).toNatClampNeg (7 : Int32).toNatClampNeg (17 * k + j)).toInt ∧ (va_cpy (gA oa 1) (gA o2 1) (0 : Int32).toNatClampNeg (q + (7 : Int32)).toNatClampNeg (7 : Int32).toNatClampNeg (17 * k + j)).toInt ≤ 9
    rw [n0, n7, e7]
    unfold va_cpy
    rw [if_neg (by omega)]
    exact g2 k j hk hj
  have i4 : gI o4 2 = gI o3 2 ∧ gI o4 3 = gI o3 3 := by rw [e4]; exact i2
  refine wp_gd (zin_of (m := 272) rfl (by omega) (by omega)) ?_
  refine wp_lt (fun o6 e6 => ?_)
  have g6 : AHok (gA o6 1) := by rw [e6]; exact g4.up (fun k j hk hj => by rw [f3]; omega)
  have i6 : gI o6 2 = gI o3 2 ∧ gI o6 3 = gI o3 3 := by rw [e6]; exact i4
  refine wp_gd (zin_of (m := 272) rfl (by omega) (by omega)) ?_
  refine wp_lt (fun o8 e8 => ?_)
  have g8 : AHok (gA o8 1) := by rw [e8]; exact g6.up (fun k j hk hj => by rw [f2]; omega)
  have i8 : gI o8 2 = gI o3 2 ∧ gI o8 3 = gI o3 3 := by rw [e8]; exact i6
  refine wp_gd (zin_of (m := 272) rfl (by omega) (by omega)) ?_
  refine wp_lt (fun o10 e10 => ?_)
  refine wp_some ⟨by rw [e10]; exact g8.up (fun k j hk hj => by rw [f1]; omega), by rw [e10]; exact i8.1, by rw [e10]; exact i8.2⟩
theorem h_keep32 (oa o : Ob) (v1 : Int32) (ha : IvX4 oa) (hI : IvX5 o) (hs : (gI o 3).toInt ≤ 15) : wp (bk_X5_keep_O_32 oa v1 o) (fun y => IvX5 y) := by
  have h2 := hI.1
  have h3 := hI.2.1
  unfold bk_X5_keep_O_32
  have t : ((gI o 2) + (gI o 3)).toInt = (gI o 2).toInt + (gI o 3).toInt := i32_add rfl rfl (by omega) (by omega)
  have r := i32_rem (x := (gI o 2) + (gI o 3)) (y := 16) (m := 16) (by decide) (by decide) (by omega)
  refine wp_lt (fun x1 e1 => ?_)
  rw [← e1] at r
  refine wp_gd (zin_of (m := 16) rfl (by omega) (by omega)) ?_
  refine wp_lt (fun o3 e3 => ?_)
  have g3 : AHok (gA o3 1) := by rw [e3]; exact hI.2.2
  have i3 : gI o3 2 = gI o 2 ∧ gI o3 3 = gI o 3 := by rw [e3]; exact ⟨rfl, rfl⟩
  refine wp_bd (h_writeTo oa o3 x1 r.1 (by omega) ha g3) (fun z hz => ?_)
  refine wp_lt (fun o5 e5 => ?_)
  have k2 : gI z 2 = gI o 2 := hz.2.1.trans i3.1
  have k3 : gI z 3 = gI o 3 := hz.2.2.trans i3.2
  have t5 : ((gI z 3) + (1 : Int32)).toInt = (gI o 3).toInt + 1 := i32_add (by rw [k3]) (by decide) (by omega) (by omega)
  refine wp_some ?_
  rw [e5]
  refine ⟨?_, ?_, hz.1⟩
  · show 0 ≤ (gI z 2).toInt ∧ (gI z 2).toInt ≤ 15
    rw [k2]; exact h2
  · show 0 ≤ ((gI z 3) + (1 : Int32)).toInt ∧ ((gI z 3) + (1 : Int32)).toInt ≤ 16
    omega
set_option maxHeartbeats 4000000 in
set_option maxRecDepth 100000 in
theorem ts_X5_keep_O (o_me : Ob) (o_a1 : Ob) (p0 : Int32) (hI_me : IvX5 o_me) (hI_a1 : IvX4 o_a1)  : wp (f_X5_keep_O   o_me o_a1 p0) (fun (y : Ob) => IvX5 y ∧ Kp [] [] [] o_me y) := by
  have h2 := hI_me.1
  have h3 := hI_me.2.1
  unfold f_X5_keep_O
  refine wp_if (fun c => ?_) (fun c => ?_)
  · have c := cv_eq (a := (gI o_me 3).toInt) (b := 16) rfl (by decide) c
    have t : ((gI o_me 2) + (1 : Int32)).toInt = (gI o_me 2).toInt + 1 := i32_add rfl (by decide) (by omega) (by omega)
    have r := i32_rem (x := (gI o_me 2) + (1 : Int32)) (y := 16) (m := 16) (by decide) (by decide) (by omega)
    refine wp_lt (fun o6 e6 => ?_)
    refine wp_lt (fun o7 e7 => ?_)
    have k3 : gI o6 3 = gI o_me 3 := by rw [e6]; rfl
    have t7 : ((gI o6 3) - (1 : Int32)).toInt = (gI o_me 3).toInt - 1 := i32_sub (by rw [k3]) (by decide) (by omega) (by omega)
    have q3 : (gI o7 3).toInt = (gI o_me 3).toInt - 1 := by rw [e7]; exact t7
    have q2 : 0 ≤ (gI o7 2).toInt ∧ (gI o7 2).toInt ≤ 15 := by
      rw [e7, e6]
      exact ⟨r.1, by have r2 := r.2; exact r2⟩
    have hI7 : IvX5 o7 := ⟨q2, ⟨by omega, by omega⟩, by rw [e7, e6]; exact hI_me.2.2⟩
    exact wp_mono (h_keep32 o_a1 o7 p0 hI_a1 hI7 (by omega)) (fun y hy => ⟨hy, Kp.nil⟩)
  · have c := cv_ne (a := (gI o_me 3).toInt) (b := 16) rfl (by decide) c
    exact wp_mono (h_keep32 o_a1 o_me p0 hI_a1 hI_me (by omega)) (fun y hy => ⟨hy, Kp.nil⟩)
theorem h_readFrom (oa o3 : Ob) (x : Int32) (h0 : 0 ≤ x.toInt) (h1 : x.toInt ≤ 15) (ha : IvX4 oa) (hg : AHok (gA o3 1)) : wp (f_X4_readFrom_AX5_1 oa o3 (x * (17 : Int32))) (fun y => IvX4 y) := by
  have t : (x * (17 : Int32)).toInt = x.toInt * 17 := i32_mul rfl (by decide) (by omega) (by omega)
  generalize x * (17 : Int32) = q at t
  have t7 : (q + (7 : Int32)).toInt = q.toInt + 7 := i32_add rfl (by decide) (by omega) (by omega)
  have t17 : (q + (17 : Int32)).toInt = q.toInt + 17 := i32_add rfl (by decide) (by omega) (by omega)
  have u3 : ((q + (17 : Int32)) - (3 : Int32)).toInt = q.toInt + 17 - 3 := i32_sub t17 (by decide) (by omega) (by omega)
  have u2 : ((q + (17 : Int32)) - (2 : Int32)).toInt = q.toInt + 17 - 2 := i32_sub t17 (by decide) (by omega) (by omega)
  have u1 : ((q + (17 : Int32)) - (1 : Int32)).toInt = q.toInt + 17 - 1 := i32_sub t17 (by decide) (by omega) (by omega)
  obtain ⟨n, en⟩ : ∃ n : Nat, x.toInt = (n : Int) := ⟨x.toInt.toNat, by omega⟩
  have eq : q.toNatClampNeg = 17 * n := tnc_eq (by omega)
  have n0 : (0 : Int32).toNatClampNeg = 0 := by decide
  have n7 : (7 : Int32).toNatClampNeg = 7 := by decide
  have z0 : (0 : Int32).toInt = 0 := by decide
  have z7 : (7 : Int32).toInt = 7 := by decide
  unfold f_X4_readFrom_AX5_1
  refine wp_if (fun c => wp_some ha) (fun c => ?_)
  refine wp_if (fun c => ?_) (fun c => wp_some ha)
  have c := cv_le (a := q.toInt) (b := 255) rfl (by decide) c
  refine wp_gd (zcp_of (m0 := 272) (m1 := 7) rfl rfl (by omega) (by omega) (by omega) (by omega) (by omega)) ?_
  refine wp_lt (fun o2 e2 => ?_)
  have g2 : IvX4 o2 := by
    rw [e2]
    refine ⟨⟨fun j _ hj => ?_, trivial⟩, trivial⟩
    show 0 ≤ (va_cpy (gA o3 1) (gA oa 0) q.toNatClampNeg (0 : Int32).toNatClampNeg (7 : Int32).toNatClampNeg j).toInt ∧ (va_cpy (gA o3 1) (gA oa 0) q.toNatClampNeg (0 : Int32).toNatClampNeg (7 : Int32).toNatClampNeg j).toInt ≤ 9
    rw [n0, n7, eq]
    unfold va_cpy
    rw [if_pos ⟨Nat.zero_le _, by omega⟩]
    have e : 17 * n + (j - 0) = 17 * n + j := by omega
    rw [e]
    exact hg n j (by omega) (by omega)
  refine wp_gd (zcp_of (m0 := 272) (m1 := 7) rfl rfl (by omega) (by omega) (by omega) (by omega) (by omega)) ?_
  refine wp_lt (fun o4 e4 => ?_)
  have g4 : IvX4 o4 := by rw [e4]; exact g2
  refine wp_gd (zin_of (m := 272) rfl (by omega) (by omega)) ?_
  refine wp_lt (fun o6 e6 => ?_)
  refine wp_gd (zin_of (m := 272) rfl (by omega) (by omega)) ?_
  refine wp_lt (fun o8 e8 => ?_)
  refine wp_gd (zin_of (m := 272) rfl (by omega) (by omega)) ?_
  refine wp_lt (fun o10 e10 => ?_)
  exact wp_some (by rw [e10, e8, e6]; exact g4)
set_option maxHeartbeats 4000000 in
set_option maxRecDepth 100000 in
theorem ts_X5_bringBack_O (o_me : Ob) (o_a0 : Ob) (hI_me : IvX5 o_me) (hI_a0 : IvX4 o_a0)  : wp (f_X5_bringBack_O   o_me o_a0) (fun (y : Int32 × Ob × Ob) => IvX5 y.2.1 ∧ Kp [2] [] [] o_me y.2.1 ∧ IvX4 y.2.2 ∧ Kp [] [] [] o_a0 y.2.2) := by
  have h2 := hI_me.1
  have h3 := hI_me.2.1
  unfold f_X5_bringBack_O
  refine wp_if (fun c => wp_some ⟨hI_me, Kp.rf, hI_a0, Kp.rf⟩) (fun c => ?_)
  have c := cv_ne (a := (gI o_me 3).toInt) (b := 0) rfl (by decide) c
  have t1 : ((gI o_me 3) - (1 : Int32)).toInt = (gI o_me 3).toInt - 1 := i32_sub rfl (by decide) (by omega) (by omega)
  refine wp_lt (fun o1 e1 => ?_)
  have k2 : gI o1 2 = gI o_me 2 := by rw [e1]; rfl
  have k3 : (gI o1 3).toInt = (gI o_me 3).toInt - 1 := by rw [e1]; exact t1
  have hI1 : IvX5 o1 := ⟨by rw [k2]; exact h2, ⟨by omega, by omega⟩, by rw [e1]; exact hI_me.2.2⟩
  have t : ((gI o1 2) + (gI o1 3)).toInt = (gI o_me 2).toInt + ((gI o_me 3).toInt - 1) := i32_add (by rw [k2]) k3 (by omega) (by omega)
  have r := i32_rem (x := (gI o1 2) + (gI o1 3)) (y := 16) (m := 16) (by decide) (by decide) (by omega)
  refine wp_lt (fun x2 ex => ?_)
  rw [← ex] at r
  refine wp_bd (h_readFrom o_a0 o1 x2 r.1 (by omega) hI_a0 hI1.2.2) (fun z hz => ?_)
  refine wp_gd (zin_of (m := 16) rfl (by omega) (by omega)) ?_
  exact wp_some ⟨hI1, by rw [e1]; exact Kp.sI (by decide), hz, Kp.nil⟩
-- the texts' lengths and letters
set_option maxRecDepth 100000 in
theorem tx_len : ∀ p, p < 9 → f_J0_length_8abf5 p = some (Int32.ofNat (lnS.getD p 0)) := by decide +kernel
set_option maxRecDepth 100000 in
theorem tx_chr : ∀ p, p < 9 → ∀ k, k < lnS.getD p 0 → f_J0_charAt_5068e p (Int32.ofNat k) = some ((btS.getD p []).getD k 0) := by decide +kernel
set_option maxRecDepth 100000 in
theorem ln_le : ∀ p, p < 9 → lnS.getD p 0 ≤ 100 := by decide +kernel
theorem h_isSame (o : Ob) (p : Nat) (hp : p < 9) (v2 v4 : Int32) (h7 : 0 ≤ (gI o 7).toInt) (g2 : 0 ≤ v2.toInt) (g3 : v2.toInt + v4.toInt ≤ (lnS.getD p 0 : Int)) (g4 : (gI o 7).toInt + v4.toInt ≤ 400) :
    ∀ (N : Nat) (v5 : Int32), 0 ≤ v5.toInt → (v4.toInt - v5.toInt).toNat < N → wp (lp_X6_isSame_53 o N (p, v2, v4, v5)) (fun y => 0 ≤ y.toInt ∧ y.toInt ≤ 1) := by
  have hl := ln_le p hp
  intro N
  induction N with
  | zero => intro v5 _ hN; exact absurd hN (Nat.not_lt_zero _)
  | succ N ih =>
    intro v5 h5 hN
    show wp (lb_X6_isSame_53 o (lp_X6_isSame_53 o N) p v2 v4 v5) _
    unfold lb_X6_isSame_53
    refine wp_if (fun c => wp_some ⟨by decide, by decide⟩) (fun c => ?_)
    have c := cv_nle (a := v4.toInt) (b := v5.toInt) rfl rfl c
    have r7 := i32_rg (gI o 7)
    have t1 : ((gI o 7) + v5).toInt = (gI o 7).toInt + v5.toInt := i32_add rfl rfl (by omega) (by omega)
    have t2 : (v2 + v5).toInt = v2.toInt + v5.toInt := i32_add rfl rfl (by omega) (by omega)
    refine wp_gd (zin_of (m := 400) rfl (by omega) (by omega)) ?_
    refine wp_gd (decide_eq_true hp) ?_
    have ek : v2 + v5 = Int32.ofNat (v2.toInt + v5.toInt).toNat := by
      refine Int32.toInt_inj.mp ?_
      rw [Int32.toInt_ofNat_of_lt (by omega), t2]
      omega
    refine wp_bd (Q := fun _ => True) ⟨_, by rw [ek]; exact tx_chr p hp _ (by omega), trivial⟩ (fun z _ => ?_)
    refine wp_if (fun c2 => ?_) (fun c2 => wp_some ⟨by decide, by decide⟩)
    refine wp_lt (fun x7 e7 => ?_)
    have t7 : x7.toInt = v5.toInt + 1 := by rw [e7]; exact i32_add rfl (by decide) (by omega) (by omega)
    exact ih x7 (by omega) (by omega)
set_option maxHeartbeats 4000000 in
set_option maxRecDepth 100000 in
theorem ts_X6_isSame (o_me : Ob) (p0 : Nat) (p1 : Int32) (p2 : Int32) (hI_me : IvX6 o_me) (h_p0 : p0 < 9) (q0 : 0 ≤ p1.toInt ∧ p1.toInt ≤ 101) (q1 : 0 ≤ p2.toInt ∧ p2.toInt ≤ 101) : wp (f_X6_isSame   o_me p0 p1 p2) (fun (y : Int32) => (0 ≤ y.toInt ∧ y.toInt ≤ 1)) := by
  have hl := ln_le p0 h_p0
  have b7 := igX6_7 hI_me
  have b8 := igX6_8 hI_me
  unfold f_X6_isSame
  refine wp_lt (fun x1 e1 => ?_)
  have t1 : x1.toInt = p2.toInt - p1.toInt := by rw [e1]; exact i32_sub rfl rfl (by omega) (by omega)
  refine wp_if (fun c => wp_some ⟨by decide, by decide⟩) (fun c => ?_)
  refine wp_gd (decide_eq_true h_p0) ?_
  refine wp_bd (Q := fun z => z = Int32.ofNat (lnS.getD p0 0)) ⟨_, tx_len p0 h_p0, rfl⟩ (fun z2 hz2 => ?_)
  have tz : z2.toInt = (lnS.getD p0 0 : Int) := by rw [hz2]; exact Int32.toInt_ofNat_of_lt (by omega)
  refine wp_if (fun c => wp_some ⟨by decide, by decide⟩) (fun c2 => ?_)
  have c2 := cv_nlt (a := z2.toInt) (b := p2.toInt) rfl rfl c2
  refine wp_if (fun c3 => ?_) (fun c3 => wp_some ⟨by decide, by decide⟩)
  have t3 : ((gI o_me 8) - (gI o_me 7)).toInt = (gI o_me 8).toInt - (gI o_me 7).toInt := i32_sub rfl rfl (by omega) (by omega)
  have c3 := cv_eq (a := x1.toInt) (b := (gI o_me 8).toInt - (gI o_me 7).toInt) rfl t3 c3
  refine wp_if (fun c4 => wp_some ⟨by decide, by decide⟩) (fun c4 => ?_)
  refine wp_if (fun c5 => ?_) (fun c5 => wp_some ⟨by decide, by decide⟩)
  have c5 := cv_le (a := (gI o_me 8).toInt) (b := 400) rfl (by decide) c5
  have z0 : (0 : Int32).toInt = 0 := by decide
  exact h_isSame o_me p0 h_p0 p1 x1 (by omega) (by omega) (by omega) (by omega) zfu 0 (by omega) (by show _ < 100000; omega)
theorem h_wordOf (o : Ob) (hI : IvX6 o) (p : Nat) (hp : p < 9) :
    ∀ (N : Nat) (v2 v3 v4 : Int32), 0 ≤ v3.toInt → v3.toInt ≤ v4.toInt → v4.toInt ≤ (lnS.getD p 0 : Int) + 1 → ((lnS.getD p 0 : Int) + 1 - v4.toInt).toNat < N → wp (lp_X6_wordOf_17 o N (p, v2, v3, v4)) (fun _ => True) := by
  have hl := ln_le p hp
  intro N
  induction N with
  | zero => intro v2 v3 v4 _ _ _ hN; exact absurd hN (Nat.not_lt_zero _)
  | succ N ih =>
    intro v2 v3 v4 h3 h34 h4 hN
    show wp (lb_X6_wordOf_17 o (lp_X6_wordOf_17 o N) p v2 v3 v4) _
    unfold lb_X6_wordOf_17
    refine wp_gd (decide_eq_true hp) ?_
    refine wp_bd (Q := fun z => z = Int32.ofNat (lnS.getD p 0)) ⟨_, tx_len p hp, rfl⟩ (fun z1 hz1 => ?_)
    have tz : z1.toInt = (lnS.getD p 0 : Int) := by rw [hz1]; exact Int32.toInt_ofNat_of_lt (by omega)
    refine wp_if (fun c => wp_some trivial) (fun c => ?_)
    have c := cv_nlt (a := z1.toInt) (b := v4.toInt) rfl rfl c
    have h67 : ∀ w2 w3 : Int32, 0 ≤ w3.toInt → w3.toInt ≤ v4.toInt + 1 → wp (bk_X6_wordOf_67 o (lp_X6_wordOf_17 o N) p w2 w3 v4) (fun _ => True) := by
      intro w2 w3 g3 g4
      unfold bk_X6_wordOf_67
      refine wp_lt (fun x8 e8 => ?_)
      have t8 : x8.toInt = v4.toInt + 1 := by rw [e8]; exact i32_add rfl (by decide) (by omega) (by omega)
      exact ih w2 w3 x8 g3 (by omega) (by omega) (by omega)
    have h46 : wp (bk_X6_wordOf_46 o (lp_X6_wordOf_17 o N) p v2 v3 v4) (fun _ => True) := by
      unfold bk_X6_wordOf_46
      refine wp_bd (s_X6_isSame o p v3 v4 hI hp ⟨by omega, by omega⟩ ⟨by omega, by omega⟩) (fun z5 _ => ?_)
      refine wp_if (fun c => ?_) (fun c => wp_some trivial)
      refine wp_lt (fun x6 _ => ?_)
      refine wp_lt (fun x7 e7 => ?_)
      have t7 : x7.toInt = v4.toInt + 1 := by rw [e7]; exact i32_add rfl (by decide) (by omega) (by omega)
      exact h67 x6 x7 (by omega) (by omega)
    refine wp_gd (decide_eq_true hp) ?_
    refine wp_bd (Q := fun z => z = Int32.ofNat (lnS.getD p 0)) ⟨_, tx_len p hp, rfl⟩ (fun z3 hz3 => ?_)
    have tz3 : z3.toInt = (lnS.getD p 0 : Int) := by rw [hz3]; exact Int32.toInt_ofNat_of_lt (by omega)
    refine wp_if (fun c => h46) (fun c2 => ?_)
    have c2 := cv_ne (a := v4.toInt) (b := z3.toInt) rfl rfl c2
    refine wp_gd (decide_eq_true hp) ?_
    have ek : v4 = Int32.ofNat v4.toInt.toNat := by
      refine Int32.toInt_inj.mp ?_
      rw [Int32.toInt_ofNat_of_lt (by omega)]
      omega
    refine wp_bd (Q := fun _ => True) ⟨_, (congrArg (f_J0_charAt_5068e p) ek).trans (tx_chr p hp _ (by omega)), trivial⟩ (fun z9 _ => ?_)
    refine wp_if (fun c => h46) (fun c => h67 v2 v3 h3 (by omega))
set_option maxHeartbeats 4000000 in
set_option maxRecDepth 100000 in
theorem ts_X6_wordOf (o_me : Ob) (p0 : Nat) (hI_me : IvX6 o_me) (h_p0 : p0 < 9)  : wp (f_X6_wordOf   o_me p0) (fun (y : Int32) => True) := by
  have hl := ln_le p0 h_p0
  unfold f_X6_wordOf
  refine wp_if (fun c => ?_) (fun c => wp_some trivial)
  have z0 : (0 : Int32).toInt = 0 := by decide
  exact h_wordOf o_me hI_me p0 h_p0 zfu 0 0 0 (by omega) (by omega) (by omega) (by show _ < 100000; omega)
-- reckoning: what is left to do at one place of the code
theorem h_r350 {rec : Int32 × Int32 × Int32 × Ob → Option Ob} {v2 v3 v4 : Int32} {o : Ob} {P : Ob → Prop} (h : wp (rec (v2, v3, v4, o)) P) : wp (bk_X9_reckonAll_350 rec v2 v3 v4 o) P := h
theorem h_r95 (op arg : Nat → Int32) (a b k : Nat) (hb : b ≤ 400) (h : Nat → Nat) (o0 : Ob) (P : Ob → Prop) (rec : Int32 × Int32 × Int32 × Ob → Option Ob) (v2 v3 v4 : Int32) (o : Ob)
    (hak : a ≤ k) (hkb : k < b) (hcs : CS op arg h b k) (hI : IvX9 o) (hK : Kp [8, 13, 14, 15, 16, 19, 20, 21, 23, 26, 29, 30, 34, 43, 59, 62] [3, 7, 10, 12, 22, 24, 25, 27, 28, 42, 48, 50, 51, 55] [(3, (0 : Int32))] o0 o) (e4 : v4.toInt = (k : Int)) (e3 : v3.toInt = (h k : Int)) (hh : h k + a ≤ k)
    (hrec : ∀ (w3 w4 : Int32) (o' : Ob) (k' : Nat), IvX9 o' → Kp [8, 13, 14, 15, 16, 19, 20, 21, 23, 26, 29, 30, 34, 43, 59, 62] [3, 7, 10, 12, 22, 24, 25, 27, 28, 42, 48, 50, 51, 55] [(3, (0 : Int32))] o0 o' → w4.toInt = (k' : Int) → k < k' → k' ≤ b → w3.toInt = (h k' : Int) → h k' + a ≤ k' → wp (rec (v2, w3, w4, o')) P) :
    wp (bk_X9_reckonAll_95 rec v2 v3 v4 (op k) (arg k) o) P := by
  unfold bk_X9_reckonAll_95
  refine wp_lt (fun x5 e5 => ?_)
  have t5 : x5.toInt = (k : Int) + 1 := by rw [e5]; exact i32_add e4 (by decide) (by omega) (by omega)
  have h204 : ∀ (s0 : Int64) (o' : Ob), IvX9 o' → Kp [8, 13, 14, 15, 16, 19, 20, 21, 23, 26, 29, 30, 34, 43, 59, 62] [3, 7, 10, 12, 22, 24, 25, 27, 28, 42, 48, 50, 51, 55] [(3, (0 : Int32))] o0 o' → h (k + 1) = h k + 1 → wp (bk_X9_reckonAll_204 rec v2 v3 x5 s0 v3 o') P := by
    intro s0 o' hI' hK' e
    unfold bk_X9_reckonAll_204
    refine wp_gd (zin_of (m := 400) rfl (by omega) (by omega)) ?_
    refine wp_lt (fun o24 e24 => ?_)
    refine wp_lt (fun x25 e25 => ?_)
    have t25 : x25.toInt = (h k : Int) + 1 := by rw [e25]; exact i32_add e3 (by decide) (by omega) (by omega)
    refine h_r350 (hrec x25 x5 o24 (k + 1) (by rw [e24]; exact hI') (hK'.trans (by rw [e24]; exact Kp.tM)) (by omega) (by omega) (by omega) (by omega) (by omega))
  rcases hcs with ⟨c1, c2, c3⟩ | ⟨c1, c2, c3, c4⟩ | ⟨c1, c3, c4⟩ | ⟨c1, c2, c3, c4, c5, c6, c7⟩
  · refine wp_if (fun c => ?_) (fun c => ?_)
    · exfalso; have c := cv_le (a := 20) (b := (op k).toInt) (by decide) rfl c; omega
    refine wp_if (fun c => ?_) (fun c => ?_)
    · exact h204 _ o hI hK c3
    refine wp_if (fun c => ?_) (fun c => ?_)
    · exact wp_gd (zin_of (m := 13) rfl (by omega) (by omega)) (h204 _ o hI hK c3)
    refine wp_if (fun c => ?_) (fun c => ?_)
    · refine wp_bd (s_X9_isPerson o (arg k) hI) (fun z hz => ?_)
      refine wp_if (fun cz => ?_) (fun cz => ?_)
      · exact h204 _ o hI hK c3
      have hz2 := hz.2 cz
      refine wp_if (fun c => ?_) (fun c => ?_)
      · have t : ((15 : Int32) + arg k).toInt = 15 + (arg k).toInt := i32_add (by decide) rfl (by omega) (by omega)
        exact wp_gd (zin_of (m := 5484) rfl (by omega) (by omega)) (h204 _ o hI hK c3)
      · have t : ((8 : Int32) + arg k).toInt = 8 + (arg k).toInt := i32_add (by decide) rfl (by omega) (by omega)
        exact wp_gd (zin_of (m := 5484) rfl (by omega) (by omega)) (h204 _ o hI hK c3)
    · exact wp_gd (zin_of (m := 13) rfl (by omega) (by omega)) (h204 _ o hI hK c3)
  · refine wp_if (fun c => ?_) (fun c => ?_)
    swap
    · exfalso; have c := cv_nle (a := 20) (b := (op k).toInt) (by decide) rfl c; omega
    refine wp_if (fun c => ?_) (fun c => ?_)
    · exfalso; have c := cv_le (a := 28) (b := (op k).toInt) (by decide) rfl c; omega
    refine wp_lt (fun x11 e11 => ?_)
    have t11 : x11.toInt = (h k : Int) + (-1) := by rw [e11]; exact i32_add e3 (by decide) (by omega) (by omega)
    have t12 : (x11 - (1 : Int32)).toInt = x11.toInt - 1 := i32_sub rfl (by decide) (by omega) (by omega)
    refine wp_gd (zin_of (m := 400) rfl (by omega) (by omega)) ?_
    refine wp_gd (zin_of (m := 400) rfl (by omega) (by omega)) ?_
    refine wp_bd (s_X9_reckon o (op k) _ _ hI) (fun z hz => ?_)
    refine wp_gd (zin_of (m := 400) rfl (by omega) (by omega)) ?_
    refine wp_lt (fun o16 e16 => ?_)
    have hI16 : IvX9 o16 := by rw [e16]; exact hz.1
    have hK16 : Kp [8, 13, 14, 15, 16, 19, 20, 21, 23, 26, 29, 30, 34, 43, 59, 62] [3, 7, 10, 12, 22, 24, 25, 27, 28, 42, 48, 50, 51, 55] [(3, (0 : Int32))] o0 o16 := (hK.trans hz.2).trans (by rw [e16]; exact Kp.tM)
    have h282 : ∀ s0 : Int32, 0 ≤ s0.toInt → s0.toInt ≤ 1 → wp (bk_X9_reckonAll_282 rec v2 x11 x5 s0 o16) P := by
      intro s0 g0 g1
      unfold bk_X9_reckonAll_282
      refine wp_gd (zbo_of g0 g1) ?_
      refine wp_lt (fun o18 e18 => ?_)
      exact h_r350 (hrec x11 x5 o18 (k + 1) (by rw [e18]; exact ipX9_38 hI16 ⟨g0, g1⟩) (hK16.trans (by rw [e18]; exact Kp.sI (by decide))) (by omega) (by omega) (by omega) (by omega) (by omega))
    have h277 : wp (bk_X9_reckonAll_277 rec v2 x11 x5 o16) P := h282 1 (by decide) (by decide)
    refine wp_if (fun c => ?_) (fun c => ?_)
    · refine wp_gd (zin_of (m := 400) rfl (by omega) (by omega)) ?_
      refine wp_bd (s_X9_in _ _ _) (fun z20 hz20 => ?_)
      refine wp_if (fun c => ?_) (fun c => ?_)
      · exact h277
      · exact h282 0 (by decide) (by decide)
    · exact h277
  · refine wp_if (fun c => ?_) (fun c => ?_)
    swap
    · exfalso; have c := cv_nle (a := 20) (b := (op k).toInt) (by decide) rfl c; omega
    refine wp_if (fun c => ?_) (fun c => ?_)
    swap
    · exfalso; have c := cv_nle (a := 28) (b := (op k).toInt) (by decide) rfl c; omega
    have t12 : (v3 - (1 : Int32)).toInt = v3.toInt - 1 := i32_sub rfl (by decide) (by omega) (by omega)
    refine wp_if (fun c => ?_) (fun c => ?_)
    swap
    · exfalso; have c := cv_ne (a := (op k).toInt) (b := 28) rfl (by decide) c; omega
    refine wp_gd (zin_of (m := 400) rfl (by omega) (by omega)) ?_
    refine wp_gd (zin_of (m := 400) rfl (by omega) (by omega)) ?_
    refine wp_lt (fun o10 e10 => ?_)
    exact h_r350 (hrec v3 x5 o10 (k + 1) (by rw [e10]; exact hI) (hK.trans (by rw [e10]; exact Kp.tM)) (by omega) (by omega) (by omega) (by omega) (by omega))
  · refine wp_if (fun c => ?_) (fun c => ?_)
    swap
    · exfalso; have c := cv_nle (a := 20) (b := (op k).toInt) (by decide) rfl c; omega
    refine wp_if (fun c => ?_) (fun c => ?_)
    swap
    · exfalso; have c := cv_nle (a := 28) (b := (op k).toInt) (by decide) rfl c; omega
    have t12 : (v3 - (1 : Int32)).toInt = v3.toInt - 1 := i32_sub rfl (by decide) (by omega) (by omega)
    have h336 : ∀ s0 s1 : Int64, wp (bk_X9_reckonAll_336 rec v2 v3 x5 (arg k) s0 s1 o) P := by
      intro s0 s1
      unfold bk_X9_reckonAll_336
      refine wp_if (fun c => ?_) (fun c => ?_)
      · refine h_r350 (hrec v3 (arg k) o (arg k).toInt.toNat hI hK (by omega) (by omega) (by omega) (by omega) (by omega))
      · refine wp_lt (fun x7 e7 => ?_)
        have t7 : x7.toInt = (h k : Int) + (-1) := by rw [e7]; exact i32_add e3 (by decide) (by omega) (by omega)
        exact h_r350 (hrec x7 x5 o (k + 1) hI hK (by omega) (by omega) (by omega) (by omega) (by omega))
    refine wp_if (fun c => ?_) (fun c => ?_)
    · exfalso; have c := cv_eq (a := (op k).toInt) (b := 28) rfl (by decide) c; omega
    refine wp_gd (zin_of (m := 400) rfl (by omega) (by omega)) ?_
    refine wp_if (fun c => ?_) (fun c => ?_)
    · exact h336 _ _
    · exact h336 _ _
-- where the code is read: a law's, or the orders'
def RD (op arg : Nat → Int32) (o : Ob) : Prop :=
  (gI o 20 = 0 ∧ ∃ l : Nat, l < 6 ∧ (gI o 34).toInt = 84 + 900 * (l : Int) ∧ ∀ k, op k = gA o 3 (84 + 900 * l + 98 + 2 * k) ∧ arg k = gA o 3 (84 + 900 * l + 98 + 2 * k + 1)) ∨
  (¬ gI o 20 = 0 ∧ ∀ k, op k = gA o 24 k ∧ arg k = gA o 25 k)
theorem h_rloop (op arg : Nat → Int32) (a b : Nat) (hb : b ≤ 400) (h : Nat → Nat) (hcs : ∀ k, a ≤ k → k < b → CS op arg h b k) (o0 : Ob) (hrd : RD op arg o0) :
    ∀ (N : Nat) (v2 v3 v4 : Int32) (o : Ob) (k : Nat), IvX9 o → Kp [8, 13, 14, 15, 16, 19, 20, 21, 23, 26, 29, 30, 34, 43, 59, 62] [3, 7, 10, 12, 22, 24, 25, 27, 28, 42, 48, 50, 51, 55] [(3, (0 : Int32))] o0 o → v2.toInt = (b : Int) → v4.toInt = (k : Int) → a ≤ k → k ≤ b → v3.toInt = (h k : Int) → h k + a ≤ k → b < N + k → wp (lp_X9_reckonAll_10 N (v2, v3, v4, o)) (fun y => IvX9 y ∧ Kp [8, 13, 14, 15, 16, 19, 20, 21, 23, 26, 29, 30, 34, 43, 59, 62] [3, 7, 10, 12, 22, 24, 25, 27, 28, 42, 48, 50, 51, 55] [(3, (0 : Int32))] o0 y) := by
  intro N
  induction N with
  | zero => intro v2 v3 v4 o k _ _ _ _ _ _ _ _ hN; exfalso; omega
  | succ N ih =>
    intro v2 v3 v4 o k hI hK e2 e4 hak hkb e3 hh hN
    show wp (lb_X9_reckonAll_10 (lp_X9_reckonAll_10 N) v2 v3 v4 o) _
    unfold lb_X9_reckonAll_10
    have hend : wp (bk_X9_reckonAll_353 v3 o) (fun y => IvX9 y ∧ Kp [8, 13, 14, 15, 16, 19, 20, 21, 23, 26, 29, 30, 34, 43, 59, 62] [3, 7, 10, 12, 22, 24, 25, 27, 28, 42, 48, 50, 51, 55] [(3, (0 : Int32))] o0 y) := by
      have h368 : ∀ s0 : Int64, wp (bk_X9_reckonAll_368 s0 o) (fun y => IvX9 y ∧ Kp [8, 13, 14, 15, 16, 19, 20, 21, 23, 26, 29, 30, 34, 43, 59, 62] [3, 7, 10, 12, 22, 24, 25, 27, 28, 42, 48, 50, 51, 55] [(3, (0 : Int32))] o0 y) := by
        intro s0
        unfold bk_X9_reckonAll_368
        refine wp_lt (fun o2 e2 => ?_)
        exact wp_some ⟨by rw [e2]; exact hI, hK.trans (by rw [e2]; exact Kp.sL)⟩
      unfold bk_X9_reckonAll_353
      exact wp_if (fun c => h368 _) (fun c => h368 _)
    refine wp_if (fun c => hend) (fun c => ?_)
    have c := cv_nle (a := v2.toInt) (b := v4.toInt) rfl rfl c
    refine wp_if (fun c2 => ?_) (fun c2 => hend)
    have h95 : wp (bk_X9_reckonAll_95 (lp_X9_reckonAll_10 N) v2 v3 v4 (op k) (arg k) o) (fun y => IvX9 y ∧ Kp [8, 13, 14, 15, 16, 19, 20, 21, 23, 26, 29, 30, 34, 43, 59, 62] [3, 7, 10, 12, 22, 24, 25, 27, 28, 42, 48, 50, 51, 55] [(3, (0 : Int32))] o0 y) := by
      refine h_r95 op arg a b k hb h o0 _ _ v2 v3 v4 o hak (by omega) (hcs k hak (by omega)) hI hK e4 e3 hh ?_
      intro w3 w4 o' k' g1 g2 g3 g4 g5 g6 g7
      exact ih v2 w3 w4 o' k' g1 g2 e2 g3 (by omega) g5 g6 g7 (by omega)
    have k20 : gI o 20 = gI o0 20 := hK.1 20 (by decide)
    rcases hrd with ⟨r1, l, r2, r3, r4⟩ | ⟨r1, r4⟩
    · have k34 : gI o 34 = gI o0 34 := hK.1 34 (by decide)
      have k3 : gA o 3 = gA o0 3 := hK.2.1 3 (by decide)
      have a1 : ((gI o 34) + (98 : Int32)).toInt = 84 + 900 * (l : Int) + 98 := i32_add (by rw [k34]; exact r3) (by decide) (by omega) (by omega)
      have a2 : ((2 : Int32) * v4).toInt = 2 * (k : Int) := i32_mul (by decide) e4 (by omega) (by omega)
      have a3 : (((gI o 34) + (98 : Int32)) + ((2 : Int32) * v4)).toInt = 84 + 900 * (l : Int) + 98 + 2 * (k : Int) := i32_add a1 a2 (by omega) (by omega)
      have a4 : ((((gI o 34) + (98 : Int32)) + ((2 : Int32) * v4)) + (1 : Int32)).toInt = 84 + 900 * (l : Int) + 98 + 2 * (k : Int) + 1 := i32_add a3 (by decide) (by omega) (by omega)
      have n3 : (((gI o 34) + (98 : Int32)) + ((2 : Int32) * v4)).toNatClampNeg = 84 + 900 * l + 98 + 2 * k := tnc_eq (by omega)
      have n4 : ((((gI o 34) + (98 : Int32)) + ((2 : Int32) * v4)) + (1 : Int32)).toNatClampNeg = 84 + 900 * l + 98 + 2 * k + 1 := tnc_eq (by omega)
      refine wp_if (fun c3 => ?_) (fun c3 => absurd (k20.trans r1) c3)
      refine wp_gd (zin_of (m := 5484) rfl (by omega) (by omega)) ?_
      unfold bk_X9_reckonAll_57
      refine wp_if (fun c4 => ?_) (fun c4 => absurd (k20.trans r1) c4)
      refine wp_gd (zin_of (m := 5484) rfl (by omega) (by omega)) ?_
      rw [n3, n4, k3, ← (r4 k).1, ← (r4 k).2]
      exact h95
    · have k24 : gA o 24 = gA o0 24 := hK.2.1 24 (by decide)
      have k25 : gA o 25 = gA o0 25 := hK.2.1 25 (by decide)
      have n4 : v4.toNatClampNeg = k := tnc_eq e4
      refine wp_if (fun c3 => absurd (k20.symm.trans c3) r1) (fun c3 => ?_)
      refine wp_gd (zin_of (m := 400) rfl (by omega) (by omega)) ?_
      unfold bk_X9_reckonAll_57
      refine wp_if (fun c4 => absurd (k20.symm.trans c4) r1) (fun c4 => ?_)
      refine wp_gd (zin_of (m := 400) rfl (by omega) (by omega)) ?_
      rw [n4, k24, k25, ← (r4 k).1, ← (r4 k).2]
      exact h95
theorem h_reckonAll (op arg : Nat → Int32) (a b : Nat) (hab : a ≤ b) (hb : b ≤ 400) (hc : CW op arg a b) (o : Ob) (hI : IvX9 o) (hrd : RD op arg o) (p0 p1 : Int32) (e0 : p0.toInt = (a : Int)) (e1 : p1.toInt = (b : Int)) :
    wp (f_X9_reckonAll o p0 p1) (fun y => IvX9 y ∧ Kp [8, 13, 14, 15, 16, 19, 20, 21, 23, 26, 29, 30, 34, 43, 59, 62] [3, 7, 10, 12, 22, 24, 25, 27, 28, 42, 48, 50, 51, 55] [(3, (0 : Int32))] o y) := by
  obtain ⟨h, h0, hcs⟩ := hc
  unfold f_X9_reckonAll
  refine wp_lt (fun o1 e1' => ?_)
  have hI1 : IvX9 o1 := by rw [e1']; exact ipX9_38 hI ⟨by decide, by decide⟩
  have hK1 : Kp [8, 13, 14, 15, 16, 19, 20, 21, 23, 26, 29, 30, 34, 43, 59, 62] [3, 7, 10, 12, 22, 24, 25, 27, 28, 42, 48, 50, 51, 55] [(3, (0 : Int32))] o o1 := by rw [e1']; exact Kp.sI (by decide)
  refine h_rloop op arg a b hb h hcs o hrd zfu p1 0 p0 o1 a hI1 hK1 e1 e0 (Nat.le_refl _) hab (by rw [h0]; decide) (by omega) ?_
  show b < 100000 + a
  omega
-- a clause of a law
theorem RD.kp {op arg : Nat → Int32} {o o' : Ob} (h : RD op arg o) (hK : Kp [8, 13, 14, 15, 16, 19, 20, 21, 23, 26, 29, 30, 34, 43, 59, 62] [3, 7, 10, 12, 22, 24, 25, 27, 28, 42, 48, 50, 51, 55] [(3, (0 : Int32))] o o') : RD op arg o' := by
  have k20 : gI o' 20 = gI o 20 := hK.1 20 (by decide)
  have k34 : gI o' 34 = gI o 34 := hK.1 34 (by decide)
  have k3 : gA o' 3 = gA o 3 := hK.2.1 3 (by decide)
  have k24 : gA o' 24 = gA o 24 := hK.2.1 24 (by decide)
  have k25 : gA o' 25 = gA o 25 := hK.2.1 25 (by decide)
  rcases h with ⟨r1, l, r2, r3, r4⟩ | ⟨r1, r4⟩
  · exact Or.inl ⟨k20.trans r1, l, r2, by rw [k34]; exact r3, fun k => by rw [k3]; exact r4 k⟩
  · exact Or.inr ⟨fun e => r1 (k20.symm.trans e), fun k => by rw [k24, k25]; exact r4 k⟩
theorem h_isSo (op arg : Nat → Int32) (o : Ob) (hI : IvX9 o) (hrd : RD op arg o) (p0 : Int32) (s : Nat) (e0 : p0.toInt = (s : Int)) (hs : s ≤ 5400) (hw : WC (fun i => gA o 3 (s + i)) op arg) :
    wp (f_X9_isSo o p0) (fun y => IvX9 y.2 ∧ Kp [8, 13, 14, 15, 16, 19, 20, 21, 23, 26, 29, 30, 34, 43, 59, 62] [3, 7, 10, 12, 22, 24, 25, 27, 28, 42, 48, 50, 51, 55] [(3, (0 : Int32))] o y.2) := by
  obtain ⟨a, b, d, hab, hbd, hd, q3, q4, q5, q6, w1, w2⟩ := hw
  have ad : ∀ n : Int32, ∀ i : Nat, n.toInt = (i : Int) → i ≤ 8 → (p0 + n).toInt = (s : Int) + i ∧ (p0 + n).toNatClampNeg = s + i := by
    intro n i en hi
    have t : (p0 + n).toInt = (s : Int) + i := i32_add e0 en (by omega) (by omega)
    exact ⟨t, tnc_eq (by omega)⟩
  have a3 := ad 3 3 (by decide) (by omega)
  have a4 := ad 4 4 (by decide) (by omega)
  have a5 := ad 5 5 (by decide) (by omega)
  have a6 := ad 6 6 (by decide) (by omega)
  have n0 : p0.toNatClampNeg = s := tnc_eq e0
  have h59 : ∀ o' : Ob, IvX9 o' → Kp [8, 13, 14, 15, 16, 19, 20, 21, 23, 26, 29, 30, 34, 43, 59, 62] [3, 7, 10, 12, 22, 24, 25, 27, 28, 42, 48, 50, 51, 55] [(3, (0 : Int32))] o o' → wp (bk_X9_isSo_59 p0 o') (fun y => IvX9 y.2 ∧ Kp [8, 13, 14, 15, 16, 19, 20, 21, 23, 26, 29, 30, 34, 43, 59, 62] [3, 7, 10, 12, 22, 24, 25, 27, 28, 42, 48, 50, 51, 55] [(3, (0 : Int32))] o y.2) := by
    intro o' hI' hK'
    have k3 : gA o' 3 = gA o 3 := hK'.2.1 3 (by decide)
    unfold bk_X9_isSo_59
    refine wp_gd (zin_of (m := 5484) rfl (by omega) (by omega)) ?_
    refine wp_if (fun c => wp_some ⟨hI', hK'⟩) (fun c => ?_)
    refine wp_gd (zin_of (m := 5484) rfl (by omega) (by omega)) ?_
    refine wp_gd (zin_of (m := 5484) rfl (by omega) (by omega)) ?_
    rw [a3.2, a4.2, k3]
    refine wp_bd (h_reckonAll op arg a b hab (by omega) w1 o' hI' (hrd.kp hK') _ _ q3 q4) (fun z hz => ?_)
    refine wp_lt (fun o7 e7 => ?_)
    have hI7 : IvX9 o7 := by rw [e7]; exact hz.1
    have hK7 : Kp [8, 13, 14, 15, 16, 19, 20, 21, 23, 26, 29, 30, 34, 43, 59, 62] [3, 7, 10, 12, 22, 24, 25, 27, 28, 42, 48, 50, 51, 55] [(3, (0 : Int32))] o o7 := (hK'.trans hz.2).trans (by rw [e7]; exact Kp.sL)
    exact wp_if (fun c => wp_some ⟨hI7, hK7⟩) (fun c => wp_some ⟨hI7, hK7⟩)
  unfold f_X9_isSo
  refine wp_gd (zin_of (m := 5484) rfl (by omega) (by omega)) ?_
  refine wp_gd (zin_of (m := 5484) rfl (by omega) (by omega)) ?_
  refine wp_if (fun c => h59 o hI Kp.rf) (fun c => ?_)
  refine wp_gd (zin_of (m := 5484) rfl (by omega) (by omega)) ?_
  refine wp_gd (zin_of (m := 5484) rfl (by omega) (by omega)) ?_
  rw [a5.2, a6.2]
  refine wp_bd (h_reckonAll op arg b d hbd hd w2 o hI hrd _ _ q5 q6) (fun z hz => ?_)
  refine wp_if (fun c => ?_) (fun c => wp_some hz)
  refine wp_if (fun c => wp_some hz) (fun c => h59 z hz.1 hz.2)
theorem h_tells (o0 : Ob) (l : Nat) (hl : l < 6) (ho : gI o0 20 = 0) (e34 : (gI o0 34).toInt = 84 + 900 * (l : Int)) :
    ∀ (N : Nat) (v1 : Int32) (v7 : Int64) (v9 : Int32) (o : Ob) (c : Nat), IvX9 o → Kp [8, 13, 14, 15, 16, 19, 20, 21, 23, 26, 29, 30, 34, 43, 59, 62] [3, 7, 10, 12, 22, 24, 25, 27, 28, 42, 48, 50, 51, 55] [(3, (0 : Int32))] o0 o → v9.toInt = (c : Int) → c ≤ 12 → 12 < N + c → wp (lp_X9_tells_159 N (v1, v7, v9, o)) (fun y => IvX9 y.2 ∧ Kp [8, 13, 14, 15, 16, 19, 20, 21, 23, 26, 29, 30, 34, 43, 59, 62] [3, 7, 10, 12, 22, 24, 25, 27, 28, 42, 48, 50, 51, 55] [(3, (0 : Int32))] o0 y.2) := by
  intro N
  induction N with
  | zero => intro v1 v7 v9 o c _ _ _ _ _; exfalso; omega
  | succ N ih =>
    intro v1 v7 v9 o c hI hK e9 hc hN
    show wp (lb_X9_tells_159 (lp_X9_tells_159 N) v1 v7 v9 o) _
    unfold lb_X9_tells_159
    have k20 : gI o 20 = gI o0 20 := hK.1 20 (by decide)
    have k34 : gI o 34 = gI o0 34 := hK.1 34 (by decide)
    have e34' : (gI o 34).toInt = 84 + 900 * (l : Int) := by rw [k34]; exact e34
    have a1 : ((gI o 34) + (1 : Int32)).toInt = 84 + 900 * (l : Int) + 1 := i32_add e34' (by decide) (by omega) (by omega)
    have n1 : ((gI o 34) + (1 : Int32)).toNatClampNeg = 84 + 900 * l + 1 := tnc_eq (by omega)
    have hx := h9last hI
    have hwl := hx.1.1 l hl
    refine wp_gd (zin_of (m := 5484) rfl (by omega) (by omega)) ?_
    rw [n1]
    refine wp_if (fun _ => wp_some ⟨hI, hK⟩) (fun c1 => ?_)
    have c1 := cv_nle (a := (gA o 3 (84 + 900 * l + 1)).toInt) (b := (c : Int)) rfl e9 c1
    have hr := hwl.1
    have hwc := hwl.2 c c1
    have h224 : ∀ (v7 : Int64) (o' : Ob), IvX9 o' → Kp [8, 13, 14, 15, 16, 19, 20, 21, 23, 26, 29, 30, 34, 43, 59, 62] [3, 7, 10, 12, 22, 24, 25, 27, 28, 42, 48, 50, 51, 55] [(3, (0 : Int32))] o0 o' → wp (bk_X9_tells_224 (lp_X9_tells_159 N) v1 v7 v9 o') (fun y => IvX9 y.2 ∧ Kp [8, 13, 14, 15, 16, 19, 20, 21, 23, 26, 29, 30, 34, 43, 59, 62] [3, 7, 10, 12, 22, 24, 25, 27, 28, 42, 48, 50, 51, 55] [(3, (0 : Int32))] o0 y.2) := by
      intro v7 o' hI' hK'
      unfold bk_X9_tells_224
      refine wp_lt (fun x17 e17 => ?_)
      have t17 : x17.toInt = (c : Int) + 1 := by rw [e17]; exact i32_add e9 (by decide) (by omega) (by omega)
      exact ih v1 v7 x17 o' (c + 1) hI' hK' (by omega) (by omega) (by omega)
    refine wp_lt (fun x15 e15 => ?_)
    have a2 : ((gI o 34) + (2 : Int32)).toInt = 84 + 900 * (l : Int) + 2 := i32_add e34' (by decide) (by omega) (by omega)
    have a3 : ((8 : Int32) * v9).toInt = 8 * (c : Int) := i32_mul (by decide) e9 (by omega) (by omega)
    have a4 : x15.toInt = 84 + 900 * (l : Int) + 2 + 8 * (c : Int) := by rw [e15]; exact i32_add a2 a3 (by omega) (by omega)
    refine wp_gd (zin_of (m := 5484) rfl (by omega) (by omega)) ?_
    refine wp_if (fun _ => ?_) (fun _ => h224 v7 o hI hK)
    refine wp_bd (h_isSo (fun k => gA o 3 (84 + 900 * l + 98 + 2 * k)) (fun k => gA o 3 (84 + 900 * l + 98 + 2 * k + 1)) o hI (Or.inl ⟨k20.trans ho, l, hl, e34', fun k => ⟨rfl, rfl⟩⟩) x15 (84 + 900 * l + 2 + 8 * c) (by omega) (by omega) hwc) (fun z hz => ?_)
    have hI' := hz.1
    have hK' := hK.trans hz.2
    refine wp_if (fun _ => h224 v7 _ hI' hK') (fun _ => ?_)
    exact wp_if (fun _ => h224 _ _ hI' hK') (fun _ => h224 _ _ hI' hK')
set_option maxHeartbeats 4000000 in
set_option maxRecDepth 100000 in
theorem ts_X9_tells (o_me : Ob) (p0 : Int32) (p1 : Int32) (p2 : Int32) (p3 : Int32) (p4 : Int64) (hI_me : IvX9 o_me) (q0 : 0 ≤ p1.toInt ∧ p1.toInt ≤ 6) (q1 : 0 ≤ p2.toInt ∧ p2.toInt ≤ 9) (q2 : 0 ≤ (gI o_me 20).toInt ∧ (gI o_me 20).toInt ≤ 0) : wp (f_X9_tells   o_me p0 p1 p2 p3 p4) (fun (y : Int64 × Ob) => IvX9 y.2 ∧ Kp [8, 13, 14, 15, 16, 19, 20, 21, 23, 26, 29, 30, 43, 59, 62] [3, 7, 10, 12, 22, 24, 25, 27, 28, 42, 48, 50, 51, 55] [(3, (0 : Int32))] o_me y.2) := by
  have ho : gI o_me 20 = 0 := Int32.toInt_inj.mp ((show (gI o_me 20).toInt = 0 by omega).trans (by decide))
  unfold f_X9_tells
  refine wp_if (fun _ => wp_some ⟨hI_me, Kp.rf⟩) (fun c => ?_)
  have c := cv_ne (a := (gA o_me 3 (3 : Int32).toNatClampNeg).toInt) (b := -1) rfl (by decide) c
  have r3 := iaX9_3_3 hI_me (j := 3) (by decide) (by decide)
  obtain ⟨l, el⟩ : ∃ l : Nat, (gA o_me 3 (3 : Int32).toNatClampNeg).toInt = (l : Int) := ⟨(gA o_me 3 (3 : Int32).toNatClampNeg).toInt.toNat, by omega⟩
  have m1 : ((900 : Int32) * (gA o_me 3 (3 : Int32).toNatClampNeg)).toInt = 900 * (l : Int) := i32_mul (by decide) el (by omega) (by omega)
  have m2 : ((84 : Int32) + ((900 : Int32) * (gA o_me 3 (3 : Int32).toNatClampNeg))).toInt = 84 + 900 * (l : Int) := i32_add (by decide) m1 (by omega) (by omega)
  have m3 : ((4 : Int32) * p1).toInt = 4 * p1.toInt := i32_mul (by decide) rfl (by omega) (by omega)
  have m4 : ((36 : Int32) + ((4 : Int32) * p1)).toInt = 36 + 4 * p1.toInt := i32_add (by decide) m3 (by omega) (by omega)
  have m5 : (((36 : Int32) + ((4 : Int32) * p1)) + p2).toInt = 36 + 4 * p1.toInt + p2.toInt := i32_add m4 rfl (by omega) (by omega)
  have m6 : ((8 : Int32) + p1).toInt = 8 + p1.toInt := i32_add (by decide) rfl (by omega) (by omega)
  have m7 : ((15 : Int32) + p1).toInt = 15 + p1.toInt := i32_add (by decide) rfl (by omega) (by omega)
  refine wp_lt (fun o1 e1 => ?_)
  have hI1 : IvX9 o1 := by rw [e1]; exact hI_me
  have hK1 : Kp [8, 13, 14, 15, 16, 19, 20, 21, 23, 26, 29, 30, 43, 59, 62] [3, 7, 10, 12, 22, 24, 25, 27, 28, 42, 48, 50, 51, 55] [(3, (0 : Int32))] o_me o1 := by rw [e1]; exact Kp.sI (by decide)
  have h20 : gI o1 20 = 0 := by rw [e1]; exact ho
  have h34 : (gI o1 34).toInt = 84 + 900 * (l : Int) := by rw [e1]; exact m2
  clear e1
  have step : ∀ (o : Ob) (j : Nat) (v : Int64), IvX9 o → Kp [8, 13, 14, 15, 16, 19, 20, 21, 23, 26, 29, 30, 43, 59, 62] [3, 7, 10, 12, 22, 24, 25, 27, 28, 42, 48, 50, 51, 55] [(3, (0 : Int32))] o_me o → gI o 20 = 0 → (gI o 34).toInt = 84 + 900 * (l : Int) → IvX9 (tM o 35 j v) ∧ Kp [8, 13, 14, 15, 16, 19, 20, 21, 23, 26, 29, 30, 43, 59, 62] [3, 7, 10, 12, 22, 24, 25, 27, 28, 42, 48, 50, 51, 55] [(3, (0 : Int32))] o_me (tM o 35 j v) ∧ gI (tM o 35 j v) 20 = 0 ∧ (gI (tM o 35 j v) 34).toInt = 84 + 900 * (l : Int) := fun o j v a b c d => ⟨a, b.trans Kp.tM, c, d⟩
  refine wp_lt (fun o2 e2 => ?_)
  obtain ⟨hI2, hK2, h20, h34⟩ := e2 ▸ step o1 _ _ hI1 hK1 h20 h34
  refine wp_lt (fun o3 e3 => ?_)
  obtain ⟨hI3, hK3, h20, h34⟩ := e3 ▸ step o2 _ _ hI2 hK2 h20 h34
  refine wp_gd (zin_of (m := 5484) rfl (by omega) (by omega)) ?_
  refine wp_lt (fun o5 e5 => ?_)
  obtain ⟨hI5, hK5, h20, h34⟩ := e5 ▸ step o3 _ _ hI3 hK3 h20 h34
  refine wp_gd (zin_of (m := 5484) rfl (by omega) (by omega)) ?_
  refine wp_lt (fun o7 e7 => ?_)
  obtain ⟨hI7, hK7, h20, h34⟩ := e7 ▸ step o5 _ _ hI5 hK5 h20 h34
  refine wp_gd (zin_of (m := 5484) rfl (by omega) (by omega)) ?_
  refine wp_lt (fun o9 e9 => ?_)
  obtain ⟨hI9, hK9, h20, h34⟩ := e9 ▸ step o7 _ _ hI7 hK7 h20 h34
  refine wp_lt (fun o10 e10 => ?_)
  obtain ⟨hI10, hK10, h20, h34⟩ := e10 ▸ step o9 _ _ hI9 hK9 h20 h34
  refine wp_lt (fun o11 e11 => ?_)
  obtain ⟨hI11, hK11, h20, h34⟩ := e11 ▸ step o10 _ _ hI10 hK10 h20 h34
  refine wp_lt (fun o12 e12 => ?_)
  obtain ⟨hI12, hK12, h20, h34⟩ := e12 ▸ step o11 _ _ hI11 hK11 h20 h34
  refine wp_lt (fun o13 e13 => ?_)
  obtain ⟨hI13, hK13, h20, h34⟩ := e13 ▸ step o12 _ _ hI12 hK12 h20 h34
  refine wp_mono (h_tells o13 l (by omega) h20 h34 zfu p0 p4 0 o13 0 hI13 Kp.rf (by decide) (by omega) (by show 12 < 100000 + 0; omega)) (fun y hy => ⟨hy.1, hK13.trans (hy.2.mono (by decide) (by decide) (by decide))⟩)
theorem h_img (o0 : Ob) (hI0 : IvX9 o0) (k : Nat) (hk : k < 2) :
    ∀ (N : Nat) (v1 v2 : Int32) (o : Ob) (n : Nat), v1.toInt = (k : Int) → v2.toInt = (n : Int) → n ≤ 5484 → (∀ i, gI o i = gI o0 i) → gL o 60 = gL o0 60 → (∀ i, i ≠ 4 → gA o i = gA o0 i) → (∀ i, i < n → gA o 4 (5484 * k + i) = gA o0 3 i) → (∀ j, j < 5484 * k ∨ 5484 * k + 5484 ≤ j → gA o 4 j = gA o0 4 j) → 5484 < N + n → wp (lp_X9_image_23 N (v1, v2, o)) (fun y => IvX9 y.2 ∧ Kp [8, 13, 14, 15, 16, 19, 20, 21, 23, 26, 29, 30, 34, 38, 43, 59, 62] [3, 7, 10, 12, 22, 24, 25, 27, 28, 42, 48, 50, 51, 55] [(3, (0 : Int32))] o0 y.2) := by
  intro N
  induction N with
  | zero => intro v1 v2 o n _ _ _ _ _ _ _ _ _; exfalso; omega
  | succ N ih =>
    intro v1 v2 o n e1 e2 hn hI hL hA hp hr hN
    show wp (lb_X9_image_23 (lp_X9_image_23 N) v1 v2 o) _
    unfold lb_X9_image_23
    refine wp_if (fun c => ?_) (fun c => ?_)
    · have c := cv_le (a := 5484) (b := v2.toInt) (by decide) rfl c
      refine wp_gd (zin_of (m := 2) rfl (by omega) (by omega)) ?_
      refine wp_lt (fun o4 e4 => ?_)
      have hIo : IvX9 o := by
        refine ivX9_of hI0 hI hL (fun i _ h4 => hA i h4) (by rw [hA 3 (by decide)]; exact segX9_3 hI0) ?_
        rw [hA 3 (by decide), hA 6 (by decide), hA 9 (by decide)]
        exact EX9.img (k := k) (h9last hI0).1 (segX9_3 hI0) (fun i hi => hp i (by omega)) hr
      have hKo : Kp [8, 13, 14, 15, 16, 19, 20, 21, 23, 26, 29, 30, 34, 38, 43, 59, 62] [3, 7, 10, 12, 22, 24, 25, 27, 28, 42, 48, 50, 51, 55] [(3, (0 : Int32))] o0 o4 := by
        rw [e4]
        refine Kp.trans (o' := o) ⟨fun i _ => hI i, fun i hi => hA i (fun e => by subst e; revert hi; decide), fun c hc => ?_⟩ (Kp.tA (by decide) (by decide))
        have ec := List.mem_singleton.mp hc
        subst ec
        exact congrFun (hA 3 (by decide)) _
      have hI4 : IvX9 o4 := by rw [e4]; exact hIo
      refine wp_bd (s_X9_tell o4 0 hI4 ⟨by decide, by decide⟩) (fun z hz => ?_)
      exact wp_some ⟨hz.2.1, hKo.trans (hz.2.2.mono (by decide) (by decide) (by decide))⟩
    · have c := cv_nle (a := 5484) (b := v2.toInt) (by decide) rfl c
      have m1 : ((5484 : Int32) * v1).toInt = 5484 * (k : Int) := i32_mul (by decide) e1 (by omega) (by omega)
      have m2 : (((5484 : Int32) * v1) + v2).toInt = 5484 * (k : Int) + (n : Int) := i32_add m1 e2 (by omega) (by omega)
      have n1 : (((5484 : Int32) * v1) + v2).toNatClampNeg = 5484 * k + n := tnc_eq (by omega)
      have n2 : v2.toNatClampNeg = n := tnc_eq e2
      refine wp_gd (zin_of (m := 5484) rfl (by omega) (by omega)) ?_
      refine wp_gd (zin_of (m := 10968) rfl (by omega) (by omega)) ?_
      rw [n1, n2]
      refine wp_lt (fun o8 e8 => ?_)
      refine wp_lt (fun x9 e9 => ?_)
      have t9 : x9.toInt = (n : Int) + 1 := by rw [e9]; exact i32_add e2 (by decide) (by omega) (by omega)
      have a4 : ∀ j, gA o8 4 j = if j = 5484 * k + n then gA o0 3 n else gA o 4 j := by
        intro j
        rw [e8]
        show (if j = 5484 * k + n then gA o 3 n else gA o 4 j) = _
        rw [hA 3 (by decide)]
      refine ih v1 x9 o8 (n + 1) e1 (by omega) (by omega) (fun i => by rw [e8]; exact hI i) (by rw [e8]; exact hL) (fun i hi => ?_) (fun i hi => ?_) (fun j hj => ?_) (by omega)
      · rw [e8]; exact (fset_ne hi).trans (hA i hi)
      · rw [a4]
        by_cases e : i = n
        · subst e; rw [if_pos rfl]
        · rw [if_neg (by omega)]; exact hp i (by omega)
      · rw [a4, if_neg (by omega)]; exact hr j hj
set_option maxHeartbeats 4000000 in
set_option maxRecDepth 100000 in
theorem ts_X9_image (o_me : Ob) (p0 : Int32) (hI_me : IvX9 o_me)  : wp (f_X9_image   o_me p0) (fun (y : Int32 × Ob) => IvX9 y.2 ∧ Kp [8, 13, 14, 15, 16, 19, 20, 21, 23, 26, 29, 30, 34, 38, 43, 59, 62] [3, 7, 10, 12, 22, 24, 25, 27, 28, 42, 48, 50, 51, 55] [(3, (0 : Int32))] o_me y.2) := by
  unfold f_X9_image
  refine wp_lt (fun o1 e1 => ?_)
  have hI1 : IvX9 o1 := by rw [e1]; exact hI_me
  have hK1 : Kp [8, 13, 14, 15, 16, 19, 20, 21, 23, 26, 29, 30, 34, 38, 43, 59, 62] [3, 7, 10, 12, 22, 24, 25, 27, 28, 42, 48, 50, 51, 55] [(3, (0 : Int32))] o_me o1 := by rw [e1]; exact Kp.sI (by decide)
  refine wp_bd (s_X9_in _ _ _) (fun z2 hz2 => ?_)
  refine wp_if (fun c => ?_) (fun c => ?_)
  · refine wp_bd (s_X9_tell o1 (-1) hI1 ⟨by decide, by decide⟩) (fun z hz => ?_)
    exact wp_some ⟨hz.2.1, hK1.trans (hz.2.2.mono (by decide) (by decide) (by decide))⟩
  · have r := hz2.2 c
    have l0 : (0 : Int64).toInt = 0 := by decide
    have l1 : (1 : Int64).toInt = 1 := by decide
    have ep := Int32.toInt_toInt64 p0
    refine wp_mono (h_img o1 hI1 p0.toInt.toNat (by omega) zfu p0 0 o1 0 (by omega) (by decide) (by omega) (fun _ => rfl) rfl (fun _ _ => rfl) (fun i hi => absurd hi (Nat.not_lt_zero _)) (fun _ _ => rfl) (by show 5484 < 100000 + 0; omega)) (fun y hy => ⟨hy.1, hK1.trans hy.2⟩)
theorem h_bck (o0 : Ob) (hI0 : IvX9 o0) (k : Nat) (hk : k < 2) :
    ∀ (N : Nat) (v1 v2 : Int32) (o : Ob) (n : Nat), v1.toInt = (k : Int) → v2.toInt = (n : Int) → n ≤ 5484 → (∀ i, gI o i = gI o0 i) → gL o 60 = gL o0 60 → (∀ i, i ≠ 3 → gA o i = gA o0 i) → (∀ i, i < n → gA o 3 i = gA o0 4 (5484 * k + i)) → 5484 < N + n → wp (lp_X9_back_39 N (v1, v2, o)) (fun y => IvX9 y.2 ∧ Kp [13, 14, 15, 16, 19, 20, 21, 23, 26, 29, 30, 34, 38, 43, 59, 62] [7, 10, 12, 22, 24, 25, 27, 28, 42, 48, 50, 51, 55] [] o0 y.2) := by
  intro N
  induction N with
  | zero => intro v1 v2 o n _ _ _ _ _ _ _ _; exfalso; omega
  | succ N ih =>
    intro v1 v2 o n e1 e2 hn hI hL hA hp hN
    show wp (lb_X9_back_39 (lp_X9_back_39 N) v1 v2 o) _
    unfold lb_X9_back_39
    refine wp_if (fun c => ?_) (fun c => ?_)
    · have c := cv_le (a := 5484) (b := v2.toInt) (by decide) rfl c
      have hb := EX9.bck (row' := gA o 3) hk (h9last hI0).1 (fun i hi => hp i (by omega))
      have hIo : IvX9 o := by
        refine ivX9_of hI0 hI hL (fun i h3 _ => hA i h3) hb.2 ?_
        rw [hA 4 (by decide), hA 6 (by decide), hA 9 (by decide)]
        exact hb.1
      have hKo : Kp [13, 14, 15, 16, 19, 20, 21, 23, 26, 29, 30, 34, 38, 43, 59, 62] [7, 10, 12, 22, 24, 25, 27, 28, 42, 48, 50, 51, 55] [] o0 o := ⟨fun i _ => hI i, fun i hi => hA i (fun e => by subst e; revert hi; decide), fun c hc => absurd hc List.not_mem_nil⟩
      refine wp_bd (s_X9_settled o 0 hIo ⟨by decide, by decide⟩) (fun z hz => ?_)
      exact wp_some ⟨hz.2.1, hKo.trans (hz.2.2.mono (by decide) (by decide) (by decide))⟩
    · have c := cv_nle (a := 5484) (b := v2.toInt) (by decide) rfl c
      have m1 : ((5484 : Int32) * v1).toInt = 5484 * (k : Int) := i32_mul (by decide) e1 (by omega) (by omega)
      have m2 : (((5484 : Int32) * v1) + v2).toInt = 5484 * (k : Int) + (n : Int) := i32_add m1 e2 (by omega) (by omega)
      have n1 : (((5484 : Int32) * v1) + v2).toNatClampNeg = 5484 * k + n := tnc_eq (by omega)
      have n2 : v2.toNatClampNeg = n := tnc_eq e2
      refine wp_gd (zin_of (m := 10968) rfl (by omega) (by omega)) ?_
      refine wp_gd (zin_of (m := 5484) rfl (by omega) (by omega)) ?_
      rw [n1, n2]
      refine wp_lt (fun o7 e7 => ?_)
      refine wp_lt (fun x8 e8 => ?_)
      have t8 : x8.toInt = (n : Int) + 1 := by rw [e8]; exact i32_add e2 (by decide) (by omega) (by omega)
      have a3 : ∀ j, gA o7 3 j = if j = n then gA o0 4 (5484 * k + n) else gA o 3 j := by
        intro j
        rw [e7]
        show (if j = n then gA o 4 (5484 * k + n) else gA o 3 j) = _
        rw [hA 4 (by decide)]
      refine ih v1 x8 o7 (n + 1) e1 (by omega) (by omega) (fun i => by rw [e7]; exact hI i) (by rw [e7]; exact hL) (fun i hi => ?_) (fun i hi => ?_) (by omega)
      · rw [e7]; exact (fset_ne hi).trans (hA i hi)
      · rw [a3]
        by_cases e : i = n
        · subst e; rw [if_pos rfl]
        · rw [if_neg (by omega)]; exact hp i (by omega)
set_option maxHeartbeats 4000000 in
set_option maxRecDepth 100000 in
theorem ts_X9_back (o_me : Ob) (p0 : Int32) (hI_me : IvX9 o_me)  : wp (f_X9_back   o_me p0) (fun (y : Int32 × Ob) => IvX9 y.2 ∧ Kp [13, 14, 15, 16, 19, 20, 21, 23, 26, 29, 30, 34, 38, 43, 59, 62] [7, 10, 12, 22, 24, 25, 27, 28, 42, 48, 50, 51, 55] [] o_me y.2) := by
  unfold f_X9_back
  refine wp_lt (fun o1 e1 => ?_)
  have hI1 : IvX9 o1 := by rw [e1]; exact hI_me
  have hK1 : Kp [13, 14, 15, 16, 19, 20, 21, 23, 26, 29, 30, 34, 38, 43, 59, 62] [7, 10, 12, 22, 24, 25, 27, 28, 42, 48, 50, 51, 55] [] o_me o1 := by rw [e1]; exact Kp.sI (by decide)
  refine wp_bd (s_X9_in _ _ _) (fun z2 hz2 => ?_)
  refine wp_if (fun c => ?_) (fun c => ?_)
  · refine wp_bd (s_X9_tell o1 (-1) hI1 ⟨by decide, by decide⟩) (fun z hz => ?_)
    exact wp_some ⟨hz.2.1, hK1.trans (hz.2.2.mono (by decide) (by decide) (by decide))⟩
  · have r := hz2.2 c
    have l0 : (0 : Int64).toInt = 0 := by decide
    have l1 : (1 : Int64).toInt = 1 := by decide
    have ep := Int32.toInt_toInt64 p0
    refine wp_gd (zin_of (m := 2) rfl (by omega) (by omega)) ?_
    refine wp_if (fun c => ?_) (fun c => ?_)
    · refine wp_bd (s_X9_tell o1 (-2) hI1 ⟨by decide, by decide⟩) (fun z hz => ?_)
      exact wp_some ⟨hz.2.1, hK1.trans (hz.2.2.mono (by decide) (by decide) (by decide))⟩
    · refine wp_mono (h_bck o1 hI1 p0.toInt.toNat (by omega) zfu p0 0 o1 0 (by omega) (by decide) (by omega) (fun _ => rfl) rfl (fun _ _ => rfl) (fun i hi => absurd hi (Nat.not_lt_zero _)) (by show 5484 < 100000 + 0; omega)) (fun y hy => ⟨hy.1, hK1.trans hy.2⟩)
theorem h_isTold (o : Ob) (z : Int32) : ∀ (N : Nat) (v1 v2 v3 y : Int32), (z = 0 → v2 = 0) → lp_X9_isTold_13 o N (v1, v2, v3) = some y → z = 0 → y = 0 := by
  intro N
  induction N with
  | zero => intro v1 v2 v3 y _ h; exact absurd h (by intro h; cases h)
  | succ N ih =>
    intro v1 v2 v3 y hz h e
    have h : lb_X9_isTold_13 o (lp_X9_isTold_13 o N) v1 v2 v3 = some y := h
    unfold lb_X9_isTold_13 at h
    have hv := hz e
    split at h
    · obtain ⟨-, h⟩ := z_gd h
      rw [← Option.some.inj h]; exact hv
    · rw [if_pos hv] at h
      unfold bk_X9_isTold_47 bk_X9_isTold_48 at h
      exact ih v1 0 (v3 + 1) y (fun _ => rfl) h e
theorem h_told2 (o : Ob) (hI : IvX9 o) (p0 : Int32) (h0 : 0 ≤ p0.toInt) (h1 : p0.toInt ≤ 395) : wp (f_X9_isTold o p0) (fun y => ¬ y = 0 → 0 ≤ (gA o 12 p0.toNatClampNeg).toInt ∧ (gA o 12 p0.toNatClampNeg).toInt ≤ 6) := by
  obtain ⟨y, ey, -⟩ := s_X9_isTold o p0 hI ⟨h0, h1⟩
  refine ⟨y, ey, fun hy => ?_⟩
  unfold f_X9_isTold at ey
  obtain ⟨-, ey⟩ := z_gd ey
  obtain ⟨z, ez, ey⟩ := z_bd ey
  obtain ⟨z', ez', hz'⟩ := s_X9_isPerson o (gA o 12 p0.toNatClampNeg) hI
  have ezz : z = z' := Option.some.inj (ez.symm.trans ez')
  subst ezz
  refine hz'.2 (fun e => hy ?_)
  exact h_isTold o z zfu p0 z 0 y (fun e => e) ey e
theorem h_row58 (o0 : Ob) (P : Int32 × Ob → Prop) (rec35 : Int32 × Int32 × Int32 × Ob → Option (Int32 × Ob)) (v1 v2 v3 : Int32) (g3 : 0 ≤ v3.toInt) (g3b : v3.toInt ≤ 395) (t : Int32) (t0 : 0 ≤ t.toInt) (t6 : t.toInt ≤ 6)
    (hrec : ∀ (w2 : Int32) (o' : Ob), IvX9 o' → Kp [8, 14, 15, 16, 19, 20, 21, 23, 26, 29, 30, 34, 38, 43, 59, 62] [7, 10, 12, 22, 24, 25, 27, 28, 42, 48, 50, 51, 55] [(3, (0 : Int32))] o0 o' → w2 = v2 + 1 → wp (bk_X9_row_116 rec35 v1 w2 v3 o') P) :
    ∀ (N : Nat) (v4 : Int32) (o : Ob), IvX9 o → Kp [8, 14, 15, 16, 19, 20, 21, 23, 26, 29, 30, 34, 38, 43, 59, 62] [7, 10, 12, 22, 24, 25, 27, 28, 42, 48, 50, 51, 55] [(3, (0 : Int32))] o0 o → gA o 12 v3.toNatClampNeg = t → 0 ≤ v4.toInt → v4.toInt ≤ 4 → 4 < (N : Int) + v4.toInt → wp (lp_X9_row_58 rec35 N (v1, v2, v3, v4, o)) P := by
  intro N
  induction N with
  | zero => intro v4 o _ _ _ _ _ _; exfalso; omega
  | succ N ih =>
    intro v4 o hI hK ht h4 h4b hN
    show wp (lb_X9_row_58 rec35 (lp_X9_row_58 rec35 N) v1 v2 v3 v4 o) P
    unfold lb_X9_row_58
    refine wp_if (fun c => ?_) (fun c => ?_)
    · exact wp_lt (fun x9 e9 => hrec x9 o hI hK e9)
    · have c := cv_nle (a := 4) (b := v4.toInt) (by decide) rfl c
      rw [ht]
      have a1 : (v3 + (1 : Int32)).toInt = v3.toInt + 1 := i32_add rfl (by decide) (by omega) (by omega)
      have a2 : ((v3 + (1 : Int32)) + v4).toInt = v3.toInt + 1 + v4.toInt := i32_add a1 rfl (by omega) (by omega)
      have a3 : ((4 : Int32) * t).toInt = 4 * t.toInt := i32_mul (by decide) rfl (by omega) (by omega)
      have a4 : ((36 : Int32) + ((4 : Int32) * t)).toInt = 36 + 4 * t.toInt := i32_add (by decide) a3 (by omega) (by omega)
      have a5 : (((36 : Int32) + ((4 : Int32) * t)) + v4).toInt = 36 + 4 * t.toInt + v4.toInt := i32_add a4 rfl (by omega) (by omega)
      refine wp_gd (zin_of (m := 400) rfl (by omega) (by omega)) ?_
      refine wp_gd (zin_of (m := 400) rfl (by omega) (by omega)) ?_
      refine wp_gd (zin_of (m := 5484) rfl (by omega) (by omega)) ?_
      refine wp_lt (fun o13 e13 => ?_)
      refine wp_lt (fun x14 e14 => ?_)
      have t14 : x14.toInt = v4.toInt + 1 := by rw [e14]; exact i32_add rfl (by decide) (by omega) (by omega)
      refine ih x14 o13 ?_ (hK.trans (by rw [e13]; exact kp_tA0 (by decide) (by omega))) (by rw [e13]; exact ht) (by omega) (by omega) (by omega)
      rw [e13]
      refine spX9_row (n := (36 + 4 * t.toInt + v4.toInt).toNat) hI (by omega) (by omega) (fun s hs g1 g2 => ?_)
      exfalso
      have hh : ∀ s ∈ rowS, s.2.1 < 36 ∨ 64 ≤ s.1 := by decide
      rcases hh s hs with h | h <;> omega
set_option maxHeartbeats 4000000 in
set_option maxRecDepth 100000 in
theorem ts_X9_row (o_me : Ob) (hI_me : IvX9 o_me)  : wp (f_X9_row   o_me) (fun (y : Int32 × Ob) => IvX9 y.2 ∧ Kp [8, 14, 15, 16, 19, 20, 21, 23, 26, 29, 30, 34, 38, 43, 59, 62] [7, 10, 12, 22, 24, 25, 27, 28, 42, 48, 50, 51, 55] [(3, (0 : Int32))] o_me y.2) := by
  unfold f_X9_row
  refine wp_lt (fun o1 e1 => ?_)
  refine wp_lt (fun x2 e2 => ?_)
  refine wp_lt (fun o3 e3 => ?_)
  have b13 := igX9_13 hI_me
  have t2 : x2.toInt = (gI o_me 13).toInt := by rw [e2, e1]; rfl
  have hI3 : IvX9 o3 := by rw [e3, e1]; exact ipX9_13 hI_me ⟨by decide, by decide⟩
  have hK3 : Kp [8, 14, 15, 16, 19, 20, 21, 23, 26, 29, 30, 34, 38, 43, 59, 62] [7, 10, 12, 22, 24, 25, 27, 28, 42, 48, 50, 51, 55] [(3, (0 : Int32))] o_me o3 := by rw [e3, e1]; exact Kp.trans (o' := sI o_me 0 0) (Kp.sI (by decide)) (Kp.sI (by decide))
  refine wp_if (fun c => ?_) (fun c => ?_)
  · refine wp_bd (s_X9_tell o3 (-6) hI3 ⟨by decide, by decide⟩) (fun z hz => ?_)
    exact wp_some ⟨hz.2.1, hK3.trans (hz.2.2.mono (by decide) (by decide) (by decide))⟩
  refine wp_lt (fun o4 e4 => ?_)
  have hI4 : IvX9 o4 := by rw [e4]; exact hI3
  have hK4 : Kp [8, 14, 15, 16, 19, 20, 21, 23, 26, 29, 30, 34, 38, 43, 59, 62] [7, 10, 12, 22, 24, 25, 27, 28, 42, 48, 50, 51, 55] [(3, (0 : Int32))] o_me o4 := hK3.trans (by rw [e4]; exact Kp.sI (by decide))
  have loop : ∀ (N : Nat) (v2 v3 : Int32) (o : Ob), IvX9 o → Kp [8, 14, 15, 16, 19, 20, 21, 23, 26, 29, 30, 34, 38, 43, 59, 62] [7, 10, 12, 22, 24, 25, 27, 28, 42, 48, 50, 51, 55] [(3, (0 : Int32))] o_me o → 0 ≤ v2.toInt → v2.toInt ≤ v3.toInt → 0 ≤ v3.toInt → v3.toInt ≤ 405 → 405 < (N : Int) + v3.toInt → wp (lp_X9_row_35 N (x2, v2, v3, o)) (fun (y : Int32 × Ob) => IvX9 y.2 ∧ Kp [8, 14, 15, 16, 19, 20, 21, 23, 26, 29, 30, 34, 38, 43, 59, 62] [7, 10, 12, 22, 24, 25, 27, 28, 42, 48, 50, 51, 55] [(3, (0 : Int32))] o_me y.2) := by
    intro N
    induction N with
    | zero => intro v2 v3 o _ _ _ _ _ _ _; exfalso; omega
    | succ N ih =>
      intro v2 v3 o hI hK h2 h23 h3 h3b hN
      show wp (lb_X9_row_35 (lp_X9_row_35 N) x2 v2 v3 o) _
      unfold lb_X9_row_35
      refine wp_if (fun c => ?_) (fun c => ?_)
      · refine wp_bd (s_X9_tell o v2 hI ⟨by omega, by omega⟩) (fun z hz => ?_)
        exact wp_some ⟨hz.2.1, hK.trans (hz.2.2.mono (by decide) (by decide) (by decide))⟩
      have c := cv_nle (a := x2.toInt) (b := v3.toInt) rfl rfl c
      have h116 : ∀ (w2 : Int32) (o' : Ob), IvX9 o' → Kp [8, 14, 15, 16, 19, 20, 21, 23, 26, 29, 30, 34, 38, 43, 59, 62] [7, 10, 12, 22, 24, 25, 27, 28, 42, 48, 50, 51, 55] [(3, (0 : Int32))] o_me o' → 0 ≤ w2.toInt → w2.toInt ≤ v3.toInt + 1 → wp (bk_X9_row_116 (lp_X9_row_35 N) x2 w2 v3 o') (fun (y : Int32 × Ob) => IvX9 y.2 ∧ Kp [8, 14, 15, 16, 19, 20, 21, 23, 26, 29, 30, 34, 38, 43, 59, 62] [7, 10, 12, 22, 24, 25, 27, 28, 42, 48, 50, 51, 55] [(3, (0 : Int32))] o_me y.2) := by
        intro w2 o' hI' hK' g1 g2
        unfold bk_X9_row_116
        refine wp_lt (fun x7 e7 => ?_)
        have t7 : x7.toInt = v3.toInt + 5 := by rw [e7]; exact i32_add rfl (by decide) (by omega) (by omega)
        exact ih w2 x7 o' hI' hK' g1 (by omega) (by omega) (by omega) (by omega)
      have h106 : wp (bk_X9_row_106 (lp_X9_row_35 N) x2 v2 v3 o) (fun (y : Int32 × Ob) => IvX9 y.2 ∧ Kp [8, 14, 15, 16, 19, 20, 21, 23, 26, 29, 30, 34, 38, 43, 59, 62] [7, 10, 12, 22, 24, 25, 27, 28, 42, 48, 50, 51, 55] [(3, (0 : Int32))] o_me y.2) := by
        unfold bk_X9_row_106
        refine wp_lt (fun o6 e6 => ?_)
        exact h116 v2 o6 (by rw [e6]; exact hI) (hK.trans (by rw [e6]; exact Kp.sI (by decide))) h2 (by omega)
      refine wp_if (fun c => h106) (fun c2 => ?_)
      have a4 : (v3 + (4 : Int32)).toInt = v3.toInt + 4 := i32_add rfl (by decide) (by omega) (by omega)
      have c2 := cv_nle (a := x2.toInt) (b := v3.toInt + 4) rfl a4 c2
      refine wp_bd (h_told2 o hI v3 (by omega) (by omega)) (fun z8 hz8 => ?_)
      refine wp_if (fun c => h106) (fun c3 => ?_)
      have r := hz8 c3
      refine h_row58 o_me _ (lp_X9_row_35 N) x2 v2 v3 (by omega) (by omega) (gA o 12 v3.toNatClampNeg) r.1 r.2 (fun w2 o' g1 g2 g3 => ?_) zfu 0 o hI hK rfl (by decide) (by decide) (by show (4 : Int) < ((100000 : Nat) : Int) + (0 : Int32).toInt; decide)
      have tw : w2.toInt = v2.toInt + 1 := by rw [g3]; exact i32_add rfl (by decide) (by omega) (by omega)
      exact h116 w2 o' g1 g2 (by omega) (by omega)
  have z0 : (0 : Int32).toInt = 0 := by decide
  exact loop zfu 0 0 o4 hI4 hK4 (by omega) (by omega) (by omega) (by omega) (by show (405 : Int) < ((100000 : Nat) : Int) + _; omega)
