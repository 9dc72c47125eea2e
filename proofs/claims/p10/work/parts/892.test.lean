set_option maxHeartbeats 200000 in
/-- a law of the class and a slot of the reference's row say the same -/
def LwE (oc : Ob) (Gzz : Nat → Int32) (l : Nat) : Prop := ∃ n K1 K2 : Nat, n ≤ 12 ∧ K1 ≤ 400 ∧ K2 ≤ 400 ∧ (gI oc 7).toInt = (n : Int) ∧ (gI oc 8).toInt = (K1 : Int) ∧ (Gzz (84 + 900 * l + 1)).toInt = (n : Int) ∧ ∀ mzz, mzz < n → ClE false oc (clL Gzz l) (opL Gzz l) (argL Gzz l) mzz K1 K2
def LwP (pl : List CR) (rzz : Option Nat) (Gzz : Nat → Int32) (lw : Int32) : Prop := (lw = -1 ∧ rzz = none) ∨ (∃ (l azz : Nat) (czz : CR), l < 6 ∧ lw.toInt = (l : Int) ∧ rzz = some azz ∧ pfind pl azz = some czz ∧ LwE czz.2.2.2.2.2 Gzz l)
/-- what a law's words are made of -/
def WtL (isl mv : Ob) (Gzz : Nat → Int32) : Prop := (gI isl 7 = Gzz 0 ∧ 0 ≤ (Gzz 0).toInt ∧ (Gzz 0).toInt ≤ 7) ∧ (∀ jzz, jzz < 28 → gA isl 2 jzz = Gzz (36 + jzz) ∧ 0 ≤ (Gzz (36 + jzz)).toInt ∧ (Gzz (36 + jzz)).toInt ≤ 9) ∧ (∀ jzz, jzz < 7 → gA mv 0 jzz = Gzz (8 + jzz) ∧ 0 ≤ (Gzz (8 + jzz)).toInt ∧ (Gzz (8 + jzz)).toInt ≤ 9) ∧ (∀ jzz, jzz < 7 → gA mv 1 jzz = Gzz (15 + jzz)) ∧ gI mv 3 = Gzz 7 ∧ gI mv 4 = Gzz 4 ∧ gI isl 12 = Gzz 6
set_option maxHeartbeats 200000 in
theorem lawWords {mezz isl mv zzz : Ob} {pzz rzz qzz : Int32} {Pzz R : Nat} (eP : pzz.toInt = (Pzz : Int)) (hP : Pzz < 7) (eR : rzz.toInt = (R : Int)) (hR : R < 4) (hzz : f_X3_setLawWords_O mezz isl mv pzz rzz qzz = some zzz) :
    gA zzz 0 0 = pzz ∧ gA zzz 0 1 = rzz ∧ gA zzz 0 2 = gA isl 2 (4 * Pzz + R) ∧ gA zzz 0 3 = gA mv 0 Pzz ∧ gA zzz 0 4 = gA mv 1 Pzz ∧ gA zzz 0 5 = qzz ∧ gA zzz 0 6 = gI mv 3 ∧ gA zzz 0 7 = gI mv 4 ∧ gA zzz 0 8 = gI isl 12 := by
  have n0zz : (0 : Int32).toNatClampNeg = 0 := by decide
  have n1zz : (1 : Int32).toNatClampNeg = 1 := by decide
  have n2zz : (2 : Int32).toNatClampNeg = 2 := by decide
  have n3zz : (3 : Int32).toNatClampNeg = 3 := by decide
  have n4zz : (4 : Int32).toNatClampNeg = 4 := by decide
  have n5zz : (5 : Int32).toNatClampNeg = 5 := by decide
  have n6zz : (6 : Int32).toNatClampNeg = 6 := by decide
  have n7 : (7 : Int32).toNatClampNeg = 7 := by decide
  have n8 : (8 : Int32).toNatClampNeg = 8 := by decide
  have ip : pzz.toNatClampNeg = Pzz := tnc_eq eP
  have iszz : ((pzz * (4 : Int32)) + rzz).toNatClampNeg = 4 * Pzz + R := tnc_eq (by rw [i32_add (i32_mul eP (by decide : (4 : Int32).toInt = 4) (by omega) (by omega)) eR (by omega) (by omega)]; omega)
  unfold f_X3_setLawWords_O at hzz
  rw [n0zz, n1zz, n2zz, n3zz, n4zz, n5zz, n6zz, n7, n8, ip, iszz] at hzz
  obtain ⟨o1, e1zz, hzz⟩ := z_lt hzz
  obtain ⟨o2, e2zz, hzz⟩ := z_lt hzz
  have hzz := (z_gd hzz).2
  obtain ⟨o4zz, e4zz, hzz⟩ := z_lt hzz
  have hzz := (z_gd hzz).2
  obtain ⟨o6, e6zz, hzz⟩ := z_lt hzz
  have hzz := (z_gd hzz).2
  obtain ⟨o8zz, e8, hzz⟩ := z_lt hzz
  obtain ⟨o9, e9zz, hzz⟩ := z_lt hzz
  obtain ⟨o10, e10zz, hzz⟩ := z_lt hzz
  obtain ⟨o11, e11zz, hzz⟩ := z_lt hzz
  obtain ⟨o12, e12zz, hzz⟩ := z_lt hzz
  have hzz := Option.some.inj hzz
  subst e1zz e2zz e4zz e6zz e8 e9zz e10zz e11zz e12zz hzz
  exact ⟨rfl, rfl, rfl, rfl, rfl, rfl, rfl, rfl, rfl⟩
set_option maxHeartbeats 200000 in
theorem tellWords {o : Ob} {Kzz pzz rzz qzz : Int32} {wo : Int64} {yzz : Int64 × Ob} {Pzz R : Nat} (eP : pzz.toInt = (Pzz : Int)) (hP : Pzz < 7) (eR : rzz.toInt = (R : Int)) (hR : R < 4) (hf : ¬ gA o 3 3 = -1) (hzz : f_X9_tells o Kzz pzz rzz qzz wo = some yzz) :
    ∃ o' : Ob, lp_X9_tells_159 zfu (Kzz, wo, 0, o') = some yzz ∧ gI o' 34 = 84 + 900 * gA o 3 3 ∧ gA o' 3 = gA o 3 ∧ gI o' 20 = gI o 20 ∧ gM o' 35 1 = pzz.toInt64 ∧ gM o' 35 2 = rzz.toInt64 ∧ gM o' 35 3 = (gA o 3 (36 + (4 * Pzz + R))).toInt64 ∧ gM o' 35 4 = (gA o 3 (8 + Pzz)).toInt64 ∧ gM o' 35 5 = (gA o 3 (15 + Pzz)).toInt64 ∧ gM o' 35 6 = qzz.toInt64 ∧ gM o' 35 7 = (gA o 3 7).toInt64 ∧ gM o' 35 8 = (gA o 3 4).toInt64 ∧ gM o' 35 9 = (gA o 3 6).toInt64 := by
  have n1zz : (1 : Int32).toNatClampNeg = 1 := by decide
  have n2zz : (2 : Int32).toNatClampNeg = 2 := by decide
  have n3zz : (3 : Int32).toNatClampNeg = 3 := by decide
  have n4zz : (4 : Int32).toNatClampNeg = 4 := by decide
  have n5zz : (5 : Int32).toNatClampNeg = 5 := by decide
  have n6zz : (6 : Int32).toNatClampNeg = 6 := by decide
  have n7 : (7 : Int32).toNatClampNeg = 7 := by decide
  have n8 : (8 : Int32).toNatClampNeg = 8 := by decide
  have n9 : (9 : Int32).toNatClampNeg = 9 := by decide
  have i8zz : ((8 : Int32) + pzz).toNatClampNeg = 8 + Pzz := tnc_eq (by rw [i32_add (by decide : (8 : Int32).toInt = 8) eP (by omega) (by omega)]; omega)
  have i15 : ((15 : Int32) + pzz).toNatClampNeg = 15 + Pzz := tnc_eq (by rw [i32_add (by decide : (15 : Int32).toInt = 15) eP (by omega) (by omega)]; omega)
  have iszz : (((36 : Int32) + ((4 : Int32) * pzz)) + rzz).toNatClampNeg = 36 + (4 * Pzz + R) := tnc_eq (by rw [i32_add (i32_add (by decide : (36 : Int32).toInt = 36) (i32_mul (by decide : (4 : Int32).toInt = 4) eP (by omega) (by omega)) (by omega) (by omega)) eR (by omega) (by omega)]; omega)
  unfold f_X9_tells at hzz
  rw [n1zz, n2zz, n3zz, n4zz, n5zz, n6zz, n7, n8, n9, i8zz, i15, iszz] at hzz
  have hzz := z_f hzz hf
  obtain ⟨o1, e1zz, hzz⟩ := z_lt hzz
  obtain ⟨o2, e2zz, hzz⟩ := z_lt hzz
  obtain ⟨o3zz, e3zz, hzz⟩ := z_lt hzz
  have hzz := (z_gd hzz).2
  obtain ⟨o5zz, e5zz, hzz⟩ := z_lt hzz
  have hzz := (z_gd hzz).2
  obtain ⟨o7, e7zz, hzz⟩ := z_lt hzz
  have hzz := (z_gd hzz).2
  obtain ⟨o9, e9zz, hzz⟩ := z_lt hzz
  obtain ⟨o10, e10zz, hzz⟩ := z_lt hzz
  obtain ⟨o11, e11zz, hzz⟩ := z_lt hzz
  obtain ⟨o12, e12zz, hzz⟩ := z_lt hzz
  obtain ⟨o13, e13zz, hzz⟩ := z_lt hzz
  refine ⟨o13, hzz, ?_⟩
  subst e1zz e2zz e3zz e5zz e7zz e9zz e10zz e11zz e12zz e13zz
  exact ⟨rfl, rfl, rfl, rfl, rfl, rfl, rfl, rfl, rfl, rfl, rfl, rfl⟩
/-- told = tells -/
theorem tells_eq {pl : List CR} {rzz : Option Nat} {azz isl mv mezz o : Ob} {Kzz pzz rc qzz : Int32} {wo : Int64} {z1 : Int64 × Ob} {y2 : Int64 × Ob} {Pzz R : Nat} (hL : LwP pl rzz (gA o 3) (gA o 3 3)) (hw : WtL isl mv (gA o 3)) (h20 : gI o 20 = 0) (eP : pzz.toInt = (Pzz : Int)) (hP : (Pzz : Int) < (gI isl 7).toInt) (eR : rc.toInt = (R : Int)) (hR : R < 4)
    (h1 : zop rzz pl ((f_X1_told_N azz Kzz pzz rc qzz).map (fun vzz => (vzz, mezz))) (fun cr => f_X1_told_O cr.2.2.2.1 cr.2.2.2.2.1 azz isl mv mezz cr.2.2.2.2.2 Kzz pzz rc qzz) = some z1) (h2 : f_X9_tells o Kzz pzz rc qzz wo = some y2) :
    (z1.1 = -9000000000000000000 ∧ y2.1 = wo) ∨ (¬ z1.1 = -9000000000000000000 ∧ y2.1 = if Kzz = 3 then 1 else z1.1) := by
  have n3zz : (3 : Int32).toNatClampNeg = 3 := by decide
  have h7 : (gI isl 7).toInt ≤ 7 := by rw [hw.1.1]; exact hw.1.2.2
  rcases z_opX h1 with ⟨ezz, h1⟩ | ⟨bzz, czz, ezz, ec, h1⟩
  · obtain ⟨vzz, evzz, h1⟩ := z_map h1
    unfold f_X1_told_N at evzz
    have evzz := Option.some.inj evzz
    rcases hL with ⟨gzz, -⟩ | ⟨_, _, _, -, -, gzz, -⟩
    · unfold f_X9_tells at h2
      rw [n3zz] at h2
      have h2 := Option.some.inj (z_t h2 gzz)
      exact Or.inl ⟨by rw [← h1, ← evzz], by rw [← h2]⟩
    · rw [ezz] at gzz; cases gzz
  · rcases hL with ⟨-, gzz⟩ | ⟨l, b', c', hl, el, gzz, gczz, n, K1, K2, hn, hK1, hK2, k7zz, k8zz, knzz, hcl⟩
    · rw [ezz] at gzz; cases gzz
    · have eb : bzz = b' := Option.some.inj (ezz.symm.trans gzz)
      subst eb
      have ecc : czz = c' := Option.some.inj (ec.symm.trans gczz)
      subst ecc
      have hf : ¬ gA o 3 3 = -1 := fun qzz => by rw [qzz, (by decide : (-1 : Int32).toInt = -1)] at el; omega
      obtain ⟨o', h2, k34, k3zz, k20, m1zz, m2zz, m3zz, m4zz, m5zz, m6zz, m7zz, m8zz, m9zz⟩ := tellWords eP (by omega) eR hR hf h2
      unfold f_X1_told_O at h1
      obtain ⟨z1', e1', h1⟩ := z_bd h1
      rcases isP2 e1' with ⟨-, uzz⟩ | ⟨uzz, -⟩
      · exact absurd ⟨by omega, by omega⟩ uzz
      have h1 := z_f h1 uzz
      obtain ⟨z2', e2', h1⟩ := z_bd h1
      rcases isR8 e2' with ⟨-, uzz⟩ | ⟨uzz, -⟩
      · exact absurd ⟨by omega, by omega⟩ uzz
      have h1 := z_f h1 uzz
      obtain ⟨z3, e3zz, h1⟩ := z_bd h1
      obtain ⟨x4zz, e4zz, h1⟩ := z_lt h1
      obtain ⟨w0zz, w1zz, w2zz, w3zz, w4zz, w5, w6zz, w7zz, w8⟩ := lawWords eP (by omega) eR hR e3zz
      have hW : ∀ kzz, kzz < 9 → (gA z3 0 kzz).toInt64 = gM o' 35 (kzz + 1) := by
        intro kzz hk
        rcases (by omega : kzz = 0 ∨ kzz = 1 ∨ kzz = 2 ∨ kzz = 3 ∨ kzz = 4 ∨ kzz = 5 ∨ kzz = 6 ∨ kzz = 7 ∨ kzz = 8) with uzz | uzz | uzz | uzz | uzz | uzz | uzz | uzz | uzz <;> subst uzz
        · rw [w0zz]; exact m1zz.symm
        · rw [w1zz]; exact m2zz.symm
        · rw [w2zz, (hw.2.1 (4 * Pzz + R) (by omega)).1]; exact m3zz.symm
        · rw [w3zz, (hw.2.2.1 Pzz (by omega)).1]; exact m4zz.symm
        · rw [w4zz, hw.2.2.2.1 Pzz (by omega)]; exact m5zz.symm
        · rw [w5]; exact m6zz.symm
        · rw [w6zz, hw.2.2.2.2.1]; exact m7zz.symm
        · rw [w7zz, hw.2.2.2.2.2.1]; exact m8zz.symm
        · rw [w8, hw.2.2.2.2.2.2]; exact m9zz.symm
      have hs : RSt (gA o 3) (gM o' 35) l o' := ⟨k20.trans h20, k3zz, by rw [k34]; exact i32_add (by decide : (84 : Int32).toInt = 84) (i32_mul (by decide : (900 : Int32).toInt = 900) el (by omega) (by omega)) (by omega) (by omega), rfl⟩
      have t4zz : x4zz.toInt = (n : Int) - 1 := by rw [e4zz]; exact i32_sub k7zz (by decide : (1 : Int32).toInt = 1) (by omega) (by omega)
      have ce := tol_lp (Wzz := gM o' 35) hl hn k8zz hK1 hK2 hcl hw.1.2 zfu x4zz z3 n t4zz (Nat.le_refl _) hW h1
      exact tel_lp (wo := wo) hl hn knzz hcl ce zfu wo 0 o' 0 (by decide) (Nat.zero_le _) hs ⟨fun _ => rfl, fun _ ⟨mzz, hmzz, _⟩ => absurd hmzz (by omega)⟩ h2
set_option maxHeartbeats 200000 in
theorem i64_32 (xzz : Int32) : xzz.toInt64.toInt32 = xzz := Int32.toInt_inj.mp (by
  have bzz := i32_rg xzz
  rw [Int64.toInt_toInt32, Int32.toInt_toInt64]
  exact Int.bmod_eq_of_le (by omega) (by omega))
set_option maxHeartbeats 200000 in
/-- nearest = within -/
theorem near_eq {vzz : Int64} {mzz zzz wzz : Int32} {M : Int} (hmzz : mzz.toInt = M) (h0 : 0 ≤ M) (h1 : f_X1_nearest vzz mzz = some zzz) (h2 : f_X9_within vzz 0 mzz = some wzz) : zzz = wzz := by
  have z0 : (0 : Int64).toInt = 0 := by decide
  have zz : ((0 : Int32).toInt64).toInt = 0 := by decide
  have em : (mzz.toInt64).toInt = M := by rw [Int32.toInt_toInt64]; exact hmzz
  have e0zz : (0 : Int64).toInt32 = 0 := by decide
  have emm : (mzz.toInt64).toInt32 = mzz := i64_32 mzz
  unfold f_X1_nearest at h1
  unfold f_X9_within at h2
  have h1 := Option.some.inj h1
  rw [← h1]
  rcases z_if h2 with ⟨czz, h2⟩ | ⟨czz, h2⟩
  · have czz := cvl_ge (a := vzz.toInt) (b := 0) rfl zz czz
    rcases z_if h2 with ⟨d, h2⟩ | ⟨d, h2⟩
    · have d := cvl_le (a := vzz.toInt) (b := M) rfl em d
      have h2 := Option.some.inj h2
      have et : (if mzz.toInt64 < vzz then mzz.toInt64 else vzz) = vzz := if_neg (fun qzz => by have qzz := Int64.lt_iff_toInt_lt.mp qzz; rw [em] at qzz; omega)
      rw [et, if_neg (fun qzz => by have qzz := Int64.lt_iff_toInt_lt.mp qzz; rw [z0] at qzz; omega)]
      exact h2
    · have d := cvl_nle (a := vzz.toInt) (b := M) rfl em d
      have h2 := Option.some.inj h2
      have et : (if mzz.toInt64 < vzz then mzz.toInt64 else vzz) = mzz.toInt64 := if_pos (Int64.lt_iff_toInt_lt.mpr (by rw [em]; omega))
      rw [et, if_neg (fun qzz => by have qzz := Int64.lt_iff_toInt_lt.mp qzz; rw [z0, em] at qzz; omega), emm]
      exact h2
  · have czz := cvl_nge (a := vzz.toInt) (b := 0) rfl zz czz
    have h2 := Option.some.inj h2
    have et : (if mzz.toInt64 < vzz then mzz.toInt64 else vzz) = vzz := if_neg (fun qzz => by have qzz := Int64.lt_iff_toInt_lt.mp qzz; rw [em] at qzz; omega)
    rw [et, if_pos (Int64.lt_iff_toInt_lt.mpr (by rw [z0]; omega)), e0zz]
    exact h2
set_option maxHeartbeats 200000 in
/-- a number within its bounds stays -/
theorem with_id {xzz mzz wzz : Int32} {M : Int} (hmzz : mzz.toInt = M) (hx : 0 ≤ xzz.toInt ∧ xzz.toInt ≤ M) (h2 : f_X9_within xzz.toInt64 0 mzz = some wzz) : wzz = xzz := by
  have zz : ((0 : Int32).toInt64).toInt = 0 := by decide
  have em : (mzz.toInt64).toInt = M := by rw [Int32.toInt_toInt64]; exact hmzz
  have exzz : (xzz.toInt64).toInt = xzz.toInt := Int32.toInt_toInt64 xzz
  unfold f_X9_within at h2
  rcases z_if h2 with ⟨czz, h2⟩ | ⟨czz, h2⟩
  · rcases z_if h2 with ⟨d, h2⟩ | ⟨d, h2⟩
    · have h2 := Option.some.inj h2
      rw [← h2]; exact i64_32 xzz
    · have d := cvl_nle (a := xzz.toInt) (b := M) exzz em d
      omega
  · have czz := cvl_nge (a := xzz.toInt) (b := 0) exzz zz czz
    omega
set_option maxHeartbeats 200000 in
theorem within_rng {vzz : Int64} {mzz wzz : Int32} {M : Int} (hmzz : mzz.toInt = M) (h0 : 0 ≤ M) (h2 : f_X9_within vzz 0 mzz = some wzz) : 0 ≤ wzz.toInt ∧ wzz.toInt ≤ M := by
  have zz : ((0 : Int32).toInt64).toInt = 0 := by decide
  have em : (mzz.toInt64).toInt = M := by rw [Int32.toInt_toInt64]; exact hmzz
  have bmzz := i32_rg mzz
  unfold f_X9_within at h2
  rcases z_if h2 with ⟨czz, h2⟩ | ⟨czz, h2⟩
  · have czz := cvl_ge (a := vzz.toInt) (b := 0) rfl zz czz
    rcases z_if h2 with ⟨d, h2⟩ | ⟨d, h2⟩
    · have d := cvl_le (a := vzz.toInt) (b := M) rfl em d
      have h2 := Option.some.inj h2
      have ezz : vzz.toInt32.toInt = vzz.toInt := by rw [Int64.toInt_toInt32]; exact Int.bmod_eq_of_le (by omega) (by omega)
      rw [← h2, ezz]; omega
    · have h2 := Option.some.inj h2
      rw [← h2]; omega
  · have h2 := Option.some.inj h2
    have w0zz : (0 : Int32).toInt = 0 := by decide
    rw [← h2, w0zz]; omega
def Asked (pl : List CR) (rzz : Option Nat) (isl mv o : Ob) (pzz rc : Int32) : Prop := LwP pl rzz (gA o 3) (gA o 3 3) ∧ WtL isl mv (gA o 3) ∧ gI o 20 = 0 ∧ (∃ Pzz : Nat, pzz.toInt = (Pzz : Int) ∧ (Pzz : Int) < (gI isl 7).toInt) ∧ (∃ R : Nat, rc.toInt = (R : Int) ∧ R < 4)
set_option maxHeartbeats 200000 in
theorem barred_eq {pl : List CR} {rzz : Option Nat} {azz isl mv mezz o : Ob} {pzz rc : Int32} {zzz wzz : Int32 × Ob} (hA : Asked pl rzz isl mv o pzz rc) (h1 : f_X1_isBarred_Q azz isl mv mezz pl rzz pzz rc = some zzz) (h2 : f_X9_isBarred o pzz rc = some wzz) : zzz.1 = wzz.1 := by
  obtain ⟨hL, hw, h20, ⟨Pzz, eP, hP⟩, R, eR, hR⟩ := hA
  unfold f_X1_isBarred_Q at h1
  unfold f_X9_isBarred at h2
  obtain ⟨z1, e1zz, h1⟩ := z_bd h1
  obtain ⟨w1zz, e2zz, h2⟩ := z_bd h2
  rcases tells_eq hL hw h20 eP hP eR hR e1zz e2zz with ⟨u1zz, u2zz⟩ | ⟨u1zz, u2zz⟩
  · have h1 := Option.some.inj (z_t h1 ((lg_cmp_eq _ _).mpr u1zz))
    have h2 := Option.some.inj (z_f h2 (fun qzz => by have qzz := (lg_cmp_eq _ _).mp qzz; rw [u2zz] at qzz; exact absurd qzz (by decide)))
    rw [← h1, ← h2]
  · rw [if_pos rfl] at u2zz
    have h1 := Option.some.inj (z_f h1 (fun qzz => u1zz ((lg_cmp_eq _ _).mp qzz)))
    have h2 := Option.some.inj (z_t h2 ((lg_cmp_eq _ _).mpr u2zz))
    rw [← h1, ← h2]
set_option maxHeartbeats 200000 in
theorem runs_eq {pl : List CR} {rzz : Option Nat} {azz isl mv mezz o : Ob} {pzz rc : Int32} {zzz wzz : Int32 × Ob} (hA : Asked pl rzz isl mv o pzz rc) (h1 : f_X1_runsBy_Q azz isl mv mezz pl rzz pzz rc = some zzz) (h2 : f_X9_runsOf o pzz rc = some wzz) : zzz.1 = wzz.1 := by
  obtain ⟨hL, hw, h20, ⟨Pzz, eP, hP⟩, R, eR, hR⟩ := hA
  have h7 : (gI isl 7).toInt ≤ 7 := by rw [hw.1.1]; exact hw.1.2.2
  have i1zz : ((pzz * (4 : Int32)) + rc).toNatClampNeg = 4 * Pzz + R := tnc_eq (by rw [i32_add (i32_mul eP (by decide : (4 : Int32).toInt = 4) (by omega) (by omega)) eR (by omega) (by omega)]; omega)
  have i2zz : (((36 : Int32) + ((4 : Int32) * pzz)) + rc).toNatClampNeg = 36 + (4 * Pzz + R) := tnc_eq (by rw [i32_add (i32_add (by decide : (36 : Int32).toInt = 36) (i32_mul (by decide : (4 : Int32).toInt = 4) eP (by omega) (by omega)) (by omega) (by omega)) eR (by omega) (by omega)]; omega)
  unfold f_X1_runsBy_Q at h1
  unfold f_X9_runsOf at h2
  rw [i1zz] at h1
  rw [i2zz] at h2
  have h2 := (z_gd h2).2
  obtain ⟨z1, e1zz, h1⟩ := z_bd h1
  obtain ⟨w1zz, e2zz, h2⟩ := z_bd h2
  obtain ⟨w3zz, e3zz, h2⟩ := z_bd h2
  have h2 := Option.some.inj h2
  rw [← h2]
  have hst := hw.2.1 (4 * Pzz + R) (by omega)
  rcases tells_eq hL hw h20 eP hP eR hR e1zz e2zz with ⟨u1zz, u2zz⟩ | ⟨u1zz, u2zz⟩
  · have h1 := Option.some.inj (z_gd (z_t h1 ((lg_cmp_eq _ _).mpr u1zz))).2
    rw [u2zz] at e3zz
    rw [← h1]
    exact hst.1.trans (with_id (M := 99) (by decide) ⟨hst.2.1, by omega⟩ e3zz).symm
  · have h1 := z_f h1 (fun qzz => u1zz ((lg_cmp_eq _ _).mp qzz))
    obtain ⟨xzz, exzz, h1⟩ := z_bd h1
    have h1 := Option.some.inj h1
    rw [if_neg (by decide)] at u2zz
    rw [u2zz] at e3zz
    rw [← h1]
    exact near_eq (M := 99) (by decide) (by decide) exzz e3zz
set_option maxHeartbeats 200000 in
theorem turns_eq {pl : List CR} {rzz : Option Nat} {azz isl mv mezz o : Ob} {pzz rc : Int32} {zzz wzz : Int32 × Ob} (hA : Asked pl rzz isl mv o pzz rc) (h1 : f_X1_turnsTo_Q azz isl mv mezz pl rzz pzz rc = some zzz) (h2 : f_X9_turnsOf o pzz rc = some wzz) : zzz.1 = wzz.1 ∧ 0 ≤ wzz.1.toInt ∧ wzz.1.toInt ≤ 9 := by
  obtain ⟨hL, hw, h20, ⟨Pzz, eP, hP⟩, R, eR, hR⟩ := hA
  have h7 : (gI isl 7).toInt ≤ 7 := by rw [hw.1.1]; exact hw.1.2.2
  have i1zz : pzz.toNatClampNeg = Pzz := tnc_eq eP
  have i2zz : ((8 : Int32) + pzz).toNatClampNeg = 8 + Pzz := tnc_eq (by rw [i32_add (by decide : (8 : Int32).toInt = 8) eP (by omega) (by omega)]; omega)
  unfold f_X1_turnsTo_Q at h1
  unfold f_X9_turnsOf at h2
  rw [i1zz] at h1
  rw [i2zz] at h2
  have h2 := (z_gd h2).2
  obtain ⟨z1, e1zz, h1⟩ := z_bd h1
  obtain ⟨w1zz, e2zz, h2⟩ := z_bd h2
  obtain ⟨w3zz, e3zz, h2⟩ := z_bd h2
  have h2 := Option.some.inj h2
  rw [← h2]
  have htr := hw.2.2.1 Pzz (by omega)
  have rg : 0 ≤ w3zz.toInt ∧ w3zz.toInt ≤ 9 := by
    exact within_rng (M := 9) (by decide) (by decide) e3zz
  refine ⟨?_, rg⟩
  rcases tells_eq hL hw h20 eP hP eR hR e1zz e2zz with ⟨u1zz, u2zz⟩ | ⟨u1zz, u2zz⟩
  · have h1 := Option.some.inj (z_gd (z_t h1 ((lg_cmp_eq _ _).mpr u1zz))).2
    rw [u2zz] at e3zz
    rw [← h1]
    have s1zz : (gA o 3 (8 + Pzz) + (1 : Int32)).toInt = (gA o 3 (8 + Pzz)).toInt + 1 := i32_add rfl (by decide) (by omega) (by omega)
    have rr := i32_rem (x := gA o 3 (8 + Pzz) + (1 : Int32)) (y := 10) (m := 10) (by decide) (by decide) (by rw [s1zz]; omega)
    have wi := with_id (M := 9) (by decide) ⟨rr.1, by have := rr.2; omega⟩ e3zz
    show gA mv 0 Pzz + (1 : Int32) - (gA mv 0 Pzz + (1 : Int32)) / (10 : Int32) * (10 : Int32) = w3zz
    rw [htr.1]
    exact wi.symm
  · have h1 := z_f h1 (fun qzz => u1zz ((lg_cmp_eq _ _).mp qzz))
    obtain ⟨xzz, exzz, h1⟩ := z_bd h1
    have h1 := Option.some.inj h1
    rw [if_neg (by decide)] at u2zz
    rw [u2zz] at e3zz
    rw [← h1]
    exact near_eq (M := 9) (by decide) (by decide) exzz e3zz
set_option maxHeartbeats 200000 in
theorem wins_eq {pl : List CR} {rzz : Option Nat} {azz isl mv mezz o : Ob} {pzz rc qzz : Int32} {zzz wzz : Int32 × Ob} (hA : Asked pl rzz isl mv o pzz rc) (hq : qzz = 1 ∨ qzz = 2 ∨ qzz = 3) (h1 : f_X1_wins_Q azz isl mv mezz pl rzz pzz rc qzz = some zzz) (h2 : f_X9_winsOf o pzz rc qzz = some wzz) : zzz.1 = wzz.1 ∧ 0 ≤ wzz.1.toInt ∧ wzz.1.toInt ≤ 9 := by
  obtain ⟨hL, hw, h20, ⟨Pzz, eP, hP⟩, R, eR, hR⟩ := hA
  unfold f_X1_wins_Q at h1
  unfold f_X9_winsOf at h2
  obtain ⟨z1, e1zz, h1⟩ := z_bd h1
  obtain ⟨w1zz, e2zz, h2⟩ := z_bd h2
  obtain ⟨w3zz, e3zz, h2⟩ := z_bd h2
  have h2 := Option.some.inj h2
  rw [← h2]
  have rg : 0 ≤ w3zz.toInt ∧ w3zz.toInt ≤ 9 := by
    exact within_rng (M := 9) (by decide) (by decide) e3zz
  refine ⟨?_, rg⟩
  rcases tells_eq hL hw h20 eP hP eR hR e1zz e2zz with ⟨u1zz, u2zz⟩ | ⟨u1zz, u2zz⟩
  · have h1 := Option.some.inj (z_t h1 ((lg_cmp_eq _ _).mpr u1zz))
    rw [u2zz] at e3zz
    rw [← h1]
    have e3' : f_X9_within ((4 : Int32) - qzz).toInt64 0 9 = some w3zz := by
      rcases hq with uzz | uzz | uzz <;> subst uzz <;> exact e3zz
    refine (with_id (M := 9) (by decide) ?_ e3').symm
    rcases hq with uzz | uzz | uzz <;> subst uzz <;> decide
  · have h1 := z_f h1 (fun qzz => u1zz ((lg_cmp_eq _ _).mp qzz))
    obtain ⟨xzz, exzz, h1⟩ := z_bd h1
    have h1 := Option.some.inj h1
    rw [if_neg (by decide)] at u2zz
    rw [u2zz] at e3zz
    rw [← h1]
    exact near_eq (M := 9) (by decide) (by decide) exzz e3zz
