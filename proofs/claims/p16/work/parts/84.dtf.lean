def LwE (oc : Ob) (Gzz : Nat → Int32) (l : Nat) : Prop := ∃ n K1 K2 : Nat, n ≤ 12 ∧ K1 ≤ 400 ∧ K2 ≤ 400 ∧ (gI oc 7).toInt = (n : Int) ∧ (gI oc 8).toInt = (K1 : Int) ∧ (Gzz (84 + 900 * l + 1)).toInt = (n : Int) ∧ ∀ mzz, mzz < n → ClE false oc (clL Gzz l) (opL Gzz l) (argL Gzz l) mzz K1 K2
def LwP (pl : List CR) (rzz : Option Nat) (Gzz : Nat → Int32) (lw : Int32) : Prop := (lw = -1 ∧ rzz = none) ∨ (∃ (l azz : Nat) (czz : CR), l < 6 ∧ lw.toInt = (l : Int) ∧ rzz = some azz ∧ pfind pl azz = some czz ∧ LwE czz.2.2.2.2.2 Gzz l)
def WtL (isl mv : Ob) (Gzz : Nat → Int32) : Prop := (gI isl 7 = Gzz 0 ∧ 0 ≤ (Gzz 0).toInt ∧ (Gzz 0).toInt ≤ 7) ∧ (∀ jzz, jzz < 28 → gA isl 2 jzz = Gzz (36 + jzz) ∧ 0 ≤ (Gzz (36 + jzz)).toInt ∧ (Gzz (36 + jzz)).toInt ≤ 9) ∧ (∀ jzz, jzz < 7 → gA mv 0 jzz = Gzz (8 + jzz) ∧ 0 ≤ (Gzz (8 + jzz)).toInt ∧ (Gzz (8 + jzz)).toInt ≤ 9) ∧ (∀ jzz, jzz < 7 → gA mv 1 jzz = Gzz (15 + jzz)) ∧ gI mv 3 = Gzz 7 ∧ gI mv 4 = Gzz 4 ∧ gI isl 12 = Gzz 6
set_option maxHeartbeats 200000 in
theorem lawWords {mezz isl mv zzz : Ob} {pzz rzz qzz : Int32} {Pzz R : Nat} (eP : pzz.toInt = (Pzz : Int)) (hP : Pzz < 7) (eR : rzz.toInt = (R : Int)) (hR : R < 4) (hzz : f_X3_setLawWords_O mezz isl mv pzz rzz qzz = some zzz) :
    gA zzz 0 0 = pzz ∧ gA zzz 0 1 = rzz ∧ gA zzz 0 2 = gA isl 2 (4 * Pzz + R) ∧ gA zzz 0 3 = gA mv 0 Pzz ∧ gA zzz 0 4 = gA mv 1 Pzz ∧ gA zzz 0 5 = qzz ∧ gA zzz 0 6 = gI mv 3 ∧ gA zzz 0 7 = gI mv 4 ∧ gA zzz 0 8 = gI isl 12 := by
  have n0zz : (0 : Int32).toNatClampNeg = 0 := by decide
  have n1zz : (1 : Int32).toNatClampNeg = 1 := by decide
  have n2zz : (2 : Int32).toNatClampNeg = 2 := by decide
  have n3zz : (3 : Int32).toNatClampNeg = 3 := by decide
  have n4zz : (4 : Int32).toNatClampNeg = 4 := by decide
  have n5zz : (5 : Int32).toNatClampNeg = 5 := by decide
  have n6zz : (6 : Int32).toNatClampNeg = 6 := by decide
  have n7 : (7 : Int32).toNatClampNeg = 7 := by decide
  have n8 : (8 : Int32).toNatClampNeg = 8 := by decide
  have ip : pzz.toNatClampNeg = Pzz := tnc_eq eP
  have iszz : ((pzz * (4 : Int32)) + rzz).toNatClampNeg = 4 * Pzz + R := tnc_eq (by rw [i32_add (i32_mul eP (by decide : (4 : Int32).toInt = 4) (by omega) (by omega)) eR (by omega) (by omega)]; omega)
  unfold f_X3_setLawWords_O at hzz
  rw [n0zz, n1zz, n2zz, n3zz, n4zz, n5zz, n6zz, n7, n8, ip, iszz] at hzz
  obtain ⟨o1, e1zz, hzz⟩ := z_lt hzz
  obtain ⟨o2, e2zz, hzz⟩ := z_lt hzz
  have hzz := (z_gd hzz).2
  obtain ⟨o4zz, e4zz, hzz⟩ := z_lt hzz
  have hzz := (z_gd hzz).2
  obtain ⟨o6, e6zz, hzz⟩ := z_lt hzz
  have hzz := (z_gd hzz).2
  obtain ⟨o8zz, e8, hzz⟩ := z_lt hzz
  obtain ⟨o9, e9zz, hzz⟩ := z_lt hzz
  obtain ⟨o10, e10zz, hzz⟩ := z_lt hzz
  obtain ⟨o11, e11zz, hzz⟩ := z_lt hzz
  obtain ⟨o12, e12zz, hzz⟩ := z_lt hzz
  have hzz := Option.some.inj hzz
  subst e1zz e2zz e4zz e6zz e8 e9zz e10zz e11zz e12zz hzz
  exact ⟨rfl, rfl, rfl, rfl, rfl, rfl, rfl, rfl, rfl⟩
set_option maxHeartbeats 200000 in
theorem tellWords {o : Ob} {Kzz pzz rzz qzz : Int32} {wo : Int64} {yzz : Int64 × Ob} {Pzz R : Nat} (eP : pzz.toInt = (Pzz : Int)) (hP : Pzz < 7) (eR : rzz.toInt = (R : Int)) (hR : R < 4) (hf : ¬ gA o 3 3 = -1) (hzz : f_X9_tells o Kzz pzz rzz qzz wo = some yzz) :
    ∃ o' : Ob, lp_X9_tells_159 zfu (Kzz, wo, 0, o') = some yzz ∧ gI o' 34 = 84 + 900 * gA o 3 3 ∧ gA o' 3 = gA o 3 ∧ gI o' 20 = gI o 20 ∧ gM o' 35 1 = pzz.toInt64 ∧ gM o' 35 2 = rzz.toInt64 ∧ gM o' 35 3 = (gA o 3 (36 + (4 * Pzz + R))).toInt64 ∧ gM o' 35 4 = (gA o 3 (8 + Pzz)).toInt64 ∧ gM o' 35 5 = (gA o 3 (15 + Pzz)).toInt64 ∧ gM o' 35 6 = qzz.toInt64 ∧ gM o' 35 7 = (gA o 3 7).toInt64 ∧ gM o' 35 8 = (gA o 3 4).toInt64 ∧ gM o' 35 9 = (gA o 3 6).toInt64 := by
  have n1zz : (1 : Int32).toNatClampNeg = 1 := by decide
  have n2zz : (2 : Int32).toNatClampNeg = 2 := by decide
  have n3zz : (3 : Int32).toNatClampNeg = 3 := by decide
  have n4zz : (4 : Int32).toNatClampNeg = 4 := by decide
  have n5zz : (5 : Int32).toNatClampNeg = 5 := by decide
  have n6zz : (6 : Int32).toNatClampNeg = 6 := by decide
  have n7 : (7 : Int32).toNatClampNeg = 7 := by decide
  have n8 : (8 : Int32).toNatClampNeg = 8 := by decide
  have n9 : (9 : Int32).toNatClampNeg = 9 := by decide
  have i8zz : ((8 : Int32) + pzz).toNatClampNeg = 8 + Pzz := tnc_eq (by rw [i32_add (by decide : (8 : Int32).toInt = 8) eP (by omega) (by omega)]; omega)
  have i15 : ((15 : Int32) + pzz).toNatClampNeg = 15 + Pzz := tnc_eq (by rw [i32_add (by decide : (15 : Int32).toInt = 15) eP (by omega) (by omega)]; omega)
  have iszz : (((36 : Int32) + ((4 : Int32) * pzz)) + rzz).toNatClampNeg = 36 + (4 * Pzz + R) := tnc_eq (by rw [i32_add (i32_add (by decide : (36 : Int32).toInt = 36) (i32_mul (by decide : (4 : Int32).toInt = 4) eP (by omega) (by omega)) (by omega) (by omega)) eR (by omega) (by omega)]; omega)
  unfold f_X9_tells at hzz
  rw [n1zz, n2zz, n3zz, n4zz, n5zz, n6zz, n7, n8, n9, i8zz, i15, iszz] at hzz
  have hzz := z_f hzz hf
  obtain ⟨o1, e1zz, hzz⟩ := z_lt hzz
  obtain ⟨o2, e2zz, hzz⟩ := z_lt hzz
  obtain ⟨o3zz, e3zz, hzz⟩ := z_lt hzz
  have hzz := (z_gd hzz).2
  obtain ⟨o5zz, e5zz, hzz⟩ := z_lt hzz
  have hzz := (z_gd hzz).2
  obtain ⟨o7, e7zz, hzz⟩ := z_lt hzz
  have hzz := (z_gd hzz).2
  obtain ⟨o9, e9zz, hzz⟩ := z_lt hzz
  obtain ⟨o10, e10zz, hzz⟩ := z_lt hzz
  obtain ⟨o11, e11zz, hzz⟩ := z_lt hzz
  obtain ⟨o12, e12zz, hzz⟩ := z_lt hzz
  obtain ⟨o13, e13zz, hzz⟩ := z_lt hzz
  refine ⟨o13, hzz, ?_⟩
  subst e1zz e2zz e3zz e5zz e7zz e9zz e10zz e11zz e12zz e13zz
  exact ⟨rfl, rfl, rfl, rfl, rfl, rfl, rfl, rfl, rfl, rfl, rfl, rfl⟩
set_option maxHeartbeats 200000 in
theorem tells_eq {pl : List CR} {rzz : Option Nat} {azz isl mv mezz o : Ob} {Kzz pzz rc qzz : Int32} {wo : Int64} {z1 : Int64 × Ob} {y2 : Int64 × Ob} {Pzz R : Nat} (hL : LwP pl rzz (gA o 3) (gA o 3 3)) (hw : WtL isl mv (gA o 3)) (h20 : gI o 20 = 0) (eP : pzz.toInt = (Pzz : Int)) (hP : (Pzz : Int) < (gI isl 7).toInt) (eR : rc.toInt = (R : Int)) (hR : R < 4)
    (h1 : zop rzz pl ((f_X1_told_N azz Kzz pzz rc qzz).map (fun vzz => (vzz, mezz))) (fun cr => f_X1_told_O cr.2.2.2.1 cr.2.2.2.2.1 azz isl mv mezz cr.2.2.2.2.2 Kzz pzz rc qzz) = some z1) (h2 : f_X9_tells o Kzz pzz rc qzz wo = some y2) :
    (z1.1 = -9000000000000000000 ∧ y2.1 = wo) ∨ (¬ z1.1 = -9000000000000000000 ∧ y2.1 = if Kzz = 3 then 1 else z1.1) := by
  have n3zz : (3 : Int32).toNatClampNeg = 3 := by decide
  have h7 : (gI isl 7).toInt ≤ 7 := by rw [hw.1.1]; exact hw.1.2.2
  rcases z_opX h1 with ⟨ezz, h1⟩ | ⟨bzz, czz, ezz, ec, h1⟩
  · obtain ⟨vzz, evzz, h1⟩ := z_map h1
    unfold f_X1_told_N at evzz
    have evzz := Option.some.inj evzz
    rcases hL with ⟨gzz, -⟩ | ⟨_, _, _, -, -, gzz, -⟩
    · unfold f_X9_tells at h2
      rw [n3zz] at h2
      have h2 := Option.some.inj (z_t h2 gzz)
      exact Or.inl ⟨by rw [← h1, ← evzz], by rw [← h2]⟩
    · rw [ezz] at gzz; cases gzz
  · rcases hL with ⟨-, gzz⟩ | ⟨l, b', c', hl, el, gzz, gczz, n, K1, K2, hn, hK1, hK2, k7zz, k8zz, knzz, hcl⟩
    · rw [ezz] at gzz; cases gzz
    · have eb : bzz = b' := Option.some.inj (ezz.symm.trans gzz)
      subst eb
      have ecc : czz = c' := Option.some.inj (ec.symm.trans gczz)
      subst ecc
      have hf : ¬ gA o 3 3 = -1 := fun qzz => by rw [qzz, (by decide : (-1 : Int32).toInt = -1)] at el; omega
      obtain ⟨o', h2, k34, k3zz, k20, m1zz, m2zz, m3zz, m4zz, m5zz, m6zz, m7zz, m8zz, m9zz⟩ := tellWords eP (by omega) eR hR hf h2
      unfold f_X1_told_O at h1
      obtain ⟨z1', e1', h1⟩ := z_bd h1
      rcases isP2 e1' with ⟨-, uzz⟩ | ⟨uzz, -⟩
      · exact absurd ⟨by omega, by omega⟩ uzz
      have h1 := z_f h1 uzz
      obtain ⟨z2', e2', h1⟩ := z_bd h1
      rcases isR8 e2' with ⟨-, uzz⟩ | ⟨uzz, -⟩
      · exact absurd ⟨by omega, by omega⟩ uzz
      have h1 := z_f h1 uzz
      obtain ⟨z3, e3zz, h1⟩ := z_bd h1
      obtain ⟨x4zz, e4zz, h1⟩ := z_lt h1
      obtain ⟨w0zz, w1zz, w2zz, w3zz, w4zz, w5, w6zz, w7zz, w8⟩ := lawWords eP (by omega) eR hR e3zz
      have hW : ∀ kzz, kzz < 9 → (gA z3 0 kzz).toInt64 = gM o' 35 (kzz + 1) := by
        intro kzz hk
        rcases (by omega : kzz = 0 ∨ kzz = 1 ∨ kzz = 2 ∨ kzz = 3 ∨ kzz = 4 ∨ kzz = 5 ∨ kzz = 6 ∨ kzz = 7 ∨ kzz = 8) with uzz | uzz | uzz | uzz | uzz | uzz | uzz | uzz | uzz <;> subst uzz
        · rw [w0zz]; exact m1zz.symm
        · rw [w1zz]; exact m2zz.symm
        · rw [w2zz, (hw.2.1 (4 * Pzz + R) (by omega)).1]; exact m3zz.symm
        · rw [w3zz, (hw.2.2.1 Pzz (by omega)).1]; exact m4zz.symm
        · rw [w4zz, hw.2.2.2.1 Pzz (by omega)]; exact m5zz.symm
        · rw [w5]; exact m6zz.symm
        · rw [w6zz, hw.2.2.2.2.1]; exact m7zz.symm
        · rw [w7zz, hw.2.2.2.2.2.1]; exact m8zz.symm
        · rw [w8, hw.2.2.2.2.2.2]; exact m9zz.symm
      have hs : RSt (gA o 3) (gM o' 35) l o' := ⟨k20.trans h20, k3zz, by rw [k34]; exact i32_add (by decide : (84 : Int32).toInt = 84) (i32_mul (by decide : (900 : Int32).toInt = 900) el (by omega) (by omega)) (by omega) (by omega), rfl⟩
      have t4zz : x4zz.toInt = (n : Int) - 1 := by rw [e4zz]; exact i32_sub k7zz (by decide : (1 : Int32).toInt = 1) (by omega) (by omega)
      have ce := tol_lp (Wzz := gM o' 35) hl hn k8zz hK1 hK2 hcl hw.1.2 zfu x4zz z3 n t4zz (Nat.le_refl _) hW h1
      exact tel_lp (wo := wo) hl hn knzz hcl ce zfu wo 0 o' 0 (by decide) (Nat.zero_le _) hs ⟨fun _ => rfl, fun _ ⟨mzz, hmzz, _⟩ => absurd hmzz (by omega)⟩ h2
set_option maxHeartbeats 200000 in
theorem i64_32 (xzz : Int32) : xzz.toInt64.toInt32 = xzz := Int32.toInt_inj.mp (by
  have bzz := i32_rg xzz
  rw [Int64.toInt_toInt32, Int32.toInt_toInt64]
  exact Int.bmod_eq_of_le (by omega) (by omega))
set_option maxHeartbeats 200000 in
theorem near_eq {vzz : Int64} {mzz zzz wzz : Int32} {M : Int} (hmzz : mzz.toInt = M) (h0 : 0 ≤ M) (h1 : f_X1_nearest vzz mzz = some zzz) (h2 : f_X9_within vzz 0 mzz = some wzz) : zzz = wzz := by
  have z0 : (0 : Int64).toInt = 0 := by decide
  have zz : ((0 : Int32).toInt64).toInt = 0 := by decide
  have em : (mzz.toInt64).toInt = M := by rw [Int32.toInt_toInt64]; exact hmzz
  have e0zz : (0 : Int64).toInt32 = 0 := by decide
  have emm : (mzz.toInt64).toInt32 = mzz := i64_32 mzz
  unfold f_X1_nearest at h1
  unfold f_X9_within at h2
  have h1 := Option.some.inj h1
  rw [← h1]
  rcases z_if h2 with ⟨czz, h2⟩ | ⟨czz, h2⟩
  · have czz := cvl_ge (a := vzz.toInt) (b := 0) rfl zz czz
    rcases z_if h2 with ⟨d, h2⟩ | ⟨d, h2⟩
    · have d := cvl_le (a := vzz.toInt) (b := M) rfl em d
      have h2 := Option.some.inj h2
      have et : (if mzz.toInt64 < vzz then mzz.toInt64 else vzz) = vzz := if_neg (fun qzz => by have qzz := Int64.lt_iff_toInt_lt.mp qzz; rw [em] at qzz; omega)
      rw [et, if_neg (fun qzz => by have qzz := Int64.lt_iff_toInt_lt.mp qzz; rw [z0] at qzz; omega)]
      exact h2
    · have d := cvl_nle (a := vzz.toInt) (b := M) rfl em d
      have h2 := Option.some.inj h2
      have et : (if mzz.toInt64 < vzz then mzz.toInt64 else vzz) = mzz.toInt64 := if_pos (Int64.lt_iff_toInt_lt.mpr (by rw [em]; omega))
      rw [et, if_neg (fun qzz => by have qzz := Int64.lt_iff_toInt_lt.mp qzz; rw [z0, em] at qzz; omega), emm]
      exact h2
  · have czz := cvl_nge (a := vzz.toInt) (b := 0) rfl zz czz
    have h2 := Option.some.inj h2
    have et : (if mzz.toInt64 < vzz then mzz.toInt64 else vzz) = vzz := if_neg (fun qzz => by have qzz := Int64.lt_iff_toInt_lt.mp qzz; rw [em] at qzz; omega)
    rw [et, if_pos (Int64.lt_iff_toInt_lt.mpr (by rw [z0]; omega)), e0zz]
    exact h2
set_option maxHeartbeats 200000 in
theorem with_id {xzz mzz wzz : Int32} {M : Int} (hmzz : mzz.toInt = M) (hx : 0 ≤ xzz.toInt ∧ xzz.toInt ≤ M) (h2 : f_X9_within xzz.toInt64 0 mzz = some wzz) : wzz = xzz := by
  have zz : ((0 : Int32).toInt64).toInt = 0 := by decide
  have em : (mzz.toInt64).toInt = M := by rw [Int32.toInt_toInt64]; exact hmzz
  have exzz : (xzz.toInt64).toInt = xzz.toInt := Int32.toInt_toInt64 xzz
  unfold f_X9_within at h2
  rcases z_if h2 with ⟨czz, h2⟩ | ⟨czz, h2⟩
  · rcases z_if h2 with ⟨d, h2⟩ | ⟨d, h2⟩
    · have h2 := Option.some.inj h2
      rw [← h2]; exact i64_32 xzz
    · have d := cvl_nle (a := xzz.toInt) (b := M) exzz em d
      omega
  · have czz := cvl_nge (a := xzz.toInt) (b := 0) exzz zz czz
    omega
set_option maxHeartbeats 200000 in
theorem within_rng {vzz : Int64} {mzz wzz : Int32} {M : Int} (hmzz : mzz.toInt = M) (h0 : 0 ≤ M) (h2 : f_X9_within vzz 0 mzz = some wzz) : 0 ≤ wzz.toInt ∧ wzz.toInt ≤ M := by
  have zz : ((0 : Int32).toInt64).toInt = 0 := by decide
  have em : (mzz.toInt64).toInt = M := by rw [Int32.toInt_toInt64]; exact hmzz
  have bmzz := i32_rg mzz
  unfold f_X9_within at h2
  rcases z_if h2 with ⟨czz, h2⟩ | ⟨czz, h2⟩
  · have czz := cvl_ge (a := vzz.toInt) (b := 0) rfl zz czz
    rcases z_if h2 with ⟨d, h2⟩ | ⟨d, h2⟩
    · have d := cvl_le (a := vzz.toInt) (b := M) rfl em d
      have h2 := Option.some.inj h2
      have ezz : vzz.toInt32.toInt = vzz.toInt := by rw [Int64.toInt_toInt32]; exact Int.bmod_eq_of_le (by omega) (by omega)
      rw [← h2, ezz]; omega
    · have h2 := Option.some.inj h2
      rw [← h2]; omega
  · have h2 := Option.some.inj h2
    have w0zz : (0 : Int32).toInt = 0 := by decide
    rw [← h2, w0zz]; omega
def Asked (pl : List CR) (rzz : Option Nat) (isl mv o : Ob) (pzz rc : Int32) : Prop := LwP pl rzz (gA o 3) (gA o 3 3) ∧ WtL isl mv (gA o 3) ∧ gI o 20 = 0 ∧ (∃ Pzz : Nat, pzz.toInt = (Pzz : Int) ∧ (Pzz : Int) < (gI isl 7).toInt) ∧ (∃ R : Nat, rc.toInt = (R : Int) ∧ R < 4)
set_option maxHeartbeats 200000 in
theorem barred_eq {pl : List CR} {rzz : Option Nat} {azz isl mv mezz o : Ob} {pzz rc : Int32} {zzz wzz : Int32 × Ob} (hA : Asked pl rzz isl mv o pzz rc) (h1 : f_X1_isBarred_Q azz isl mv mezz pl rzz pzz rc = some zzz) (h2 : f_X9_isBarred o pzz rc = some wzz) : zzz.1 = wzz.1 := by
  obtain ⟨hL, hw, h20, ⟨Pzz, eP, hP⟩, R, eR, hR⟩ := hA
  unfold f_X1_isBarred_Q at h1
  unfold f_X9_isBarred at h2
  obtain ⟨z1, e1zz, h1⟩ := z_bd h1
  obtain ⟨w1zz, e2zz, h2⟩ := z_bd h2
  rcases tells_eq hL hw h20 eP hP eR hR e1zz e2zz with ⟨u1zz, u2zz⟩ | ⟨u1zz, u2zz⟩
  · have h1 := Option.some.inj (z_t h1 ((lg_cmp_eq _ _).mpr u1zz))
    have h2 := Option.some.inj (z_f h2 (fun qzz => by have qzz := (lg_cmp_eq _ _).mp qzz; rw [u2zz] at qzz; exact absurd qzz (by decide)))
    rw [← h1, ← h2]
  · rw [if_pos rfl] at u2zz
    have h1 := Option.some.inj (z_f h1 (fun qzz => u1zz ((lg_cmp_eq _ _).mp qzz)))
    have h2 := Option.some.inj (z_t h2 ((lg_cmp_eq _ _).mpr u2zz))
    rw [← h1, ← h2]
set_option maxHeartbeats 200000 in
theorem runs_eq {pl : List CR} {rzz : Option Nat} {azz isl mv mezz o : Ob} {pzz rc : Int32} {zzz wzz : Int32 × Ob} (hA : Asked pl rzz isl mv o pzz rc) (h1 : f_X1_runsBy_Q azz isl mv mezz pl rzz pzz rc = some zzz) (h2 : f_X9_runsOf o pzz rc = some wzz) : zzz.1 = wzz.1 := by
  obtain ⟨hL, hw, h20, ⟨Pzz, eP, hP⟩, R, eR, hR⟩ := hA
  have h7 : (gI isl 7).toInt ≤ 7 := by rw [hw.1.1]; exact hw.1.2.2
  have i1zz : ((pzz * (4 : Int32)) + rc).toNatClampNeg = 4 * Pzz + R := tnc_eq (by rw [i32_add (i32_mul eP (by decide : (4 : Int32).toInt = 4) (by omega) (by omega)) eR (by omega) (by omega)]; omega)
  have i2zz : (((36 : Int32) + ((4 : Int32) * pzz)) + rc).toNatClampNeg = 36 + (4 * Pzz + R) := tnc_eq (by rw [i32_add (i32_add (by decide : (36 : Int32).toInt = 36) (i32_mul (by decide : (4 : Int32).toInt = 4) eP (by omega) (by omega)) (by omega) (by omega)) eR (by omega) (by omega)]; omega)
  unfold f_X1_runsBy_Q at h1
  unfold f_X9_runsOf at h2
  rw [i1zz] at h1
  rw [i2zz] at h2
  have h2 := (z_gd h2).2
  obtain ⟨z1, e1zz, h1⟩ := z_bd h1
  obtain ⟨w1zz, e2zz, h2⟩ := z_bd h2
  obtain ⟨w3zz, e3zz, h2⟩ := z_bd h2
  have h2 := Option.some.inj h2
  rw [← h2]
  have hst := hw.2.1 (4 * Pzz + R) (by omega)
  rcases tells_eq hL hw h20 eP hP eR hR e1zz e2zz with ⟨u1zz, u2zz⟩ | ⟨u1zz, u2zz⟩
  · have h1 := Option.some.inj (z_gd (z_t h1 ((lg_cmp_eq _ _).mpr u1zz))).2
    rw [u2zz] at e3zz
    rw [← h1]
    exact hst.1.trans (with_id (M := 99) (by decide) ⟨hst.2.1, by omega⟩ e3zz).symm
  · have h1 := z_f h1 (fun qzz => u1zz ((lg_cmp_eq _ _).mp qzz))
    obtain ⟨xzz, exzz, h1⟩ := z_bd h1
    have h1 := Option.some.inj h1
    rw [if_neg (by decide)] at u2zz
    rw [u2zz] at e3zz
    rw [← h1]
    exact near_eq (M := 99) (by decide) (by decide) exzz e3zz
set_option maxHeartbeats 200000 in
theorem turns_eq {pl : List CR} {rzz : Option Nat} {azz isl mv mezz o : Ob} {pzz rc : Int32} {zzz wzz : Int32 × Ob} (hA : Asked pl rzz isl mv o pzz rc) (h1 : f_X1_turnsTo_Q azz isl mv mezz pl rzz pzz rc = some zzz) (h2 : f_X9_turnsOf o pzz rc = some wzz) : zzz.1 = wzz.1 ∧ 0 ≤ wzz.1.toInt ∧ wzz.1.toInt ≤ 9 := by
  obtain ⟨hL, hw, h20, ⟨Pzz, eP, hP⟩, R, eR, hR⟩ := hA
  have h7 : (gI isl 7).toInt ≤ 7 := by rw [hw.1.1]; exact hw.1.2.2
  have i1zz : pzz.toNatClampNeg = Pzz := tnc_eq eP
  have i2zz : ((8 : Int32) + pzz).toNatClampNeg = 8 + Pzz := tnc_eq (by rw [i32_add (by decide : (8 : Int32).toInt = 8) eP (by omega) (by omega)]; omega)
  unfold f_X1_turnsTo_Q at h1
  unfold f_X9_turnsOf at h2
  rw [i1zz] at h1
  rw [i2zz] at h2
  have h2 := (z_gd h2).2
  obtain ⟨z1, e1zz, h1⟩ := z_bd h1
  obtain ⟨w1zz, e2zz, h2⟩ := z_bd h2
  obtain ⟨w3zz, e3zz, h2⟩ := z_bd h2
  have h2 := Option.some.inj h2
  rw [← h2]
  have htr := hw.2.2.1 Pzz (by omega)
  have rg : 0 ≤ w3zz.toInt ∧ w3zz.toInt ≤ 9 := by
    exact within_rng (M := 9) (by decide) (by decide) e3zz
  refine ⟨?_, rg⟩
  rcases tells_eq hL hw h20 eP hP eR hR e1zz e2zz with ⟨u1zz, u2zz⟩ | ⟨u1zz, u2zz⟩
  · have h1 := Option.some.inj (z_gd (z_t h1 ((lg_cmp_eq _ _).mpr u1zz))).2
    rw [u2zz] at e3zz
    rw [← h1]
    have s1zz : (gA o 3 (8 + Pzz) + (1 : Int32)).toInt = (gA o 3 (8 + Pzz)).toInt + 1 := i32_add rfl (by decide) (by omega) (by omega)
    have rr := i32_rem (x := gA o 3 (8 + Pzz) + (1 : Int32)) (y := 10) (m := 10) (by decide) (by decide) (by rw [s1zz]; omega)
    have wi := with_id (M := 9) (by decide) ⟨rr.1, by have := rr.2; omega⟩ e3zz
    show gA mv 0 Pzz + (1 : Int32) - (gA mv 0 Pzz + (1 : Int32)) / (10 : Int32) * (10 : Int32) = w3zz
    rw [htr.1]
    exact wi.symm
  · have h1 := z_f h1 (fun qzz => u1zz ((lg_cmp_eq _ _).mp qzz))
    obtain ⟨xzz, exzz, h1⟩ := z_bd h1
    have h1 := Option.some.inj h1
    rw [if_neg (by decide)] at u2zz
    rw [u2zz] at e3zz
    rw [← h1]
    exact near_eq (M := 9) (by decide) (by decide) exzz e3zz
set_option maxHeartbeats 200000 in
theorem wins_eq {pl : List CR} {rzz : Option Nat} {azz isl mv mezz o : Ob} {pzz rc qzz : Int32} {zzz wzz : Int32 × Ob} (hA : Asked pl rzz isl mv o pzz rc) (hq : qzz = 1 ∨ qzz = 2 ∨ qzz = 3) (h1 : f_X1_wins_Q azz isl mv mezz pl rzz pzz rc qzz = some zzz) (h2 : f_X9_winsOf o pzz rc qzz = some wzz) : zzz.1 = wzz.1 ∧ 0 ≤ wzz.1.toInt ∧ wzz.1.toInt ≤ 9 := by
  obtain ⟨hL, hw, h20, ⟨Pzz, eP, hP⟩, R, eR, hR⟩ := hA
  unfold f_X1_wins_Q at h1
  unfold f_X9_winsOf at h2
  obtain ⟨z1, e1zz, h1⟩ := z_bd h1
  obtain ⟨w1zz, e2zz, h2⟩ := z_bd h2
  obtain ⟨w3zz, e3zz, h2⟩ := z_bd h2
  have h2 := Option.some.inj h2
  rw [← h2]
  have rg : 0 ≤ w3zz.toInt ∧ w3zz.toInt ≤ 9 := by
    exact within_rng (M := 9) (by decide) (by decide) e3zz
  refine ⟨?_, rg⟩
  rcases tells_eq hL hw h20 eP hP eR hR e1zz e2zz with ⟨u1zz, u2zz⟩ | ⟨u1zz, u2zz⟩
  · have h1 := Option.some.inj (z_t h1 ((lg_cmp_eq _ _).mpr u1zz))
    rw [u2zz] at e3zz
    rw [← h1]
    have e3' : f_X9_within ((4 : Int32) - qzz).toInt64 0 9 = some w3zz := by
      rcases hq with uzz | uzz | uzz <;> subst uzz <;> exact e3zz
    refine (with_id (M := 9) (by decide) ?_ e3').symm
    rcases hq with uzz | uzz | uzz <;> subst uzz <;> decide
  · have h1 := z_f h1 (fun qzz => u1zz ((lg_cmp_eq _ _).mp qzz))
    obtain ⟨xzz, exzz, h1⟩ := z_bd h1
    have h1 := Option.some.inj h1
    rw [if_neg (by decide)] at u2zz
    rw [u2zz] at e3zz
    rw [← h1]
    exact near_eq (M := 9) (by decide) (by decide) exzz e3zz
def EnT (mv : Ob) (Gzz : Nat → Int32) : Prop := ∀ pzz : Int32, 0 ≤ pzz.toInt → pzz.toInt < 7 → Gzz (22 + pzz.toNatClampNeg) = ((gI mv 2) >>> (pzz &&& 31)) &&& (1 : Int32)
def LUe (czz o : Ob) (n : Nat) (jzz : Nat) : Prop := gA czz 2 jzz = gA o 42 jzz ∧ 0 ≤ (gA czz 2 jzz).toInt ∧ (gA czz 2 jzz).toInt < (n : Int) ∧ gA czz 3 (gA czz 2 jzz).toNatClampNeg = gA o 41 (gA czz 2 jzz).toNatClampNeg
def LUt (czz o : Ob) (n kzz : Nat) : Prop := gI czz 4 = gI o 43 ∧ (gI czz 4).toInt = (kzz : Int) ∧ ∀ jzz, jzz < kzz → LUe czz o n jzz
set_option maxHeartbeats 200000 in
theorem LUe.of {czz o c' o' : Ob} {n jzz : Nat} (hzz : LUe czz o n jzz) (e2zz : gA c' 2 jzz = gA czz 2 jzz) (e2' : gA o' 42 jzz = gA o 42 jzz) (e3zz : gA c' 3 (gA czz 2 jzz).toNatClampNeg = gA o' 41 (gA czz 2 jzz).toNatClampNeg) : LUe c' o' n jzz := by
  unfold LUe
  rw [e2zz, e2']
  exact ⟨hzz.1, hzz.2.1, hzz.2.2.1, e3zz⟩
set_option maxHeartbeats 200000 in
theorem lin61 {isl mv : Ob} {pl : List CR} {rzz : Option Nat} {rc pzz : Int32} {Pzz n kzz : Nat} {rec7 : Option Nat × Int32 × Int32 × Ob × Ob → Option (Int32 × Ob × Ob)} {rec9 : Int32 × Int32 × Ob → Option Ob} {yzz : Int32 × Ob × Ob} {y' : Ob} {Qzz : Prop} {Gzz : Nat → Int32} (eP : pzz.toInt = (Pzz : Int)) (hP : Pzz < n) (hn7 : n ≤ 7) (hk : kzz < 7)
    (hrec : ∀ (xzz : Int32) (c' me' o' : Ob), xzz = pzz + 1 → LUt c' o' n (kzz + 1) → gA o' 3 = Gzz → gI o' 20 = 0 → rec7 (rzz, rc, xzz, c', me') = some yzz → rec9 (rc, xzz, o') = some y' → Qzz) :
    ∀ (Nzz N' : Nat) (vzz : Int32) (czz mezz o : Ob) (azz : Nat), vzz.toInt = (azz : Int) → azz ≤ kzz → gI czz 4 = gI o 43 → (gI czz 4).toInt = (kzz : Int) → (∀ jzz, jzz < kzz → LUe czz o n jzz) → (∀ jzz, azz < jzz → jzz ≤ kzz → LUe czz o n jzz) → gA czz 3 Pzz = gA o 41 Pzz → gA o 3 = Gzz → gI o 20 = 0 →
      lp_X1_lineUp_Q_61 isl mv pl rec7 Nzz (rzz, rc, pzz, vzz, czz, mezz) = some yzz → lp_X9_layPlaces_56 rec9 N' (rc, pzz, vzz, o) = some y' → Qzz := by
  intro Nzz
  induction Nzz with
  | zero => intro N' vzz czz mezz o azz _ _ _ _ _ _ _ _ _ h1; cases h1
  | succ Nzz ihzz =>
    intro N' vzz czz mezz o azz evzz hazz e4zz ek hlt hup hp hG h20 h1 h2
    cases N' with
    | zero => cases h2
    | succ N' =>
    have h1 : lb_X1_lineUp_Q_61 isl mv pl rec7 (lp_X1_lineUp_Q_61 isl mv pl rec7 Nzz) rzz rc pzz vzz czz mezz = some yzz := h1
    have h2 : lb_X9_layPlaces_56 rec9 (lp_X9_layPlaces_56 rec9 N') rc pzz vzz o = some y' := h2
    have iP : pzz.toNatClampNeg = Pzz := tnc_eq eP
    have ivzz : vzz.toNatClampNeg = azz := tnc_eq evzz
    have finzz : bk_X1_lineUp_Q_111 isl mv pl rec7 rzz rc pzz vzz czz mezz = some yzz → bk_X9_layPlaces_102 rec9 rc pzz vzz o = some y' → Qzz := by
      intro h1 h2
      unfold bk_X1_lineUp_Q_111 at h1
      unfold bk_X9_layPlaces_102 at h2
      rw [ivzz] at h1 h2
      have h1 := (z_gd h1).2
      have h2 := (z_gd h2).2
      obtain ⟨c1zz, f1zz, h1⟩ := z_lt h1
      obtain ⟨c2zz, f2zz, h1⟩ := z_lt h1
      obtain ⟨o1, g1, h2⟩ := z_lt h2
      obtain ⟨o2, g2, h2⟩ := z_lt h2
      unfold bk_X1_lineUp_Q_129 at h1
      unfold bk_X9_layPlaces_119 at h2
      obtain ⟨x1zz, q1zz, h1⟩ := z_lt h1
      obtain ⟨x2zz, q2zz, h2⟩ := z_lt h2
      have qx : x2zz = x1zz := q2zz.trans q1zz.symm
      rw [qx] at h2
      have A2 : ∀ jzz, gA c2zz 2 jzz = if jzz = azz then pzz else gA czz 2 jzz := fun jzz => by rw [f2zz, f1zz]; rfl
      have A3 : gA c2zz 3 = gA czz 3 := by rw [f2zz, f1zz]; rfl
      have A4 : gI c2zz 4 = gI czz 4 + 1 := by rw [f2zz, f1zz]; rfl
      have B2 : ∀ jzz, gA o2 42 jzz = if jzz = azz then pzz else gA o 42 jzz := fun jzz => by rw [g2, g1]; rfl
      have B3 : gA o2 41 = gA o 41 := by rw [g2, g1]; rfl
      have B4 : gI o2 43 = gI o 43 + 1 := by rw [g2, g1]; rfl
      refine hrec x1zz c2zz mezz o2 q1zz ⟨by rw [A4, B4, e4zz], ?_, fun jzz hj => ?_⟩ (by rw [g2, g1]; exact hG) (by rw [g2, g1]; exact h20) h1 h2
      · rw [A4]
        exact Eq.trans (i32_add ek (by decide : (1 : Int32).toInt = 1) (by omega) (by omega)) (by omega)
      · by_cases qa : jzz = azz
        · unfold LUe
          rw [A2, B2, if_pos qa, if_pos qa, A3, B3, iP]
          exact ⟨rfl, by omega, by omega, hp⟩
        · have hj' : LUe czz o n jzz := by
            by_cases qk : jzz < kzz
            · exact hlt jzz qk
            · exact hup jzz (by omega) (by omega)
          exact hj'.of (by rw [A2, if_neg qa]) (by rw [B2, if_neg qa]) (by rw [A3, B3]; exact hj'.2.2.2)
    unfold lb_X1_lineUp_Q_61 at h1
    unfold lb_X9_layPlaces_56 at h2
    by_cases c0zz : vzz ≤ 0
    · exact finzz (z_t h1 c0zz) (z_t h2 c0zz)
    · have h1 := z_f h1 c0zz
      have h2 := z_f h2 c0zz
      have c0zz := cv_nle (a := (azz : Int)) (b := 0) evzz (by decide) c0zz
      obtain ⟨bzz, eb⟩ : ∃ bzz, azz = bzz + 1 := ⟨azz - 1, by omega⟩
      subst eb
      have tbzz : (vzz - (1 : Int32)).toInt = (bzz : Int) := Eq.trans (i32_sub evzz (by decide : (1 : Int32).toInt = 1) (by omega) (by omega)) (by omega)
      have ib : (vzz - (1 : Int32)).toNatClampNeg = bzz := tnc_eq tbzz
      rw [ib, iP, ivzz] at h1 h2
      have h1 := (z_gd (z_gd (z_gd h1).2).2).2
      have h2 := (z_gd (z_gd (z_gd h2).2).2).2
      have hbzz := hlt bzz (by omega)
      rw [← hbzz.1, ← hbzz.2.2.2, ← hp] at h2
      by_cases c1zz : gA czz 3 Pzz ≤ gA czz 3 (gA czz 2 bzz).toNatClampNeg
      · exact finzz (z_t h1 c1zz) (z_t h2 c1zz)
      · have h1 := (z_gd (z_gd (z_f h1 c1zz)).2).2
        have h2 := (z_gd (z_gd (z_f h2 c1zz)).2).2
        obtain ⟨c1', f1zz, h1⟩ := z_lt h1
        obtain ⟨x1zz, q1zz, h1⟩ := z_lt h1
        obtain ⟨o1, g1, h2⟩ := z_lt h2
        obtain ⟨x2zz, q2zz, h2⟩ := z_lt h2
        have qx : x2zz = x1zz := q2zz.trans q1zz.symm
        rw [qx] at h2
        have A2 : ∀ jzz, gA c1' 2 jzz = if jzz = bzz + 1 then gA czz 2 bzz else gA czz 2 jzz := fun jzz => by rw [f1zz]; rfl
        have A3 : gA c1' 3 = gA czz 3 := by rw [f1zz]; rfl
        have B2 : ∀ jzz, gA o1 42 jzz = if jzz = bzz + 1 then gA czz 2 bzz else gA o 42 jzz := fun jzz => by rw [g1]; rfl
        have B3 : gA o1 41 = gA o 41 := by rw [g1]; rfl
        have step : ∀ jzz, (jzz = bzz + 1 ∨ LUe czz o n jzz) → LUe c1' o1 n jzz := by
          intro jzz hj
          by_cases qa : jzz = bzz + 1
          · unfold LUe
            rw [A2, B2, if_pos qa, if_pos qa, A3, B3]
            exact ⟨rfl, hbzz.2.1, hbzz.2.2.1, hbzz.2.2.2⟩
          · rcases hj with hj | hj
            · exact absurd hj qa
            · exact hj.of (by rw [A2, if_neg qa]) (by rw [B2, if_neg qa]) (by rw [A3, B3]; exact hj.2.2.2)
        refine ihzz N' x1zz c1' mezz o1 bzz ?_ (by omega) (by rw [f1zz, g1]; exact e4zz) (by rw [f1zz]; exact ek) (fun jzz hj => step jzz (Or.inr (hlt jzz hj))) (fun jzz h1 h2 => step jzz ?_) (by rw [A3, B3]; exact hp) (by rw [g1]; exact hG) (by rw [g1]; exact h20) h1 h2
        · rw [q1zz]
          exact Eq.trans (i32_add evzz (by decide : (-1 : Int32).toInt = -1) (by omega) (by omega)) (by omega)
        · by_cases qa : jzz = bzz + 1
          · exact Or.inl qa
          · exact Or.inr (hup jzz (by omega) h2)
set_option maxHeartbeats 200000 in
theorem lin7 {isl mv : Ob} {pl : List CR} {rzz : Option Nat} {rc : Int32} {Gzz : Nat → Int32} {n R : Nat} {yzz : Int32 × Ob × Ob} {y' : Ob} (hL : LwP pl rzz Gzz (Gzz 3)) (hw : WtL isl mv Gzz) (hE : EnT mv Gzz) (en : (Gzz 0).toInt = (n : Int)) (eR : rc.toInt = (R : Int)) (hR : R < 4) :
    ∀ (Nzz N' : Nat) (vzz : Int32) (czz mezz o : Ob) (izz kzz : Nat), vzz.toInt = (izz : Int) → izz ≤ n → kzz ≤ izz → gA o 3 = Gzz → gI o 20 = 0 → LUt czz o n kzz → lp_X1_lineUp_Q_7 isl mv pl Nzz (rzz, rc, vzz, czz, mezz) = some yzz → lp_X9_layPlaces_7 N' (rc, vzz, o) = some y' → ∃ k', k' ≤ n ∧ LUt yzz.2.1 y' n k' ∧ yzz.1 = gI yzz.2.1 4 := by
  have hn7 : n ≤ 7 := by have := hw.1.2.2; omega
  intro Nzz
  induction Nzz with
  | zero => intro N' vzz czz mezz o izz kzz _ _ _ _ _ _ h1; cases h1
  | succ Nzz ihzz =>
    intro N' vzz czz mezz o izz kzz evzz hizz hki hG h20 hTzz h1 h2
    cases N' with
    | zero => cases h2
    | succ N' =>
    have h1 : lb_X1_lineUp_Q_7 isl mv pl (lp_X1_lineUp_Q_7 isl mv pl Nzz) rzz rc vzz czz mezz = some yzz := h1
    have h2 : lb_X9_layPlaces_7 (lp_X9_layPlaces_7 N') rc vzz o = some y' := h2
    unfold lb_X1_lineUp_Q_7 at h1
    unfold lb_X9_layPlaces_7 at h2
    have n0zz : (0 : Int32).toNatClampNeg = 0 := by decide
    rw [n0zz, hG, ← hw.1.1] at h2
    by_cases c0zz : gI isl 7 ≤ vzz
    · have h1 := Option.some.inj (z_t h1 c0zz)
      have h2 := Option.some.inj (z_t h2 c0zz)
      rw [← h1, ← h2]
      exact ⟨kzz, by omega, hTzz, rfl⟩
    · have h1 := z_f h1 c0zz
      have h2 := z_f h2 c0zz
      have c0zz := cv_nle (a := (n : Int)) (b := (izz : Int)) (by rw [hw.1.1]; exact en) evzz c0zz
      have i22 : ((22 : Int32) + vzz).toNatClampNeg = 22 + izz := tnc_eq (by rw [i32_add (by decide : (22 : Int32).toInt = 22) evzz (by omega) (by omega)]; omega)
      have ivzz : vzz.toNatClampNeg = izz := tnc_eq evzz
      have h2 := (z_gd h2).2
      have hen := hE vzz (by omega) (by omega)
      rw [ivzz] at hen
      rw [i22, hen] at h2
      obtain ⟨z2, e2zz, h1⟩ := z_bd h1
      unfold f_X4_isIn at e2zz
      have nxtzz : ∀ (c' me' o' : Ob), gA o' 3 = Gzz → gI o' 20 = 0 → LUt c' o' n kzz → bk_X1_lineUp_Q_129 isl mv pl (lp_X1_lineUp_Q_7 isl mv pl Nzz) rzz rc vzz c' me' = some yzz → bk_X9_layPlaces_119 (lp_X9_layPlaces_7 N') rc vzz o' = some y' → ∃ k', k' ≤ n ∧ LUt yzz.2.1 y' n k' ∧ yzz.1 = gI yzz.2.1 4 := by
        intro c' me' o' hG' h20' hT' h1 h2
        unfold bk_X1_lineUp_Q_129 at h1
        unfold bk_X9_layPlaces_119 at h2
        obtain ⟨x1zz, q1zz, h1⟩ := z_lt h1
        obtain ⟨x2zz, q2zz, h2⟩ := z_lt h2
        have qx : x2zz = x1zz := q2zz.trans q1zz.symm
        rw [qx] at h2
        exact ihzz N' x1zz c' me' o' (izz + 1) kzz (by rw [q1zz]; exact Eq.trans (i32_add evzz (by decide : (1 : Int32).toInt = 1) (by omega) (by omega)) (by omega)) (by omega) (by omega) hG' h20' hT' h1 h2
      by_cases c1zz : ((gI mv 2) >>> (vzz &&& 31)) &&& (1 : Int32) = 1
      · have e2zz := Option.some.inj (z_t e2zz c1zz)
        have h1 := z_f h1 (by rw [← e2zz]; decide)
        have h2 := z_t h2 c1zz
        obtain ⟨z4, e4zz, h1⟩ := z_bd h1
        obtain ⟨w4zz, e4', h2⟩ := z_bd h2
        have hA : ∀ o' : Ob, gA o' 3 = Gzz → gI o' 20 = 0 → Asked pl rzz isl mv o' vzz rc := fun o' g1 g2 => ⟨by rw [g1]; exact hL, by rw [g1]; exact hw, g2, ⟨izz, evzz, by rw [hw.1.1]; omega⟩, R, eR, hR⟩
        have eb := barred_eq (hA o hG h20) e4zz e4'
        have f4zz := fr_f_X9_isBarred e4'
        have hG4 : gA w4zz.2 3 = Gzz := (f4zz.A 3 rfl).trans hG
        have h24 : gI w4zz.2 20 = 0 := (f4zz.I 20 rfl).trans h20
        have hT4 : LUt czz w4zz.2 n kzz := by
          refine ⟨hTzz.1.trans (f4zz.I 43 rfl).symm, hTzz.2.1, fun jzz hj => ?_⟩
          have hj := hTzz.2.2 jzz hj
          exact hj.of rfl (by rw [f4zz.A 42 rfl]) (by rw [f4zz.A 41 rfl]; exact hj.2.2.2)
        rw [eb] at h1
        by_cases c2zz : w4zz.1 = 0
        · have h1 := z_t h1 c2zz
          have h2 := z_t h2 c2zz
          obtain ⟨z5, e5zz, h1⟩ := z_bd h1
          obtain ⟨w5, e5', h2⟩ := z_bd h2
          have er := runs_eq (hA w4zz.2 hG4 h24) e5zz e5'
          have f5zz := fr_f_X9_runsOf e5'
          have h1 := (z_gd h1).2
          have h2 := (z_gd h2).2
          rw [ivzz] at h1 h2
          obtain ⟨c7zz, g7, h1⟩ := z_lt h1
          obtain ⟨x8, g8, h1⟩ := z_lt h1
          obtain ⟨o7, k7zz, h2⟩ := z_lt h2
          obtain ⟨x9, k9, h2⟩ := z_lt h2
          have A4 : gI c7zz 4 = gI czz 4 := by rw [g7]; rfl
          have B4 : gI o7 43 = gI w4zz.2 43 := by rw [k7zz]; exact f5zz.I 43 rfl
          have A2 : gA c7zz 2 = gA czz 2 := by rw [g7]; rfl
          have B2 : gA o7 42 = gA w4zz.2 42 := by rw [k7zz]; exact f5zz.A 42 rfl
          have A3 : ∀ jzz, gA c7zz 3 jzz = if jzz = izz then w5.1 else gA czz 3 jzz := fun jzz => by rw [g7, er]; rfl
          have B3 : ∀ jzz, gA o7 41 jzz = if jzz = izz then w5.1 else gA w4zz.2 41 jzz := fun jzz => by
            rw [k7zz]
            show (if jzz = izz then w5.1 else gA w5.2 41 jzz) = _
            rw [f5zz.A 41 rfl]
          have E7 : ∀ jzz, jzz < kzz → LUe c7zz o7 n jzz := by
            intro jzz hj
            have hj := hT4.2.2 jzz hj
            refine hj.of (by rw [A2]) (by rw [B2]) ?_
            rw [A3, B3]
            by_cases qi : (gA czz 2 jzz).toNatClampNeg = izz
            · rw [if_pos qi, if_pos qi]
            · rw [if_neg qi, if_neg qi]; exact hj.2.2.2
          have x98 : x9 = x8 := by rw [k9, g8, A4, B4]; exact hT4.1.symm
          rw [x98] at h2
          have t8 : x8.toInt = (kzz : Int) := by rw [g8, A4]; exact hT4.2.1
          refine lin61 (Gzz := Gzz) (kzz := kzz) evzz (by omega) hn7 (by omega) (fun xzz c' me' o' exzz hT' hG' h20' h1 h2 => ?_) zfu zfu x8 c7zz z5.2 o7 kzz t8 (Nat.le_refl _) (by rw [A4, B4]; exact hT4.1) (by rw [A4]; exact hT4.2.1) E7 (fun jzz h1 h2 => absurd h1 (by omega)) (by rw [A3, B3, if_pos rfl, if_pos rfl]) (by rw [k7zz]; exact (f5zz.A 3 rfl).trans hG4) (by rw [k7zz]; exact (f5zz.I 20 rfl).trans h24) h1 h2
          exact ihzz N' xzz c' me' o' (izz + 1) (kzz + 1) (by rw [exzz]; exact Eq.trans (i32_add evzz (by decide : (1 : Int32).toInt = 1) (by omega) (by omega)) (by omega)) (by omega) (by omega) hG' h20' hT' h1 h2
        · exact nxtzz czz z4.2 w4zz.2 hG4 h24 hT4 (z_f h1 c2zz) (z_f h2 c2zz)
      · have e2zz := Option.some.inj (z_f e2zz c1zz)
        exact nxtzz czz mezz o hG h20 hTzz (z_t h1 e2zz.symm) (z_f h2 c1zz)
set_option maxHeartbeats 200000 in
theorem line_eq {isl mv : Ob} {pl : List CR} {rzz : Option Nat} {czz mezz o : Ob} {rc : Int32} {n R : Nat} {yzz : Int32 × Ob × Ob} {y' : Ob} (hL : LwP pl rzz (gA o 3) (gA o 3 3)) (hw : WtL isl mv (gA o 3)) (hE : EnT mv (gA o 3)) (h20 : gI o 20 = 0) (en : (gA o 3 0).toInt = (n : Int)) (eR : rc.toInt = (R : Int)) (hR : R < 4) (h1 : f_X1_lineUp_Q czz isl mv mezz pl rzz rc = some yzz) (h2 : f_X9_layPlaces o rc = some y') : ∃ kzz, kzz ≤ n ∧ LUt yzz.2.1 y' n kzz ∧ yzz.1 = gI yzz.2.1 4 := by
  unfold f_X1_lineUp_Q at h1
  unfold f_X9_layPlaces at h2
  obtain ⟨c1zz, f1zz, h1⟩ := z_lt h1
  obtain ⟨o1, g1, h2⟩ := z_lt h2
  exact lin7 hL hw hE en eR hR zfu zfu 0 c1zz mezz o1 0 0 (by decide) (Nat.zero_le _) (Nat.le_refl _) (by rw [g1]; rfl) (by rw [g1]; exact h20) ⟨by rw [f1zz, g1]; rfl, by rw [f1zz]; exact (by decide : (0 : Int32).toInt = ((0 : Nat) : Int)), fun jzz hj => absurd hj (by omega)⟩ h1 h2
set_option maxHeartbeats 200000 in
theorem i32_of {xzz : Int32} {ezz : Nat} (hzz : xzz.toInt = (ezz : Int)) (he : ezz < 2147483648) : xzz = Int32.ofNat ezz := Int32.toInt_inj.mp (by rw [Int32.toInt_ofNat_of_lt (by omega)]; exact hzz)
set_option maxHeartbeats 200000 in
theorem en_clear : ∀ ezz, ezz < 128 → ∀ xzz, xzz < 7 → (∀ pzz, pzz < 7 → ((((Int32.ofNat ezz) &&& (((1 : Int32) <<< ((Int32.ofNat xzz) &&& 31)) ^^^ (-1 : Int32))) >>> ((Int32.ofNat pzz) &&& 31)) &&& (1 : Int32)) = if pzz = xzz then 0 else (((Int32.ofNat ezz) >>> ((Int32.ofNat pzz) &&& 31)) &&& (1 : Int32))) ∧ 0 ≤ ((Int32.ofNat ezz) &&& (((1 : Int32) <<< ((Int32.ofNat xzz) &&& 31)) ^^^ (-1 : Int32))).toInt ∧ ((Int32.ofNat ezz) &&& (((1 : Int32) <<< ((Int32.ofNat xzz) &&& 31)) ^^^ (-1 : Int32))).toInt < 128 := by decide +kernel
set_option maxHeartbeats 200000 in
theorem en_turn : ∀ ezz, ezz < 128 → ∀ xzz, xzz < 7 → (∀ pzz, pzz < 7 → ((((Int32.ofNat ezz) ^^^ ((1 : Int32) <<< ((Int32.ofNat xzz) &&& 31))) >>> ((Int32.ofNat pzz) &&& 31)) &&& (1 : Int32)) = if pzz = xzz then (1 : Int32) - (((Int32.ofNat ezz) >>> ((Int32.ofNat pzz) &&& 31)) &&& (1 : Int32)) else (((Int32.ofNat ezz) >>> ((Int32.ofNat pzz) &&& 31)) &&& (1 : Int32))) ∧ 0 ≤ ((Int32.ofNat ezz) ^^^ ((1 : Int32) <<< ((Int32.ofNat xzz) &&& 31))).toInt ∧ ((Int32.ofNat ezz) ^^^ ((1 : Int32) <<< ((Int32.ofNat xzz) &&& 31))).toInt < 128 := by decide +kernel
def TzM (mv : Ob) (Gzz : Nat → Int32) : Prop := (∀ jzz, jzz < 7 → gA mv 0 jzz = Gzz (8 + jzz) ∧ 0 ≤ (Gzz (8 + jzz)).toInt ∧ (Gzz (8 + jzz)).toInt ≤ 9) ∧ (∀ jzz, jzz < 7 → gA mv 1 jzz = Gzz (15 + jzz) ∧ 0 ≤ (Gzz (15 + jzz)).toInt ∧ (Gzz (15 + jzz)).toInt ≤ 999) ∧ (gI mv 3 = Gzz 7 ∧ 0 ≤ (Gzz 7).toInt ∧ (Gzz 7).toInt ≤ 999) ∧ (gI mv 4 = Gzz 4 ∧ 0 ≤ (Gzz 4).toInt ∧ (Gzz 4).toInt ≤ 999) ∧ EnT mv Gzz ∧ 0 ≤ (gI mv 2).toInt ∧ (gI mv 2).toInt < 128
set_option maxHeartbeats 200000 in
theorem updA {Gzz : Nat → Int32} {azz jzz : Nat} {vzz : Int32} : upd Gzz azz vzz jzz = if jzz = azz then vzz else Gzz jzz := rfl
set_option maxHeartbeats 200000 in
theorem upd_cm {Gzz : Nat → Int32} {azz bzz : Nat} {vzz wzz : Int32} (hzz : azz ≠ bzz) : upd (upd Gzz azz vzz) bzz wzz = upd (upd Gzz bzz wzz) azz vzz := by
  funext jzz
  rw [updA, updA, updA, updA]
  by_cases czz : jzz = bzz
  · rw [if_pos czz, if_neg (by omega), if_pos czz]
  · rw [if_neg czz, if_neg czz]
def RwC (n : Nat) (Gzz G' : Nat → Int32) : Prop := ∀ jzz, (jzz < 4 ∨ jzz = 5 ∨ jzz = 6 ∨ 29 ≤ jzz ∨ (15 + n ≤ jzz ∧ jzz < 22) ∨ (22 + n ≤ jzz ∧ jzz < 29)) → G' jzz = Gzz jzz
set_option maxHeartbeats 200000 in
theorem RwC.rf {n : Nat} {Gzz : Nat → Int32} : RwC n Gzz Gzz := fun _ _ => rfl
set_option maxHeartbeats 200000 in
theorem RwC.tr {n : Nat} {Gzz G' G'' : Nat → Int32} (hzz : RwC n Gzz G') (kzz : RwC n G' G'') : RwC n Gzz G'' := fun jzz hj => (kzz jzz hj).trans (hzz jzz hj)
set_option maxHeartbeats 200000 in
theorem RwC.up {n azz : Nat} {Gzz : Nat → Int32} {vzz : Int32} (hzz : ¬ (azz < 4 ∨ azz = 5 ∨ azz = 6 ∨ 29 ≤ azz ∨ (15 + n ≤ azz ∧ azz < 22) ∨ (22 + n ≤ azz ∧ azz < 29))) : RwC n Gzz (upd Gzz azz vzz) := by
  intro jzz hj
  rw [updA, if_neg (fun qzz => by rw [qzz] at hj; exact hzz hj)]
set_option maxHeartbeats 200000 in
theorem sum999 {azz bzz zzz wzz : Int32} (hazz : 0 ≤ azz.toInt ∧ azz.toInt ≤ 999) (hbzz : 0 ≤ bzz.toInt ∧ bzz.toInt ≤ 999) (hz : zzz = if (azz + bzz) < (999 : Int32) then (azz + bzz) else (999 : Int32)) (hw : f_X9_within (azz + bzz).toInt64 0 999 = some wzz) : zzz = wzz ∧ 0 ≤ wzz.toInt ∧ wzz.toInt ≤ 999 := by
  have s : (azz + bzz).toInt = azz.toInt + bzz.toInt := i32_add rfl rfl (by omega) (by omega)
  have rg := within_rng (M := 999) (by decide) (by decide) hw
  refine ⟨?_, rg⟩
  have z9 : (999 : Int32).toInt = 999 := by decide
  rw [hz]
  by_cases czz : azz + bzz < (999 : Int32)
  · rw [if_pos czz]
    have czz := cv_lt (a := azz.toInt + bzz.toInt) (b := 999) s z9 czz
    exact (with_id (M := 999) (by decide) ⟨by omega, by omega⟩ hw).symm
  · rw [if_neg czz]
    have czz := cv_nlt (a := azz.toInt + bzz.toInt) (b := 999) s z9 czz
    unfold f_X9_within at hw
    have e1zz : ((azz + bzz).toInt64).toInt = azz.toInt + bzz.toInt := by rw [Int32.toInt_toInt64]; exact s
    have e0zz : ((0 : Int32).toInt64).toInt = 0 := by decide
    have e9zz : ((999 : Int32).toInt64).toInt = 999 := by decide
    rcases z_if hw with ⟨d, hw⟩ | ⟨d, hw⟩
    · rcases z_if hw with ⟨d2zz, hw⟩ | ⟨d2zz, hw⟩
      · have d2zz := cvl_le (a := azz.toInt + bzz.toInt) (b := 999) e1zz e9zz d2zz
        have hw := Option.some.inj hw
        rw [← hw, i64_32]
        exact Int32.toInt_inj.mp (by rw [z9, s]; omega)
      · exact Option.some.inj hw
    · have d := cvl_nge (a := azz.toInt + bzz.toInt) (b := 0) e1zz e0zz d
      omega
set_option maxHeartbeats 200000 in
theorem EnT.of {mv mv' : Ob} {Gzz G' : Nat → Int32} (hzz : EnT mv Gzz) (ezz : gI mv' 2 = gI mv 2) (eg : ∀ jzz, 22 ≤ jzz → jzz < 29 → G' jzz = Gzz jzz) : EnT mv' G' := by
  intro pzz h0 h1
  have bzz : pzz.toNatClampNeg < 7 := by have : pzz.toNatClampNeg = pzz.toInt.toNat := rfl; omega
  rw [ezz, eg _ (by omega) (by omega)]
  exact hzz pzz h0 h1
set_option maxHeartbeats 200000 in
theorem TzM.trade {mv : Ob} {Gzz : Nat → Int32} {izz : Nat} {t : Int32} (hzz : TzM mv Gzz) (hizz : izz < 7) (ht : 0 ≤ t.toInt ∧ t.toInt ≤ 9) : TzM (tA mv 0 izz t) (upd Gzz (8 + izz) t) := by
  refine ⟨fun jzz hj => ?_, fun jzz hj => ?_, ?_, ?_, hzz.2.2.2.2.1.of rfl (fun jzz h1 h2 => by rw [updA, if_neg (by omega)]), hzz.2.2.2.2.2⟩
  · have ezz : gA (tA mv 0 izz t) 0 jzz = if jzz = izz then t else gA mv 0 jzz := rfl
    rw [ezz, updA]
    by_cases czz : jzz = izz
    · rw [if_pos czz, if_pos (by omega)]; exact ⟨rfl, ht⟩
    · rw [if_neg czz, if_neg (by omega)]; exact hzz.1 jzz hj
  · rw [updA, if_neg (by omega)]; exact hzz.2.1 jzz hj
  · rw [updA, if_neg (by omega)]; exact hzz.2.2.1
  · rw [updA, if_neg (by omega)]; exact hzz.2.2.2.1
set_option maxHeartbeats 200000 in
theorem TzM.prize {mv mv' : Ob} {Gzz : Nat → Int32} {izz : Nat} {xzz wzz uzz : Int32} (hzz : TzM mv Gzz) (ei : xzz.toInt = (izz : Int)) (hizz : izz < 7) (hw : 0 ≤ wzz.toInt ∧ wzz.toInt ≤ 999) (h1 : f_X4_addPrizes mv xzz wzz = some mv') (h2 : f_X9_within (Gzz (15 + izz) + wzz).toInt64 0 999 = some uzz) : TzM mv' (upd Gzz (15 + izz) uzz) := by
  have ix : xzz.toNatClampNeg = izz := tnc_eq ei
  unfold f_X4_addPrizes at h1
  have h1 := (z_gd (z_gd h1).2).2
  rw [ix] at h1
  obtain ⟨o3zz, e3zz, h1⟩ := z_lt h1
  have h1 := Option.some.inj h1
  have hp := hzz.2.1 izz hizz
  rw [hp.1] at e3zz
  obtain ⟨s1zz, s2zz⟩ := sum999 ⟨hp.2.1, hp.2.2⟩ hw rfl h2
  rw [s1zz] at e3zz
  rw [← h1, e3zz]
  refine ⟨fun jzz hj => ?_, fun jzz hj => ?_, ?_, ?_, hzz.2.2.2.2.1.of rfl (fun jzz h1 h2 => by rw [updA, if_neg (by omega)]), hzz.2.2.2.2.2⟩
  · rw [updA, if_neg (by omega)]; exact hzz.1 jzz hj
  · have ezz : gA (tA mv 1 izz uzz) 1 jzz = if jzz = izz then uzz else gA mv 1 jzz := rfl
    rw [ezz, updA]
    by_cases czz : jzz = izz
    · rw [if_pos czz, if_pos (by omega)]; exact ⟨rfl, s2zz⟩
    · rw [if_neg czz, if_neg (by omega)]; exact hzz.2.1 jzz hj
  · rw [updA, if_neg (by omega)]; exact hzz.2.2.1
  · rw [updA, if_neg (by omega)]; exact hzz.2.2.2.1
set_option maxHeartbeats 200000 in
theorem TzM.gap {mv : Ob} {Gzz : Nat → Int32} {vzz : Int32} (hzz : TzM mv Gzz) (hv : 0 ≤ vzz.toInt ∧ vzz.toInt ≤ 999) : TzM (sI mv 3 vzz) (upd Gzz 7 vzz) := by
  refine ⟨fun jzz hj => ?_, fun jzz hj => ?_, ⟨rfl, hv⟩, ?_, hzz.2.2.2.2.1.of rfl (fun jzz h1 h2 => by rw [updA, if_neg (by omega)]), hzz.2.2.2.2.2⟩
  · rw [updA, if_neg (by omega)]; exact hzz.1 jzz hj
  · rw [updA, if_neg (by omega)]; exact hzz.2.1 jzz hj
  · rw [updA, if_neg (by omega)]; exact hzz.2.2.2.1
set_option maxHeartbeats 200000 in
theorem TzM.year {mv : Ob} {Gzz : Nat → Int32} {vzz : Int32} (hzz : TzM mv Gzz) (hv : 0 ≤ vzz.toInt ∧ vzz.toInt ≤ 999) : TzM (sI mv 4 vzz) (upd Gzz 4 vzz) := by
  refine ⟨fun jzz hj => ?_, fun jzz hj => ?_, ?_, ⟨rfl, hv⟩, hzz.2.2.2.2.1.of rfl (fun jzz h1 h2 => by rw [updA, if_neg (by omega)]), hzz.2.2.2.2.2⟩
  · rw [updA, if_neg (by omega)]; exact hzz.1 jzz hj
  · rw [updA, if_neg (by omega)]; exact hzz.2.1 jzz hj
  · rw [updA, if_neg (by omega)]; exact hzz.2.2.1
set_option maxHeartbeats 200000 in
theorem TzM.ent {mv : Ob} {Gzz : Nat → Int32} {izz : Nat} {vzz uzz : Int32} (hzz : TzM mv Gzz) (hv : 0 ≤ vzz.toInt ∧ vzz.toInt < 128) (hbzz : ∀ pzz : Int32, 0 ≤ pzz.toInt → pzz.toInt < 7 → (vzz >>> (pzz &&& 31)) &&& (1 : Int32) = if pzz.toNatClampNeg = izz then uzz else ((gI mv 2) >>> (pzz &&& 31)) &&& (1 : Int32)) (hizz : izz < 7) : TzM (sI mv 2 vzz) (upd Gzz (22 + izz) uzz) := by
  refine ⟨fun jzz hj => ?_, fun jzz hj => ?_, ?_, ?_, fun pzz h0 h1 => ?_, hv⟩
  · rw [updA, if_neg (by omega)]; exact hzz.1 jzz hj
  · rw [updA, if_neg (by omega)]; exact hzz.2.1 jzz hj
  · rw [updA, if_neg (by omega)]; exact hzz.2.2.1
  · rw [updA, if_neg (by omega)]; exact hzz.2.2.2.1
  · have ezz : gI (sI mv 2 vzz) 2 = vzz := rfl
    rw [ezz, hbzz pzz h0 h1, updA]
    by_cases czz : pzz.toNatClampNeg = izz
    · rw [if_pos czz, if_pos (by omega)]
    · rw [if_neg czz, if_neg (by omega)]; exact hzz.2.2.2.2.1 pzz h0 h1
set_option maxHeartbeats 200000 in
theorem bits_clear {Ezz xzz : Int32} {izz : Nat} (hE : 0 ≤ Ezz.toInt ∧ Ezz.toInt < 128) (ei : xzz.toInt = (izz : Int)) (hizz : izz < 7) : (∀ pzz : Int32, 0 ≤ pzz.toInt → pzz.toInt < 7 → ((Ezz &&& (((1 : Int32) <<< (xzz &&& 31)) ^^^ (-1 : Int32))) >>> (pzz &&& 31)) &&& (1 : Int32) = if pzz.toNatClampNeg = izz then 0 else (Ezz >>> (pzz &&& 31)) &&& (1 : Int32)) ∧ 0 ≤ (Ezz &&& (((1 : Int32) <<< (xzz &&& 31)) ^^^ (-1 : Int32))).toInt ∧ (Ezz &&& (((1 : Int32) <<< (xzz &&& 31)) ^^^ (-1 : Int32))).toInt < 128 := by
  obtain ⟨ezz, ee⟩ : ∃ ezz : Nat, Ezz.toInt = (ezz : Int) := ⟨Ezz.toInt.toNat, by omega⟩
  have qzz := en_clear ezz (by omega) izz hizz
  rw [i32_of ee (by omega), i32_of ei (by omega)]
  refine ⟨fun pzz h0 h1 => ?_, qzz.2⟩
  obtain ⟨bzz, eb⟩ : ∃ bzz : Nat, pzz.toInt = (bzz : Int) := ⟨pzz.toInt.toNat, by omega⟩
  have ib : pzz.toNatClampNeg = bzz := tnc_eq eb
  rw [ib, i32_of eb (by omega)]
  exact qzz.1 bzz (by omega)
set_option maxHeartbeats 200000 in
theorem bits_turn {Ezz xzz : Int32} {izz : Nat} (hE : 0 ≤ Ezz.toInt ∧ Ezz.toInt < 128) (ei : xzz.toInt = (izz : Int)) (hizz : izz < 7) : (∀ pzz : Int32, 0 ≤ pzz.toInt → pzz.toInt < 7 → ((Ezz ^^^ ((1 : Int32) <<< (xzz &&& 31))) >>> (pzz &&& 31)) &&& (1 : Int32) = if pzz.toNatClampNeg = izz then (1 : Int32) - ((Ezz >>> (xzz &&& 31)) &&& (1 : Int32)) else (Ezz >>> (pzz &&& 31)) &&& (1 : Int32)) ∧ 0 ≤ (Ezz ^^^ ((1 : Int32) <<< (xzz &&& 31))).toInt ∧ (Ezz ^^^ ((1 : Int32) <<< (xzz &&& 31))).toInt < 128 := by
  obtain ⟨ezz, ee⟩ : ∃ ezz : Nat, Ezz.toInt = (ezz : Int) := ⟨Ezz.toInt.toNat, by omega⟩
  have qzz := en_turn ezz (by omega) izz hizz
  rw [i32_of ee (by omega), i32_of ei (by omega)]
  refine ⟨fun pzz h0 h1 => ?_, qzz.2⟩
  obtain ⟨bzz, eb⟩ : ∃ bzz : Nat, pzz.toInt = (bzz : Int) := ⟨pzz.toInt.toNat, by omega⟩
  have ib : pzz.toNatClampNeg = bzz := tnc_eq eb
  have wzz := qzz.1 bzz (by omega)
  rw [ib, i32_of eb (by omega)]
  by_cases czz : bzz = izz
  · rw [if_pos czz] at wzz ⊢
    rw [wzz, czz]
  · rw [if_neg czz] at wzz ⊢
    exact wzz
set_option maxHeartbeats 200000 in
theorem at_eq {czz : Ob} {pzz zzz : Int32} {kzz izz : Nat} (ek : (gI czz 4).toInt = (kzz : Int)) (ep : pzz.toInt = (izz : Int) + 1) (hizz : izz < 7) (hzz : f_X1_at czz pzz = some zzz) : (izz < kzz ∧ zzz = gA czz 2 izz) ∨ (kzz ≤ izz ∧ zzz = -1) := by
  unfold f_X1_at at hzz
  rcases z_if hzz with ⟨c0zz, hzz⟩ | ⟨c0zz, hzz⟩
  · have c0zz := cv_lt (a := (izz : Int) + 1) (b := 1) ep (by decide) c0zz
    omega
  · rcases z_if hzz with ⟨c1zz, hzz⟩ | ⟨c1zz, hzz⟩
    · have c1zz := cv_lt (a := (kzz : Int)) (b := (izz : Int) + 1) ek ep c1zz
      exact Or.inr ⟨by omega, (Option.some.inj hzz).symm⟩
    · have c1zz := cv_nlt (a := (kzz : Int)) (b := (izz : Int) + 1) ek ep c1zz
      have hzz := Option.some.inj (z_gd hzz).2
      have ix : (pzz - (1 : Int32)).toNatClampNeg = izz := tnc_eq (by rw [i32_sub ep (by decide : (1 : Int32).toInt = 1) (by omega) (by omega)]; omega)
      rw [ix] at hzz
      exact Or.inl ⟨by omega, hzz.symm⟩
def Lne (czz o : Ob) (n kzz : Nat) : Prop := gI czz 4 = gI o 43 ∧ (gI czz 4).toInt = (kzz : Int) ∧ ∀ jzz, jzz < kzz → gA czz 2 jzz = gA o 42 jzz ∧ 0 ≤ (gA czz 2 jzz).toInt ∧ (gA czz 2 jzz).toInt < (n : Int)
set_option maxHeartbeats 200000 in
theorem LUt.lne {czz o : Ob} {n kzz : Nat} (hzz : LUt czz o n kzz) : Lne czz o n kzz := ⟨hzz.1, hzz.2.1, fun jzz hj => ⟨(hzz.2.2 jzz hj).1, (hzz.2.2 jzz hj).2.1, (hzz.2.2 jzz hj).2.2.1⟩⟩
set_option maxHeartbeats 200000 in
theorem Lne.eq {czz o o' : Ob} {n kzz : Nat} (hzz : Lne czz o n kzz) (e1zz : gI o' 43 = gI o 43) (e2zz : gA o' 42 = gA o 42) : Lne czz o' n kzz := ⟨hzz.1.trans e1zz.symm, hzz.2.1, fun jzz hj => by rw [e2zz]; exact hzz.2.2 jzz hj⟩
set_option maxHeartbeats 200000 in
theorem race_clr {czz isl : Ob} {pl : List CR} {n kzz : Nat} {fzz : Int32} {yzz : Int32 × Ob × Ob} {y' : Int32 × Ob} (hn7 : n ≤ 7) (hkn : kzz ≤ n) :
    ∀ (Nzz N' : Nat) (vzz : Int32) (mv mezz o : Ob) (izz : Nat), vzz.toInt = (izz : Int) → izz ≤ kzz → Lne czz o n kzz → TzM mv (gA o 3) → lp_X1_heldRace_186 czz isl pl Nzz (fzz, vzz, mv, mezz) = some yzz → lp_X9_raceIt_219 N' (fzz, vzz, o) = some y' → yzz.1 = fzz ∧ y'.1 = fzz ∧ TzM yzz.2.1 (gA y'.2 3) ∧ RwC n (gA o 3) (gA y'.2 3) := by
  intro Nzz
  induction Nzz with
  | zero => intro N' vzz mv mezz o izz _ _ _ _ h1; cases h1
  | succ Nzz ihzz =>
    intro N' vzz mv mezz o izz evzz hizz hTzz hMzz h1 h2
    cases N' with
    | zero => cases h2
    | succ N' =>
    have h1 : lb_X1_heldRace_186 czz isl pl (lp_X1_heldRace_186 czz isl pl Nzz) fzz vzz mv mezz = some yzz := h1
    have h2 : lb_X9_raceIt_219 (lp_X9_raceIt_219 N') fzz vzz o = some y' := h2
    unfold lb_X1_heldRace_186 at h1
    unfold lb_X9_raceIt_219 at h2
    rw [← hTzz.1] at h2
    by_cases c0zz : gI czz 4 ≤ vzz
    · have h1 := Option.some.inj (z_t h1 c0zz)
      have h2 := Option.some.inj (z_t h2 c0zz)
      rw [← h1, ← h2]
      exact ⟨rfl, rfl, hMzz, RwC.rf⟩
    · have h1 := z_f h1 c0zz
      have h2 := z_f h2 c0zz
      have c0zz := cv_nle (a := (kzz : Int)) (b := (izz : Int)) hTzz.2.1 evzz c0zz
      have ivzz : vzz.toNatClampNeg = izz := tnc_eq evzz
      rw [ivzz] at h1 h2
      have h1 := (z_gd h1).2
      have h2 := (z_gd (z_gd h2).2).2
      obtain ⟨l1, l2, l3⟩ := hTzz.2.2 izz (by omega)
      rw [← l1] at h2
      obtain ⟨xzz, exzz⟩ : ∃ xzz : Nat, (gA czz 2 izz).toInt = (xzz : Int) := ⟨(gA czz 2 izz).toInt.toNat, by omega⟩
      have ix : ((22 : Int32) + gA czz 2 izz).toNatClampNeg = 22 + xzz := tnc_eq (by rw [i32_add (by decide : (22 : Int32).toInt = 22) exzz (by omega) (by omega)]; omega)
      rw [ix] at h2
      obtain ⟨m9zz, g9, h1⟩ := z_lt h1
      obtain ⟨x10, q1zz, h1⟩ := z_lt h1
      obtain ⟨o11, k11, h2⟩ := z_lt h2
      obtain ⟨x12, q2zz, h2⟩ := z_lt h2
      have qx : x12 = x10 := q2zz.trans q1zz.symm
      rw [qx] at h2
      have bc := bits_clear (Ezz := gI mv 2) hMzz.2.2.2.2.2 exzz (by omega)
      have eG : gA o11 3 = upd (gA o 3) (22 + xzz) 0 := by rw [k11]; rfl
      have hM9 : TzM m9zz (gA o11 3) := by rw [g9, eG]; exact hMzz.ent bc.2 bc.1 (by omega)
      obtain ⟨r1zz, r2, r3, r4⟩ := ihzz N' x10 m9zz mezz o11 (izz + 1) (by rw [q1zz]; exact Eq.trans (i32_add evzz (by decide : (1 : Int32).toInt = 1) (by omega) (by omega)) (by omega)) (by omega) (hTzz.eq (by rw [k11]; rfl) (by rw [k11]; rfl)) hM9 h1 h2
      exact ⟨r1zz, r2, r3, RwC.tr (by rw [eG]; exact RwC.up (by omega)) r4⟩
set_option maxHeartbeats 200000 in
theorem upd_own {Gzz : Nat → Int32} {azz : Nat} {vzz : Int32} (hzz : vzz = Gzz azz) : upd Gzz azz vzz = Gzz := by
  funext jzz
  rw [updA]
  by_cases czz : jzz = azz
  · rw [if_pos czz, hzz, czz]
  · rw [if_neg czz]
set_option maxHeartbeats 200000 in
theorem race_end {czz isl mv mezz o : Ob} {pl : List CR} {n kzz : Nat} {fzz t w3zz : Int32} {yzz : Int32 × Ob × Ob} {y' : Int32 × Ob} (hn7 : n ≤ 7) (hkn : kzz ≤ n) (hTzz : Lne czz o n kzz) (hMzz : TzM mv (gA o 3)) (h3 : 0 ≤ w3zz.toInt ∧ w3zz.toInt ≤ 9) (ht : (kzz ≤ 2 ∧ t = -1) ∨ (2 < kzz ∧ t = gA czz 2 2))
    (h1 : bk_X1_heldRace_163 czz isl pl fzz t w3zz mv mezz = some yzz) (h2 : bk_X9_raceIt_169 fzz w3zz o = some y') : yzz.1 = fzz ∧ y'.1 = fzz ∧ TzM yzz.2.1 (gA y'.2 3) ∧ RwC n (gA o 3) (gA y'.2 3) := by
  unfold bk_X1_heldRace_163 at h1
  unfold bk_X9_raceIt_169 at h2
  have n2zz : (2 : Int32).toNatClampNeg = 2 := by decide
  rw [n2zz, ← hTzz.1] at h2
  rcases ht with ⟨q1zz, q2zz⟩ | ⟨q1zz, q2zz⟩
  · have h1 := z_t h1 q2zz
    have h2 := z_t h2 (Int32.le_iff_toInt_le.mpr (by rw [hTzz.2.1]; have : (2 : Int32).toInt = 2 := (by decide); omega))
    unfold bk_X1_heldRace_183 at h1
    unfold bk_X9_raceIt_216 at h2
    exact race_clr hn7 hkn zfu zfu 0 mv mezz o 0 (by decide) (Nat.zero_le _) hTzz hMzz h1 h2
  · obtain ⟨l1, l2, l3⟩ := hTzz.2.2 2 q1zz
    obtain ⟨xzz, exzz⟩ : ∃ xzz : Nat, (gA czz 2 2).toInt = (xzz : Int) := ⟨(gA czz 2 2).toInt.toNat, by omega⟩
    have h1 := z_f h1 (fun qzz => by rw [q2zz] at qzz; rw [qzz] at l2; exact absurd l2 (by decide))
    have h2 := z_f h2 (fun qzz => by have qzz := cv_le (a := (kzz : Int)) (b := 2) hTzz.2.1 (by decide) qzz; omega)
    have ix : ((15 : Int32) + gA czz 2 2).toNatClampNeg = 15 + xzz := tnc_eq (by rw [i32_add (by decide : (15 : Int32).toInt = 15) exzz (by omega) (by omega)]; omega)
    rw [← l1, ix] at h2
    rw [q2zz] at h1
    obtain ⟨z11, e11zz, h1⟩ := z_bd h1
    have h2 := (z_gd h2).2
    obtain ⟨z14zz, e14zz, h2⟩ := z_bd h2
    have h2 := (z_gd h2).2
    obtain ⟨o16, k16, h2⟩ := z_lt h2
    unfold bk_X1_heldRace_183 at h1
    unfold bk_X9_raceIt_216 at h2
    have eG : gA o16 3 = upd (gA o 3) (15 + xzz) z14zz := by rw [k16]; rfl
    have hM' : TzM z11 (gA o16 3) := by rw [eG]; exact hMzz.prize exzz (by omega) ⟨h3.1, by omega⟩ e11zz e14zz
    obtain ⟨r1zz, r2, r3, r4⟩ := race_clr hn7 hkn zfu zfu 0 z11 mezz o16 0 (by decide) (Nat.zero_le _) (hTzz.eq (by rw [k16]; rfl) (by rw [k16]; rfl)) hM' h1 h2
    exact ⟨r1zz, r2, r3, RwC.tr (by rw [eG]; exact RwC.up (by omega)) r4⟩
set_option maxHeartbeats 200000 in
theorem race_tail {czz isl mv mezz o : Ob} {pl : List CR} {lz : Option Nat} {rc : Int32} {n kzz : Nat} {fzz s t w1zz w2zz w3zz t2zz : Int32} {yzz : Int32 × Ob × Ob} {y' : Int32 × Ob} (hn7 : n ≤ 7) (hkn : kzz ≤ n) (hk : 1 ≤ kzz) (hTzz : Lne czz o n kzz) (hMzz : TzM mv (gA o 3))
    (hf : fzz = gA czz 2 0) (hw1 : 0 ≤ w1zz.toInt ∧ w1zz.toInt ≤ 9) (hw2 : 0 ≤ w2zz.toInt ∧ w2zz.toInt ≤ 9) (hw3 : 0 ≤ w3zz.toInt ∧ w3zz.toInt ≤ 9) (ht2 : 0 ≤ t2zz.toInt ∧ t2zz.toInt ≤ 9)
    (hs : (kzz = 1 ∧ s = -1 ∧ w2zz = 0) ∨ (1 < kzz ∧ s = gA czz 2 1 ∧ ∀ (zzz : Int32 × Ob), f_X1_turnsTo_Q czz isl mv mezz pl lz s rc = some zzz → zzz.1 = t2zz)) (ht : (kzz ≤ 2 ∧ t = -1) ∨ (2 < kzz ∧ t = gA czz 2 2))
    (h1 : bk_X1_heldRace_87 czz isl pl rc lz fzz s t w1zz w2zz w3zz mv mezz = some yzz) (h2 : bk_X9_raceIt_90 fzz w1zz w2zz t2zz w3zz o = some y') : yzz.1 = fzz ∧ y'.1 = fzz ∧ TzM yzz.2.1 (gA y'.2 3) ∧ RwC n (gA o 3) (gA y'.2 3) := by
  have n7 : (7 : Int32).toNatClampNeg = 7 := by decide
  have n1zz : (1 : Int32).toNatClampNeg = 1 := by decide
  obtain ⟨l1, l2, l3⟩ := hTzz.2.2 0 (by omega)
  obtain ⟨xzz, exzz⟩ : ∃ xzz : Nat, (gA czz 2 0).toInt = (xzz : Int) := ⟨(gA czz 2 0).toInt.toNat, by omega⟩
  have exf : fzz.toInt = (xzz : Int) := by rw [hf]; exact exzz
  have nfzz : ¬ fzz = -1 := fun qzz => by rw [qzz] at exf; have wzz : (-1 : Int32).toInt = -1 := (by decide); omega
  have ix : ((15 : Int32) + fzz).toNatClampNeg = 15 + xzz := tnc_eq (by rw [i32_add (by decide : (15 : Int32).toInt = 15) exf (by omega) (by omega)]; omega)
  unfold bk_X9_raceIt_90 at h2
  rw [n7, n1zz, ix] at h2
  have h2 := (z_gd h2).2
  obtain ⟨z4, e4zz, h2⟩ := z_bd h2
  have h2 := (z_gd h2).2
  obtain ⟨o6, k6zz, h2⟩ := z_lt h2
  obtain ⟨z7, e7zz, h2⟩ := z_bd h2
  obtain ⟨o8zz, k8zz, h2⟩ := z_lt h2
  have G6 : gA o6 3 = upd (gA o 3) (15 + xzz) z4 := by rw [k6zz]; rfl
  have G8 : gA o8zz 3 = upd (upd (gA o 3) (15 + xzz) z4) 7 z7 := by rw [k8zz, ← G6]; rfl
  have g67 : gA o6 3 7 = gA o 3 7 := by rw [G6, updA, if_neg (by omega)]
  rw [g67] at e7zz
  have T8 : Lne czz o8zz n kzz := hTzz.eq (by rw [k8zz, k6zz]; rfl) (by rw [k8zz, k6zz]; rfl)
  have hgap := hMzz.2.2.1
  obtain ⟨s1zz, s2zz⟩ := sum999 (zzz := if (gA o 3 7 + w2zz) < (999 : Int32) then (gA o 3 7 + w2zz) else (999 : Int32)) ⟨hgap.2.1, hgap.2.2⟩ ⟨hw2.1, by omega⟩ rfl e7zz
  unfold bk_X1_heldRace_87 at h1
  rw [← T8.1] at h2
  rcases hs with ⟨q1zz, q2zz, q3zz⟩ | ⟨q1zz, q2zz, q3zz⟩
  · have h1 := z_t h1 q2zz
    have h2 := z_t h2 (Int32.le_iff_toInt_le.mpr (by rw [T8.2.1]; have : (1 : Int32).toInt = 1 := (by decide); omega))
    unfold bk_X1_heldRace_145 at h1
    have h1 := z_f h1 nfzz
    obtain ⟨z12, e12zz, h1⟩ := z_bd h1
    have e70 : z7 = gA o 3 7 := by
      have wzz : gA o 3 7 + w2zz = gA o 3 7 := by
        rw [q3zz]; exact Int32.toInt_inj.mp (by rw [i32_add rfl (by decide : (0 : Int32).toInt = 0) (by omega) (by omega)]; omega)
      rw [wzz] at e7zz
      exact with_id (M := 999) (by decide) ⟨hgap.2.1, hgap.2.2⟩ e7zz
    have G8' : gA o8zz 3 = upd (gA o 3) (15 + xzz) z4 := by rw [G8]; exact upd_own (by rw [updA, if_neg (by omega)]; exact e70)
    have hM' : TzM z12 (gA o8zz 3) := by rw [G8']; exact hMzz.prize exf (by omega) ⟨hw1.1, by omega⟩ e12zz e4zz
    obtain ⟨r1zz, r2, r3, r4⟩ := race_end hn7 hkn T8 hM' hw3 ht h1 h2
    exact ⟨r1zz, r2, r3, RwC.tr (by rw [G8']; exact RwC.up (by omega)) r4⟩
  · obtain ⟨m1zz, m2zz, m3zz⟩ := hTzz.2.2 1 q1zz
    obtain ⟨uzz, eu⟩ : ∃ uzz : Nat, (gA czz 2 1).toInt = (uzz : Int) := ⟨(gA czz 2 1).toInt.toNat, by omega⟩
    have eus : s.toInt = (uzz : Int) := by rw [q2zz]; exact eu
    have h1 := z_f h1 (fun qzz => by rw [qzz] at eus; have wzz : (-1 : Int32).toInt = -1 := (by decide); omega)
    have h2 := z_f h2 (fun qzz => by have qzz := cv_le (a := (kzz : Int)) (b := 1) T8.2.1 (by decide) qzz; omega)
    obtain ⟨z13zz, e13zz, h1⟩ := z_bd h1
    have et := q3zz z13zz e13zz
    have h1 := (z_gd h1).2
    have iszz : s.toNatClampNeg = uzz := tnc_eq eus
    rw [iszz, et] at h1
    obtain ⟨m15, g15, h1⟩ := z_lt h1
    obtain ⟨m16, g16, h1⟩ := z_lt h1
    have l42 : gA o8zz 42 1 = gA czz 2 1 := by rw [k8zz, k6zz]; exact m1zz.symm
    have iu : ((8 : Int32) + gA czz 2 1).toNatClampNeg = 8 + uzz := tnc_eq (by rw [i32_add (by decide : (8 : Int32).toInt = 8) eu (by omega) (by omega)]; omega)
    rw [l42, iu] at h2
    have h2 := (z_gd h2).2
    obtain ⟨o18, k18, h2⟩ := z_lt h2
    have G18 : gA o18 3 = upd (upd (upd (gA o 3) (15 + xzz) z4) 7 z7) (8 + uzz) t2zz := by rw [k18, ← G8]; rfl
    have hM15 : TzM m15 (upd (gA o 3) (8 + uzz) t2zz) := by rw [g15]; exact hMzz.trade (by omega) ht2
    have e16zz : m16 = sI m15 3 z7 := by
      rw [g16]
      have wzz : gI m15 3 = gA o 3 7 := by rw [g15]; exact hgap.1
      rw [wzz, s1zz]
    have hM16 : TzM m16 (upd (upd (gA o 3) (8 + uzz) t2zz) 7 z7) := by rw [e16zz]; exact hM15.gap s2zz
    unfold bk_X1_heldRace_145 at h1
    have h1 := z_f h1 nfzz
    obtain ⟨z12, e12zz, h1⟩ := z_bd h1
    have e4' : f_X9_within ((upd (upd (gA o 3) (8 + uzz) t2zz) 7 z7 (15 + xzz)) + w1zz).toInt64 0 999 = some z4 := by
      rw [updA, if_neg (by omega), updA, if_neg (by omega)]; exact e4zz
    have hM12 := hM16.prize exf (by omega) ⟨hw1.1, by omega⟩ e12zz e4'
    have eG : upd (upd (upd (gA o 3) (8 + uzz) t2zz) 7 z7) (15 + xzz) z4 = gA o18 3 := by
      rw [G18, upd_cm (azz := 7) (bzz := 15 + xzz) (by omega), upd_cm (azz := 8 + uzz) (bzz := 15 + xzz) (by omega), upd_cm (azz := 8 + uzz) (bzz := 7) (by omega)]
    rw [eG] at hM12
    obtain ⟨r1zz, r2, r3, r4⟩ := race_end hn7 hkn (T8.eq (by rw [k18]; rfl) (by rw [k18]; rfl)) hM12 hw3 ht h1 h2
    refine ⟨r1zz, r2, r3, RwC.tr ?_ r4⟩
    rw [G18]
    exact RwC.tr (RwC.up (azz := 15 + xzz) (by omega)) (RwC.tr (RwC.up (azz := 7) (by omega)) (RwC.up (azz := 8 + uzz) (by omega)))
set_option maxHeartbeats 200000 in
theorem turn_rng {o : Ob} {pzz rzz : Int32} {wzz : Int32 × Ob} (hzz : f_X9_turnsOf o pzz rzz = some wzz) : 0 ≤ wzz.1.toInt ∧ wzz.1.toInt ≤ 9 := by
  unfold f_X9_turnsOf at hzz
  have hzz := (z_gd hzz).2
  obtain ⟨w1zz, e2zz, hzz⟩ := z_bd hzz
  obtain ⟨w3zz, e3zz, hzz⟩ := z_bd hzz
  have hzz := Option.some.inj hzz
  rw [← hzz]
  exact within_rng (M := 9) (by decide) (by decide) e3zz
set_option maxHeartbeats 200000 in
theorem race_eq {czz isl mv mezz o : Ob} {pl : List CR} {rc : Int32} {n kzz R : Nat} {yzz : Int32 × Ob × Ob} {y' : Int32 × Ob} (hLW : ∀ zzz, f_X2_lawInForce isl = some zzz → LwP pl zzz (gA o 3) (gA o 3 3)) (hw : WtL isl mv (gA o 3)) (hMzz : TzM mv (gA o 3)) (h20 : gI o 20 = 0) (en : (gA o 3 0).toInt = (n : Int)) (eR : rc.toInt = (R : Int)) (hR : R < 4) (hTzz : Lne czz o n kzz) (hk : 1 ≤ kzz) (hkn : kzz ≤ n)
    (h1 : f_X1_heldRace czz isl mv mezz pl rc = some yzz) (h2 : f_X9_raceIt o rc = some y') : yzz.1 = y'.1 ∧ 0 ≤ y'.1.toInt ∧ TzM yzz.2.1 (gA y'.2 3) ∧ RwC n (gA o 3) (gA y'.2 3) := by
  have hn7 : n ≤ 7 := by have := hw.1.2.2; omega
  have n0zz : (0 : Int32).toNatClampNeg = 0 := by decide
  have n1zz : (1 : Int32).toNatClampNeg = 1 := by decide
  have n2zz : (2 : Int32).toNatClampNeg = 2 := by decide
  have z0 : 0 ≤ (0 : Int32).toInt ∧ (0 : Int32).toInt ≤ 9 := by decide
  unfold f_X1_heldRace at h1
  obtain ⟨lz, el, h1⟩ := z_bd h1
  obtain ⟨fzz, ef, h1⟩ := z_bd h1
  obtain ⟨s, es, h1⟩ := z_bd h1
  obtain ⟨t, et, h1⟩ := z_bd h1
  have hL := hLW lz el
  have aF := at_eq (izz := 0) hTzz.2.1 (by decide) (by decide) ef
  have aS := at_eq (izz := 1) hTzz.2.1 (by decide) (by decide) es
  have aT := at_eq (izz := 2) hTzz.2.1 (by decide) (by decide) et
  have hf : fzz = gA czz 2 0 := by
    rcases aF with ⟨-, qzz⟩ | ⟨qzz, -⟩
    · exact qzz
    · omega
  have ht : (kzz ≤ 2 ∧ t = -1) ∨ (2 < kzz ∧ t = gA czz 2 2) := by
    rcases aT with ⟨azz, bzz⟩ | ⟨azz, bzz⟩
    · exact Or.inr ⟨azz, bzz⟩
    · exact Or.inl ⟨azz, bzz⟩
  obtain ⟨l1, l2, l3⟩ := hTzz.2.2 0 (by omega)
  have nfzz : ¬ fzz = -1 := fun qzz => by rw [hf] at qzz; rw [qzz] at l2; exact absurd l2 (by decide)
  have h1 := z_f h1 nfzz
  obtain ⟨z5, e5zz, h1⟩ := z_bd h1
  have ask : ∀ (o' : Ob) (pzz : Int32), gA o' 3 = gA o 3 → gI o' 20 = 0 → 0 ≤ pzz.toInt → pzz.toInt < (n : Int) → Asked pl lz isl mv o' pzz rc := fun o' pzz g1 g2 g3zz g4 => ⟨by rw [g1]; exact hL, by rw [g1]; exact hw, g2, ⟨pzz.toInt.toNat, by omega, by rw [hw.1.1]; omega⟩, R, eR, hR⟩
  unfold f_X9_raceIt at h2
  rw [n0zz, n1zz] at h2
  obtain ⟨x1zz, ex1, h2⟩ := z_lt h2
  have fx : x1zz = fzz := by rw [ex1, hf]; exact l1.symm
  rw [fx] at h2
  obtain ⟨w2zz, e2zz, h2⟩ := z_bd h2
  have f2zz := fr_f_X9_winsOf e2zz
  obtain ⟨u1zz, u2zz⟩ := wins_eq (ask o fzz rfl h20 (by rw [hf]; exact l2) (by rw [hf]; exact l3)) (Or.inl rfl) e5zz e2zz
  have G2zz : gA w2zz.2 3 = gA o 3 := f2zz.A 3 rfl
  have K2 : gI w2zz.2 20 = 0 := (f2zz.I 20 rfl).trans h20
  have T2 : Lne czz w2zz.2 n kzz := hTzz.eq (f2zz.I 43 rfl) (f2zz.A 42 rfl)
  have k43 : ∀ o' : Ob, gI o' 43 = gI w2zz.2 43 → (gI o' 43).toInt = (kzz : Int) := fun o' qzz => by rw [qzz, ← T2.1]; exact hTzz.2.1
  rw [u1zz] at h1
  unfold bk_X1_heldRace_45 at h1
  by_cases c1zz : kzz ≤ 1
  ·
    have hs : s = -1 := by
      rcases aS with ⟨qzz, -⟩ | ⟨-, qzz⟩
      · omega
      · exact qzz
    have ht' : t = -1 := by
      rcases ht with ⟨-, qzz⟩ | ⟨qzz, -⟩
      · exact qzz
      · omega
    have le1 : ∀ o' : Ob, gI o' 43 = gI w2zz.2 43 → gI o' 43 ≤ (1 : Int32) := fun o' qzz => Int32.le_iff_toInt_le.mpr (by rw [k43 o' qzz]; have : (1 : Int32).toInt = 1 := (by decide); omega)
    have le2 : ∀ o' : Ob, gI o' 43 = gI w2zz.2 43 → gI o' 43 ≤ (2 : Int32) := fun o' qzz => Int32.le_iff_toInt_le.mpr (by rw [k43 o' qzz]; have : (2 : Int32).toInt = 2 := (by decide); omega)
    have h2 := z_t h2 (le1 _ rfl)
    unfold bk_X9_raceIt_39 at h2
    have h2 := z_t h2 (le1 _ rfl)
    unfold bk_X9_raceIt_64 at h2
    have h2 := z_t h2 (le2 _ rfl)
    have h1 := z_t h1 hs
    unfold bk_X1_heldRace_66 at h1
    have h1 := z_t h1 ht'
    obtain ⟨r1zz, r2, r3, r4⟩ := race_tail hn7 hkn hk T2 (by rw [G2zz]; exact hMzz) hf u2zz z0 z0 z0 (Or.inl ⟨by omega, hs, rfl⟩) ht h1 h2
    rw [G2zz] at r4
    exact ⟨r1zz.trans r2.symm, by rw [r2, hf]; exact l2, r3, r4⟩
  · obtain ⟨m1zz, m2zz, m3zz⟩ := hTzz.2.2 1 (by omega)
    have hs : s = gA czz 2 1 := by
      rcases aS with ⟨-, qzz⟩ | ⟨qzz, -⟩
      · exact qzz
      · omega
    have nle1 : ∀ o' : Ob, gI o' 43 = gI w2zz.2 43 → ¬ gI o' 43 ≤ (1 : Int32) := fun o' qzz zzz => by have zzz := cv_le (a := (kzz : Int)) (b := 1) (k43 o' qzz) (by decide) zzz; omega
    have h2 := z_f h2 (nle1 _ rfl)
    have l421 : gA w2zz.2 42 1 = s := by rw [f2zz.A 42 rfl, hs]; exact m1zz.symm
    rw [l421] at h2
    obtain ⟨w21, e21zz, h2⟩ := z_bd h2
    have f21 := fr_f_X9_winsOf e21zz
    have h1 := z_f h1 (fun qzz => by rw [hs] at qzz; rw [qzz] at m2zz; exact absurd m2zz (by decide))
    obtain ⟨z6, e6zz, h1⟩ := z_bd h1
    obtain ⟨v1zz, v2⟩ := wins_eq (ask w2zz.2 s G2zz K2 (by rw [hs]; exact m2zz) (by rw [hs]; exact m3zz)) (Or.inr (Or.inl rfl)) e6zz e21zz
    have G21 : gA w21.2 3 = gA o 3 := (f21.A 3 rfl).trans G2zz
    have K21 : gI w21.2 20 = 0 := (f21.I 20 rfl).trans K2
    have q21 : gI w21.2 43 = gI w2zz.2 43 := f21.I 43 rfl
    rw [v1zz] at h1
    unfold bk_X9_raceIt_39 at h2
    rw [n1zz] at h2
    have h2 := z_f h2 (nle1 _ q21)
    have l21 : gA w21.2 42 1 = s := by rw [f21.A 42 rfl]; exact l421
    rw [l21] at h2
    obtain ⟨w20, e20, h2⟩ := z_bd h2
    have f20zz := fr_f_X9_turnsOf e20
    have G20 : gA w20.2 3 = gA o 3 := (f20zz.A 3 rfl).trans G21
    have K20 : gI w20.2 20 = 0 := (f20zz.I 20 rfl).trans K21
    have q20 : gI w20.2 43 = gI w2zz.2 43 := (f20zz.I 43 rfl).trans q21
    have T20 : Lne czz w20.2 n kzz := T2.eq q20 ((f20zz.A 42 rfl).trans (f21.A 42 rfl))
    have hturn : ∀ (me' : Ob) (zzz : Int32 × Ob), f_X1_turnsTo_Q czz isl mv me' pl lz s rc = some zzz → zzz.1 = w20.1 ∧ 0 ≤ w20.1.toInt ∧ w20.1.toInt ≤ 9 := fun me' zzz ez => turns_eq (ask w21.2 s G21 K21 (by rw [hs]; exact m2zz) (by rw [hs]; exact m3zz)) ez e20
    unfold bk_X9_raceIt_64 at h2
    rw [n2zz] at h2
    unfold bk_X1_heldRace_66 at h1
    by_cases c2zz : kzz ≤ 2
    · have ht' : t = -1 := by
        rcases ht with ⟨-, qzz⟩ | ⟨qzz, -⟩
        · exact qzz
        · omega
      have h2 := z_t h2 (Int32.le_iff_toInt_le.mpr (by rw [k43 _ q20]; have : (2 : Int32).toInt = 2 := (by decide); omega))
      have h1 := z_t h1 ht'
      have rt : 0 ≤ w20.1.toInt ∧ w20.1.toInt ≤ 9 := turn_rng e20
      obtain ⟨r1zz, r2, r3, r4⟩ := race_tail hn7 hkn hk T20 (by rw [G20]; exact hMzz) hf u2zz v2 z0 rt (Or.inr ⟨by omega, hs, fun zzz ez => (hturn _ zzz ez).1⟩) ht h1 h2
      rw [G20] at r4
      exact ⟨r1zz.trans r2.symm, by rw [r2, hf]; exact l2, r3, r4⟩
    · obtain ⟨p1zz, p2zz, p3zz⟩ := hTzz.2.2 2 (by omega)
      have ht' : t = gA czz 2 2 := by
        rcases ht with ⟨qzz, -⟩ | ⟨-, qzz⟩
        · omega
        · exact qzz
      have h2 := z_f h2 (fun zzz => by have zzz := cv_le (a := (kzz : Int)) (b := 2) (k43 _ q20) (by decide) zzz; omega)
      have l20 : gA w20.2 42 2 = t := by rw [f20zz.A 42 rfl, f21.A 42 rfl, f2zz.A 42 rfl, ht']; exact p1zz.symm
      rw [l20] at h2
      obtain ⟨w19, e19zz, h2⟩ := z_bd h2
      have f19 := fr_f_X9_winsOf e19zz
      have h1 := z_f h1 (fun qzz => by rw [ht'] at qzz; rw [qzz] at p2zz; exact absurd p2zz (by decide))
      obtain ⟨z7, e7zz, h1⟩ := z_bd h1
      obtain ⟨x1zz, x2zz⟩ := wins_eq (ask w20.2 t G20 K20 (by rw [ht']; exact p2zz) (by rw [ht']; exact p3zz)) (Or.inr (Or.inr rfl)) e7zz e19zz
      rw [x1zz] at h1
      have G19 : gA w19.2 3 = gA o 3 := (f19.A 3 rfl).trans G20
      have rt : 0 ≤ w20.1.toInt ∧ w20.1.toInt ≤ 9 := turn_rng e20
      obtain ⟨r1zz, r2, r3, r4⟩ := race_tail hn7 hkn hk (T20.eq (f19.I 43 rfl) (f19.A 42 rfl)) (by rw [G19]; exact hMzz) hf u2zz v2 x2zz rt (Or.inr ⟨by omega, hs, fun zzz ez => (hturn _ zzz ez).1⟩) ht h1 h2
      rw [G19] at r4
      exact ⟨r1zz.trans r2.symm, by rw [r2, hf]; exact l2, r3, r4⟩
def WiL (isl : Ob) (Gzz : Nat → Int32) : Prop := (gI isl 7 = Gzz 0 ∧ 0 ≤ (Gzz 0).toInt ∧ (Gzz 0).toInt ≤ 7) ∧ (∀ jzz, jzz < 28 → gA isl 2 jzz = Gzz (36 + jzz) ∧ 0 ≤ (Gzz (36 + jzz)).toInt ∧ (Gzz (36 + jzz)).toInt ≤ 9) ∧ gI isl 12 = Gzz 6
set_option maxHeartbeats 200000 in
theorem WtL.of {isl mv : Ob} {Gzz : Nat → Int32} (hzz : WiL isl Gzz) (mzz : TzM mv Gzz) : WtL isl mv Gzz := ⟨hzz.1, hzz.2.1, mzz.1, fun jzz hj => (mzz.2.1 jzz hj).1, mzz.2.2.1.1, mzz.2.2.2.1.1, hzz.2.2⟩
set_option maxHeartbeats 200000 in
theorem WiL.rw' {isl : Ob} {Gzz G' : Nat → Int32} {n : Nat} (hzz : WiL isl Gzz) (rzz : RwC n Gzz G') : WiL isl G' := by
  have e0zz : G' 0 = Gzz 0 := rzz 0 (by omega)
  have e6zz : G' 6 = Gzz 6 := rzz 6 (by omega)
  unfold WiL
  rw [e0zz, e6zz]
  refine ⟨hzz.1, fun jzz hj => ?_, hzz.2.2⟩
  rw [rzz (36 + jzz) (by omega)]
  exact hzz.2.1 jzz hj
set_option maxHeartbeats 200000 in
theorem LwE.eq {oc : Ob} {Gzz G' : Nat → Int32} {l : Nat} (hzz : LwE oc Gzz l) (ezz : ∀ jzz, 84 ≤ jzz → G' jzz = Gzz jzz) : LwE oc G' l := by
  obtain ⟨n, K1, K2, h1, h2, h3, h4, h5, h6, h7⟩ := hzz
  have a1zz : clL G' l = clL Gzz l := funext fun kzz => ezz _ (by omega)
  have a2 : opL G' l = opL Gzz l := funext fun kzz => ezz _ (by omega)
  have a3 : argL G' l = argL Gzz l := funext fun kzz => ezz _ (by omega)
  refine ⟨n, K1, K2, h1, h2, h3, h4, h5, by rw [ezz _ (by omega)]; exact h6, ?_⟩
  rw [a1zz, a2, a3]
  exact h7
set_option maxHeartbeats 200000 in
theorem LwP.eq {pl : List CR} {rzz : Option Nat} {Gzz G' : Nat → Int32} {lw : Int32} (hzz : LwP pl rzz Gzz lw) (ezz : ∀ jzz, 84 ≤ jzz → G' jzz = Gzz jzz) : LwP pl rzz G' lw := by
  rcases hzz with hzz | ⟨l, azz, czz, h1, h2, h3, h4, h5⟩
  · exact Or.inl hzz
  · exact Or.inr ⟨l, azz, czz, h1, h2, h3, h4, h5.eq ezz⟩
set_option maxHeartbeats 200000 in
theorem LwP.rw' {pl : List CR} {rzz : Option Nat} {Gzz G' : Nat → Int32} {n : Nat} (hzz : LwP pl rzz Gzz (Gzz 3)) (wzz : RwC n Gzz G') : LwP pl rzz G' (G' 3) := by
  rw [wzz 3 (by omega)]
  exact hzz.eq (fun jzz hj => wzz jzz (by omega))
set_option maxHeartbeats 200000 in
theorem lower_lp {czz isl mv : Ob} {pzz zzz : Int32} {Pzz : Nat} (eP : pzz.toInt = (Pzz : Int)) (hP : Pzz < 7) : ∀ (Nzz : Nat) (vzz : Int32) (izz : Nat), vzz.toInt = (izz : Int) → izz ≤ Pzz → (∀ qzz, qzz < izz → ¬ gA mv 0 qzz = gA mv 0 Pzz) → lp_X1_hasTradeOfLower_2 czz isl mv Nzz (pzz, vzz) = some zzz → (¬ zzz = 0 ∧ ∃ qzz, qzz < Pzz ∧ gA mv 0 qzz = gA mv 0 Pzz) ∨ (zzz = 0 ∧ ∀ qzz, qzz < Pzz → ¬ gA mv 0 qzz = gA mv 0 Pzz) := by
  intro Nzz
  induction Nzz with
  | zero => intro vzz izz _ _ _ hzz; cases hzz
  | succ Nzz ihzz =>
    intro vzz izz evzz hizz hno hzz
    have hzz : lb_X1_hasTradeOfLower_2 czz isl mv (lp_X1_hasTradeOfLower_2 czz isl mv Nzz) pzz vzz = some zzz := hzz
    unfold lb_X1_hasTradeOfLower_2 at hzz
    have ivzz : vzz.toNatClampNeg = izz := tnc_eq evzz
    have ip : pzz.toNatClampNeg = Pzz := tnc_eq eP
    rw [ivzz, ip] at hzz
    rcases z_if hzz with ⟨c0zz, hzz⟩ | ⟨c0zz, hzz⟩
    · have c0zz := cv_le (a := (Pzz : Int)) (b := (izz : Int)) eP evzz c0zz
      exact Or.inr ⟨(Option.some.inj hzz).symm, fun qzz hq => hno qzz (by omega)⟩
    · have c0zz := cv_nle (a := (Pzz : Int)) (b := (izz : Int)) eP evzz c0zz
      have hzz := (z_gd (z_gd hzz).2).2
      rcases z_if hzz with ⟨c1zz, hzz⟩ | ⟨c1zz, hzz⟩
      · have hzz := Option.some.inj hzz
        exact Or.inl ⟨by rw [← hzz]; decide, izz, by omega, c1zz⟩
      · obtain ⟨xzz, exzz, hzz⟩ := z_lt hzz
        refine ihzz xzz (izz + 1) (by rw [exzz]; exact Eq.trans (i32_add evzz (by decide : (1 : Int32).toInt = 1) (by omega) (by omega)) (by omega)) (by omega) (fun qzz hq => ?_) hzz
        by_cases wzz : qzz = izz
        · rw [wzz]; exact c1zz
        · exact hno qzz (by omega)
set_option maxHeartbeats 200000 in
theorem like_lp {o : Ob} {pzz zzz : Int32} {Pzz : Nat} (eP : pzz.toInt = (Pzz : Int)) (hP : Pzz < 7) : ∀ (Nzz : Nat) (s vzz : Int32) (izz : Nat), vzz.toInt = (izz : Int) → izz ≤ Pzz → ((¬ s = 0 ∧ ∃ qzz, qzz < Pzz ∧ gA o 3 (8 + qzz) = gA o 3 (8 + Pzz)) ∨ (s = 0 ∧ ∀ qzz, qzz < izz → ¬ gA o 3 (8 + qzz) = gA o 3 (8 + Pzz))) → lp_X9_hasLike_4 o Nzz (pzz, s, vzz) = some zzz → (¬ zzz = 0 ∧ ∃ qzz, qzz < Pzz ∧ gA o 3 (8 + qzz) = gA o 3 (8 + Pzz)) ∨ (zzz = 0 ∧ ∀ qzz, qzz < Pzz → ¬ gA o 3 (8 + qzz) = gA o 3 (8 + Pzz)) := by
  intro Nzz
  induction Nzz with
  | zero => intro s vzz izz _ _ _ hzz; cases hzz
  | succ Nzz ihzz =>
    intro s vzz izz evzz hizz hs hzz
    have hzz : lb_X9_hasLike_4 o (lp_X9_hasLike_4 o Nzz) pzz s vzz = some zzz := hzz
    unfold lb_X9_hasLike_4 at hzz
    have ivzz : ((8 : Int32) + vzz).toNatClampNeg = 8 + izz := tnc_eq (by rw [i32_add (by decide : (8 : Int32).toInt = 8) evzz (by omega) (by omega)]; omega)
    have ip : ((8 : Int32) + pzz).toNatClampNeg = 8 + Pzz := tnc_eq (by rw [i32_add (by decide : (8 : Int32).toInt = 8) eP (by omega) (by omega)]; omega)
    rw [ivzz, ip] at hzz
    have tx : (vzz + (1 : Int32)).toInt = ((izz + 1 : Nat) : Int) := Eq.trans (i32_add evzz (by decide : (1 : Int32).toInt = 1) (by omega) (by omega)) (by omega)
    rcases z_if hzz with ⟨c0zz, hzz⟩ | ⟨c0zz, hzz⟩
    · have c0zz := cv_le (a := (Pzz : Int)) (b := (izz : Int)) eP evzz c0zz
      have hzz := Option.some.inj (z_gd hzz).2
      rw [← hzz]
      rcases hs with hs | ⟨s1zz, s2zz⟩
      · exact Or.inl hs
      · exact Or.inr ⟨s1zz, fun qzz hq => s2zz qzz (by omega)⟩
    · have c0zz := cv_nle (a := (Pzz : Int)) (b := (izz : Int)) eP evzz c0zz
      rcases z_if hzz with ⟨c1zz, hzz⟩ | ⟨c1zz, hzz⟩
      · have hzz := (z_gd (z_gd hzz).2).2
        rcases z_if hzz with ⟨c2zz, hzz⟩ | ⟨c2zz, hzz⟩
        · unfold bk_X9_hasLike_34 bk_X9_hasLike_39 at hzz
          obtain ⟨xzz, exzz, hzz⟩ := z_lt hzz
          rw [← exzz] at tx
          exact ihzz 1 xzz (izz + 1) tx (by omega) (Or.inl ⟨by decide, izz, by omega, c2zz⟩) hzz
        · unfold bk_X9_hasLike_39 at hzz
          obtain ⟨xzz, exzz, hzz⟩ := z_lt hzz
          rw [← exzz] at tx
          refine ihzz 0 xzz (izz + 1) tx (by omega) (Or.inr ⟨rfl, fun qzz hq => ?_⟩) hzz
          by_cases wzz : qzz = izz
          · rw [wzz]; exact c2zz
          · rcases hs with ⟨gzz, -⟩ | ⟨-, gzz⟩
            · exact absurd c1zz gzz
            · exact gzz qzz (by omega)
      · unfold bk_X9_hasLike_34 bk_X9_hasLike_39 at hzz
        obtain ⟨xzz, exzz, hzz⟩ := z_lt hzz
        rw [← exzz] at tx
        rcases hs with ⟨-, gzz⟩ | ⟨gzz, -⟩
        · exact ihzz 1 xzz (izz + 1) tx (by omega) (Or.inl ⟨by decide, gzz⟩) hzz
        · exact absurd gzz c1zz
set_option maxHeartbeats 200000 in
theorem pass_lp {czz isl : Ob} {pl : List CR} {lz : Option Nat} {n : Nat} {yzz : Int32 × Ob × Ob} {y' : Int32 × Ob} :
    ∀ (Nzz N' : Nat) (t vzz : Int32) (mv mezz o : Ob) (izz mzz : Nat), vzz.toInt = (izz : Int) → izz ≤ n → t.toInt = (mzz : Int) → mzz ≤ izz → LwP pl lz (gA o 3) (gA o 3 3) → WiL isl (gA o 3) → TzM mv (gA o 3) → gI o 20 = 0 → (gA o 3 0).toInt = (n : Int) → (gA o 3 4).toInt < 999 → lp_X1_passedYear_12 czz isl pl Nzz (lz, t, vzz, mv, mezz) = some yzz → lp_X9_passIt_4 N' (t, vzz, o) = some y' → yzz.1 = y'.1 ∧ 0 ≤ y'.1.toInt ∧ TzM yzz.2.1 (gA y'.2 3) ∧ RwC n (gA o 3) (gA y'.2 3) := by
  intro Nzz
  induction Nzz with
  | zero => intro N' t vzz mv mezz o izz mzz _ _ _ _ _ _ _ _ _ _ h1; cases h1
  | succ Nzz ihzz =>
    intro N' t vzz mv mezz o izz mzz evzz hizz et hmzz hL hI hMzz h20 en hy h1 h2
    cases N' with
    | zero => cases h2
    | succ N' =>
    have hn7 : n ≤ 7 := by have := hI.1.2.2; omega
    have n0zz : (0 : Int32).toNatClampNeg = 0 := by decide
    have n4zz : (4 : Int32).toNatClampNeg = 4 := by decide
    have h1 : lb_X1_passedYear_12 czz isl pl (lp_X1_passedYear_12 czz isl pl Nzz) lz t vzz mv mezz = some yzz := h1
    have h2 : lb_X9_passIt_4 (lp_X9_passIt_4 N') t vzz o = some y' := h2
    unfold lb_X1_passedYear_12 at h1
    unfold lb_X9_passIt_4 at h2
    rw [n0zz, n4zz, ← hI.1.1] at h2
    by_cases c0zz : gI isl 7 ≤ vzz
    · have h1 := z_t h1 c0zz
      have h2 := z_t h2 c0zz
      obtain ⟨m2zz, g2, h1⟩ := z_lt h1
      obtain ⟨o1, k1zz, h2⟩ := z_lt h2
      have h1 := Option.some.inj h1
      have h2 := Option.some.inj h2
      have eG : gA o1 3 = upd (gA o 3) 4 (gA o 3 4 + 1) := by rw [k1zz]; rfl
      rw [← h1, ← h2]
      have hyr := hMzz.2.2.2.1
      have tyzz : (gA o 3 4 + (1 : Int32)).toInt = (gA o 3 4).toInt + 1 := i32_add rfl (by decide) (by omega) (by omega)
      refine ⟨rfl, by show 0 ≤ t.toInt; omega, ?_, ?_⟩
      · show TzM m2zz (gA o1 3)
        rw [g2, eG, hyr.1]
        exact hMzz.year ⟨by rw [tyzz]; omega, by rw [tyzz]; omega⟩
      · show RwC n (gA o 3) (gA o1 3)
        rw [eG]; exact RwC.up (by omega)
    · have h1 := z_f h1 c0zz
      have h2 := z_f h2 c0zz
      have c0zz := cv_nle (a := (n : Int)) (b := (izz : Int)) (by rw [hI.1.1]; exact en) evzz c0zz
      obtain ⟨z3, e3zz, h1⟩ := z_bd h1
      obtain ⟨w2zz, e2zz, h2⟩ := z_bd h2
      unfold f_X1_hasTradeOfLower at e3zz
      unfold f_X9_hasLike at e2zz
      have a1zz := lower_lp evzz (by omega) zfu 0 0 (by decide) (Nat.zero_le _) (fun qzz hq => absurd hq (by omega)) e3zz
      have a2 := like_lp evzz (by omega) zfu 0 0 0 (by decide) (Nat.zero_le _) (Or.inr ⟨rfl, fun qzz hq => absurd hq (by omega)⟩) e2zz
      have tx : (vzz + (1 : Int32)).toInt = ((izz + 1 : Nat) : Int) := Eq.trans (i32_add evzz (by decide : (1 : Int32).toInt = 1) (by omega) (by omega)) (by omega)
      have tr : ∀ qzz, qzz < 7 → gA mv 0 qzz = gA o 3 (8 + qzz) := fun qzz hq => (hMzz.1 qzz hq).1
      by_cases c1zz : w2zz = 0
      · have z30 : z3 = 0 := by
          rcases a1zz with ⟨-, qzz, hq, eq⟩ | ⟨uzz, -⟩
          · rcases a2 with ⟨uzz, -⟩ | ⟨-, uzz⟩
            · exact absurd c1zz uzz
            · exact absurd (by rw [← tr qzz (by omega), ← tr izz (by omega)]; exact eq) (uzz qzz hq)
          · exact uzz
        have h1 := z_t h1 z30
        have h2 := z_t h2 c1zz
        unfold bk_X1_passedYear_53 at h1
        unfold bk_X9_passIt_40 at h2
        obtain ⟨x1zz, q1zz, h1⟩ := z_lt h1
        obtain ⟨x2zz, q2zz, h2⟩ := z_lt h2
        have qx : x2zz = x1zz := q2zz.trans q1zz.symm
        rw [qx] at h2
        rw [← q1zz] at tx
        exact ihzz N' t x1zz mv mezz o (izz + 1) mzz tx (by omega) et (by omega) hL hI hMzz h20 en hy h1 h2
      · have z30 : ¬ z3 = 0 := by
          rcases a1zz with ⟨uzz, -⟩ | ⟨-, uzz⟩
          · exact uzz
          · rcases a2 with ⟨-, qzz, hq, eq⟩ | ⟨wzz, -⟩
            · exact absurd (by rw [tr qzz (by omega), tr izz (by omega)]; exact eq) (uzz qzz hq)
            · exact absurd wzz c1zz
        have h1 := z_f h1 z30
        have h2 := z_f h2 c1zz
        obtain ⟨z5, e5zz, h1⟩ := z_bd h1
        obtain ⟨w4zz, e4zz, h2⟩ := z_bd h2
        have hA : Asked pl lz isl mv o vzz 0 := ⟨hL, WtL.of hI hMzz, h20, ⟨izz, evzz, by rw [hI.1.1]; omega⟩, 0, by decide, by decide⟩
        obtain ⟨u1zz, u2zz⟩ := turns_eq hA e5zz e4zz
        have f4zz := fr_f_X9_turnsOf e4zz
        have h1 := (z_gd h1).2
        have h2 := (z_gd h2).2
        have ivzz : vzz.toNatClampNeg = izz := tnc_eq evzz
        have i8zz : ((8 : Int32) + vzz).toNatClampNeg = 8 + izz := tnc_eq (by rw [i32_add (by decide : (8 : Int32).toInt = 8) evzz (by omega) (by omega)]; omega)
        rw [ivzz, u1zz] at h1
        rw [i8zz] at h2
        obtain ⟨m7zz, g7, h1⟩ := z_lt h1
        obtain ⟨x8, q8zz, h1⟩ := z_lt h1
        obtain ⟨o6, k6zz, h2⟩ := z_lt h2
        obtain ⟨x7, q7zz, h2⟩ := z_lt h2
        have q78 : x7 = x8 := q7zz.trans q8zz.symm
        rw [q78] at h2
        unfold bk_X1_passedYear_53 at h1
        unfold bk_X9_passIt_40 at h2
        obtain ⟨x1zz, q1zz, h1⟩ := z_lt h1
        obtain ⟨x2zz, q2zz, h2⟩ := z_lt h2
        have qx : x2zz = x1zz := q2zz.trans q1zz.symm
        rw [qx] at h2
        rw [← q1zz] at tx
        have eG : gA o6 3 = upd (gA o 3) (8 + izz) w4zz.1 := by
          rw [k6zz]
          show upd (gA w4zz.2 3) (8 + izz) w4zz.1 = _
          rw [f4zz.A 3 rfl]
        have rw1 : RwC n (gA o 3) (gA o6 3) := by rw [eG]; exact RwC.up (by omega)
        have hM7 : TzM m7zz (gA o6 3) := by rw [g7, eG]; exact hMzz.trade (by omega) u2zz
        have e60 : gA o6 3 0 = gA o 3 0 := rw1 0 (by omega)
        have e64 : gA o6 3 4 = gA o 3 4 := by rw [eG, updA, if_neg (by omega)]
        obtain ⟨r1zz, r2, r3, r4⟩ := ihzz N' x8 x1zz m7zz z5.2 o6 (izz + 1) (mzz + 1) tx (by omega) (by rw [q8zz]; exact Eq.trans (i32_add et (by decide : (1 : Int32).toInt = 1) (by omega) (by omega)) (by omega)) (by omega) (hL.rw' rw1) (hI.rw' rw1) hM7 (by rw [k6zz]; exact (f4zz.I 20 rfl).trans h20) (by rw [e60]; exact en) (by rw [e64]; exact hy) h1 h2
        exact ⟨r1zz, r2, r3, rw1.tr r4⟩
set_option maxHeartbeats 200000 in
theorem pass_eq {czz isl mv mezz o : Ob} {pl : List CR} {n : Nat} {yzz : Int32 × Ob × Ob} {y' : Int32 × Ob} (hLW : ∀ zzz, f_X2_lawInForce isl = some zzz → LwP pl zzz (gA o 3) (gA o 3 3)) (hI : WiL isl (gA o 3)) (hMzz : TzM mv (gA o 3)) (h20 : gI o 20 = 0) (en : (gA o 3 0).toInt = (n : Int)) (hy : (gA o 3 4).toInt < 999) (h1 : f_X1_passedYear czz isl mv mezz pl = some yzz) (h2 : f_X9_passIt o = some y') : yzz.1 = y'.1 ∧ 0 ≤ y'.1.toInt ∧ TzM yzz.2.1 (gA y'.2 3) ∧ RwC n (gA o 3) (gA y'.2 3) := by
  unfold f_X1_passedYear at h1
  unfold f_X9_passIt at h2
  obtain ⟨lz, el, h1⟩ := z_bd h1
  exact pass_lp zfu zfu 0 0 mv mezz o 0 0 (by decide) (Nat.zero_le _) (by decide) (Nat.le_refl _) (hLW lz el) hI hMzz h20 en hy h1 h2
set_option maxHeartbeats 200000 in
theorem entr_eq {czz isl mv o o5zz : Ob} {pzz : Int32} {n Pzz : Nat} {yzz : Int32 × Ob} (hMzz : TzM mv (gA o 3)) (eP : pzz.toInt = (Pzz : Int)) (hP : Pzz < n) (hn : n ≤ 7) (h1 : f_X1_changedEntry czz isl mv pzz = some yzz) (e5zz : gA o5zz 3 = upd (gA o 3) (22 + Pzz) ((1 : Int32) - gA o 3 (22 + Pzz))) : yzz.1 = gA o5zz 3 (22 + Pzz) ∧ 0 ≤ (gA o5zz 3 (22 + Pzz)).toInt ∧ TzM yzz.2 (gA o5zz 3) ∧ RwC n (gA o 3) (gA o5zz 3) := by
  unfold f_X1_changedEntry at h1
  obtain ⟨m1zz, g1, h1⟩ := z_lt h1
  have h1 := Option.some.inj h1
  have ip : pzz.toNatClampNeg = Pzz := tnc_eq eP
  have btzz := bits_turn (Ezz := gI mv 2) hMzz.2.2.2.2.2 eP (by omega)
  have en : gA o 3 (22 + Pzz) = ((gI mv 2) >>> (pzz &&& 31)) &&& (1 : Int32) := by
    have wzz := hMzz.2.2.2.2.1 pzz (by omega) (by omega)
    rw [ip] at wzz; exact wzz
  have hM1 : TzM m1zz (gA o5zz 3) := by
    rw [g1, e5zz, en]
    exact hMzz.ent btzz.2 btzz.1 (by omega)
  have v1zz : ((gI m1zz 2) >>> (pzz &&& 31)) &&& (1 : Int32) = gA o5zz 3 (22 + Pzz) := by
    have wzz := hM1.2.2.2.2.1 pzz (by omega) (by omega)
    rw [ip] at wzz; exact wzz.symm
  rw [← h1]
  refine ⟨v1zz, ?_, hM1, by rw [e5zz]; exact RwC.up (by omega)⟩
  rw [← v1zz]
  exact (i32_and (x := (gI m1zz 2) >>> (pzz &&& 31)) (y := 1) (m := 1) (by decide)).1
set_option maxHeartbeats 200000 in
theorem take_eq {czz isl mv o o' : Ob} {pzz : Int32} {n Pzz : Nat} {yzz : Int32 × Ob} (hMzz : TzM mv (gA o 3)) (eP : pzz.toInt = (Pzz : Int)) (hP : Pzz < n) (hn : n ≤ 7) (h1 : f_X1_takenGap czz isl mv pzz = some yzz) (h2 : f_X9_takeIt o pzz = some o') : yzz.1 = gA o 3 7 ∧ 0 ≤ (gA o 3 7).toInt ∧ TzM yzz.2 (gA o' 3) ∧ RwC n (gA o 3) (gA o' 3) := by
  have n7 : (7 : Int32).toNatClampNeg = 7 := by decide
  have i15 : ((15 : Int32) + pzz).toNatClampNeg = 15 + Pzz := tnc_eq (by rw [i32_add (by decide : (15 : Int32).toInt = 15) eP (by omega) (by omega)]; omega)
  unfold f_X1_takenGap at h1
  unfold f_X9_takeIt at h2
  rw [n7, i15] at h2
  obtain ⟨x1zz, q1zz, h1⟩ := z_lt h1
  obtain ⟨z2, e2zz, h1⟩ := z_bd h1
  obtain ⟨m3zz, g3zz, h1⟩ := z_lt h1
  have h1 := Option.some.inj h1
  have h2 := (z_gd h2).2
  obtain ⟨w2zz, k2zz, h2⟩ := z_bd h2
  have h2 := (z_gd h2).2
  obtain ⟨o4zz, k4zz, h2⟩ := z_lt h2
  obtain ⟨o5zz, k5zz, h2⟩ := z_lt h2
  have h2 := Option.some.inj h2
  have hg := hMzz.2.2.1
  have x7 : x1zz = gA o 3 7 := by rw [q1zz]; exact hg.1
  rw [x7] at e2zz
  have eG : gA o5zz 3 = upd (upd (gA o 3) (15 + Pzz) w2zz) 7 0 := by rw [k5zz, k4zz]; rfl
  have hM2 := hMzz.prize eP (by omega) ⟨hg.2.1, hg.2.2⟩ e2zz k2zz
  rw [← h1, ← h2]
  refine ⟨x7, hg.2.1, ?_, ?_⟩
  · show TzM m3zz (gA o5zz 3)
    rw [g3zz, eG]
    exact hM2.gap (by decide)
  · show RwC n (gA o 3) (gA o5zz 3)
    rw [eG]
    exact RwC.tr (RwC.up (azz := 15 + Pzz) (by omega)) (RwC.up (azz := 7) (by omega))
set_option maxHeartbeats 200000 in
theorem TzM.ext {mv mv' : Ob} {Gzz G' : Nat → Int32} (hzz : TzM mv Gzz) (a0zz : ∀ jzz, jzz < 7 → gA mv' 0 jzz = gA mv 0 jzz) (a1zz : ∀ jzz, jzz < 7 → gA mv' 1 jzz = gA mv 1 jzz) (i2zz : gI mv' 2 = gI mv 2) (i3zz : gI mv' 3 = gI mv 3) (i4zz : gI mv' 4 = gI mv 4) (eg : ∀ jzz, 4 ≤ jzz → jzz < 29 → G' jzz = Gzz jzz) : TzM mv' G' := by
  refine ⟨fun jzz hj => ?_, fun jzz hj => ?_, ?_, ?_, hzz.2.2.2.2.1.of i2zz (fun jzz h1 h2 => eg jzz (by omega) h2), by rw [i2zz]; exact hzz.2.2.2.2.2⟩
  · rw [a0zz jzz hj, eg _ (by omega) (by omega)]; exact hzz.1 jzz hj
  · rw [a1zz jzz hj, eg _ (by omega) (by omega)]; exact hzz.2.1 jzz hj
  · rw [i3zz, eg 7 (by omega) (by omega)]; exact hzz.2.2.1
  · rw [i4zz, eg 4 (by omega) (by omega)]; exact hzz.2.2.2.1
def mvAt (gzz : Nat → Int32) (bzz : Nat) : Ob := (fun izz => if izz = 2 then gzz (bzz + 14) else if izz = 3 then gzz (bzz + 15) else gzz (bzz + 16), fun _ => 0, fun izz jzz => if izz = 0 then gzz (bzz + jzz) else gzz (bzz + 7 + jzz), fun _ _ => 0, fun _ _ => none)
def unAt (uzz : Nat → Int32) (kzz : Nat) : Nat → Int32 := fun jzz => uzz (25 * kzz + (jzz - 4))
def RwS (n : Nat) (Gzz Uzz : Nat → Int32) : Prop := ∀ jzz, (jzz = 5 ∨ jzz = 6 ∨ (15 + n ≤ jzz ∧ jzz < 22) ∨ (22 + n ≤ jzz ∧ jzz < 29)) → Uzz jzz = Gzz jzz
def PaE (pa o : Ob) (n : Nat) (Gzz : Nat → Int32) (s izz : Nat) : Prop := gA pa 0 s = gA o 7 izz ∧ (0 ≤ (gA o 7 izz).toInt ∧ (gA o 7 izz).toInt ≤ 3) ∧ TzM (mvAt (gA pa 1) (17 * s)) (unAt (gA o 6) izz) ∧ RwS n Gzz (unAt (gA o 6) izz)
def PaT (pa o : Ob) (n : Nat) (Gzz : Nat → Int32) : Prop := gI pa 3 = gI o 8 ∧ ∃ sz fi : Nat, (gI pa 3).toInt = (sz : Int) ∧ sz ≤ 16 ∧ (gI pa 2).toInt = (fi : Int) ∧ fi < 16 ∧ ∀ izz, izz < sz → PaE pa o n Gzz ((fi + izz) % 16) izz
set_option maxHeartbeats 200000 in
theorem PaE.mv {pa pa' o o' : Ob} {n : Nat} {Gzz G' : Nat → Int32} {s izz i' : Nat} (hzz : PaE pa o n Gzz s izz) (a0zz : gA pa' 0 s = gA pa 0 s) (a1zz : ∀ t, t < 17 → gA pa' 1 (17 * s + t) = gA pa 1 (17 * s + t)) (b7 : gA o' 7 i' = gA o 7 izz) (b6 : ∀ t, t < 25 → gA o' 6 (25 * i' + t) = gA o 6 (25 * izz + t)) (eg : ∀ jzz, (jzz = 5 ∨ jzz = 6 ∨ (15 + n ≤ jzz ∧ jzz < 22) ∨ (22 + n ≤ jzz ∧ jzz < 29)) → G' jzz = Gzz jzz) : PaE pa' o' n G' s i' := by
  refine ⟨by rw [a0zz, b7]; exact hzz.1, by rw [b7]; exact hzz.2.1, hzz.2.2.1.ext (fun jzz hj => a1zz jzz (by omega)) (fun jzz hj => ?_) (a1zz 14 (by omega)) (a1zz 15 (by omega)) (a1zz 16 (by omega)) (fun jzz h1 h2 => b6 (jzz - 4) (by omega)), fun jzz hj => ?_⟩
  · have wzz := a1zz (7 + jzz) (by omega)
    rw [← Nat.add_assoc] at wzz
    exact wzz
  · rw [eg jzz hj]
    exact (b6 (jzz - 4) (by omega)).trans (hzz.2.2.2 jzz hj)
set_option maxHeartbeats 200000 in
theorem PaT.rw' {pa o : Ob} {n : Nat} {Gzz G' : Nat → Int32} (hzz : PaT pa o n Gzz) (wzz : RwC n Gzz G') : PaT pa o n G' := by
  obtain ⟨h0, sz, fi, h1, h2, h3, h4, h5⟩ := hzz
  exact ⟨h0, sz, fi, h1, h2, h3, h4, fun izz hizz => (h5 izz hizz).mv rfl (fun _ _ => rfl) rfl (fun _ _ => rfl) (fun jzz hj => wzz jzz (by omega))⟩
set_option maxHeartbeats 200000 in
theorem PaT.eq {pa o o' : Ob} {n : Nat} {Gzz : Nat → Int32} (hzz : PaT pa o n Gzz) (e8 : gI o' 8 = gI o 8) (e6zz : gA o' 6 = gA o 6) (e7zz : gA o' 7 = gA o 7) : PaT pa o' n Gzz := by
  obtain ⟨h0, sz, fi, h1, h2, h3, h4, h5⟩ := hzz
  exact ⟨h0.trans e8.symm, sz, fi, h1, h2, h3, h4, fun izz hizz => (h5 izz hizz).mv rfl (fun _ _ => rfl) (by rw [e7zz]) (fun _ _ => by rw [e6zz]) (fun _ _ => rfl)⟩
set_option maxHeartbeats 200000 in
theorem rem16 : ∀ s, s < 32 → (Int32.ofNat s) - (Int32.ofNat s) / (16 : Int32) * (16 : Int32) = Int32.ofNat (s % 16) := by decide +kernel
set_option maxHeartbeats 200000 in
theorem rem16_of {xzz : Int32} {s : Nat} (hzz : xzz.toInt = (s : Int)) (hs : s < 32) : (xzz - xzz / (16 : Int32) * (16 : Int32)).toInt = ((s % 16 : Nat) : Int) := by
  rw [i32_of hzz (by omega), rem16 s hs]
  exact Int32.toInt_ofNat_of_lt (by omega)
def wrv (mv : Ob) (t : Nat) : Int32 := if t < 7 then gA mv 0 t else if t < 14 then gA mv 1 (t - 7) else if t = 14 then gI mv 2 else if t = 15 then gI mv 3 else gI mv 4
set_option maxHeartbeats 200000 in
theorem wr_desc {mv pa pa' : Ob} {pzz : Int32} {bzz : Nat} (eb : pzz.toInt = (bzz : Int)) (hbzz : bzz ≤ 255) (hzz : f_X4_writeTo_AX5_1 mv pa pzz = some pa') : pa'.1 = pa.1 ∧ gA pa' 0 = gA pa 0 ∧ ∀ jzz, gA pa' 1 jzz = if bzz ≤ jzz ∧ jzz < bzz + 17 then wrv mv (jzz - bzz) else gA pa 1 jzz := by
  have n0zz : (0 : Int32).toNatClampNeg = 0 := by decide
  have n7 : (7 : Int32).toNatClampNeg = 7 := by decide
  have ib : pzz.toNatClampNeg = bzz := tnc_eq eb
  have t7 : (pzz + (7 : Int32)).toInt = (bzz : Int) + 7 := i32_add eb (by decide) (by omega) (by omega)
  have i7zz : (pzz + (7 : Int32)).toNatClampNeg = bzz + 7 := tnc_eq (by rw [t7]; omega)
  have t17 : (pzz + (17 : Int32)).toInt = (bzz : Int) + 17 := i32_add eb (by decide) (by omega) (by omega)
  have i14 : ((pzz + (17 : Int32)) - (3 : Int32)).toNatClampNeg = bzz + 14 := tnc_eq (by rw [i32_sub t17 (by decide : (3 : Int32).toInt = 3) (by omega) (by omega)]; omega)
  have i15 : ((pzz + (17 : Int32)) - (2 : Int32)).toNatClampNeg = bzz + 15 := tnc_eq (by rw [i32_sub t17 (by decide : (2 : Int32).toInt = 2) (by omega) (by omega)]; omega)
  have i16 : ((pzz + (17 : Int32)) - (1 : Int32)).toNatClampNeg = bzz + 16 := tnc_eq (by rw [i32_sub t17 (by decide : (1 : Int32).toInt = 1) (by omega) (by omega)]; omega)
  unfold f_X4_writeTo_AX5_1 at hzz
  have hzz := z_f hzz (fun czz => by have czz := cv_lt (a := (bzz : Int)) (b := 0) eb (by decide) czz; omega)
  have hzz := z_t hzz (Int32.le_iff_toInt_le.mpr (by rw [eb]; have : (255 : Int32).toInt = 255 := (by decide); omega))
  rw [i14, i15, i16] at hzz
  have hzz := (z_gd hzz).2
  obtain ⟨o2, e2zz, hzz⟩ := z_lt hzz
  have hzz := (z_gd hzz).2
  obtain ⟨o4zz, e4zz, hzz⟩ := z_lt hzz
  have hzz := (z_gd hzz).2
  obtain ⟨o6, e6zz, hzz⟩ := z_lt hzz
  have hzz := (z_gd hzz).2
  obtain ⟨o8zz, e8, hzz⟩ := z_lt hzz
  have hzz := (z_gd hzz).2
  obtain ⟨o10, e10zz, hzz⟩ := z_lt hzz
  have hzz := Option.some.inj hzz
  unfold cA at e2zz e4zz
  rw [n0zz, n7, ib] at e2zz
  rw [n0zz, n7, i7zz] at e4zz
  subst e2zz e4zz e6zz e8 e10zz hzz
  refine ⟨rfl, rfl, fun jzz => ?_⟩
  have t : gA (tA (tA (tA (sA (sA pa 1 (va_cpy (gA mv 0) (gA pa 1) 0 bzz 7)) 1 (va_cpy (gA mv 1) (gA (sA pa 1 (va_cpy (gA mv 0) (gA pa 1) 0 bzz 7)) 1) 0 (bzz + 7) 7)) 1 (bzz + 14) (gI mv 2)) 1 (bzz + 15) (gI mv 3)) 1 (bzz + 16) (gI mv 4)) 1 jzz = if jzz = bzz + 16 then gI mv 4 else if jzz = bzz + 15 then gI mv 3 else if jzz = bzz + 14 then gI mv 2 else if bzz + 7 ≤ jzz ∧ jzz < bzz + 7 + 7 then gA mv 1 (0 + (jzz - (bzz + 7))) else if bzz ≤ jzz ∧ jzz < bzz + 7 then gA mv 0 (0 + (jzz - bzz)) else gA pa 1 jzz := rfl
  refine t.trans ?_
  unfold wrv
  by_cases czz : bzz ≤ jzz ∧ jzz < bzz + 17
  · rw [if_pos czz]
    by_cases c1zz : jzz = bzz + 16
    · rw [if_pos c1zz, if_neg (by omega), if_neg (by omega), if_neg (by omega), if_neg (by omega)]
    · rw [if_neg c1zz]
      by_cases c2zz : jzz = bzz + 15
      · rw [if_pos c2zz, if_neg (by omega), if_neg (by omega), if_neg (by omega), if_pos (by omega)]
      · rw [if_neg c2zz]
        by_cases c3zz : jzz = bzz + 14
        · rw [if_pos c3zz, if_neg (by omega), if_neg (by omega), if_pos (by omega)]
        · rw [if_neg c3zz]
          by_cases c4zz : bzz + 7 ≤ jzz
          · have ej : 0 + (jzz - (bzz + 7)) = jzz - bzz - 7 := by omega
            rw [if_pos ⟨c4zz, by omega⟩, if_neg (by omega), if_pos (by omega), ej]
          · have ej : 0 + (jzz - bzz) = jzz - bzz := by omega
            rw [if_neg (by omega), if_pos ⟨czz.1, by omega⟩, if_pos (by omega), ej]
  · rw [if_neg czz, if_neg (by omega), if_neg (by omega), if_neg (by omega), if_neg (by omega), if_neg (by omega)]
set_option maxHeartbeats 200000 in
theorem keep_desc {pa mv pa' : Ob} {kzz : Int32} {sz fi : Nat} (e3zz : (gI pa 3).toInt = (sz : Int)) (h16zz : sz ≤ 16) (e2zz : (gI pa 2).toInt = (fi : Int)) (hf : fi < 16) (hzz : f_X5_keep_O pa mv kzz = some pa') :
    ∃ sz' fi' : Nat, ((sz = 16 ∧ sz' = 15 ∧ fi' = (fi + 1) % 16) ∨ (sz < 16 ∧ sz' = sz ∧ fi' = fi)) ∧ (gI pa' 3).toInt = (sz' : Int) + 1 ∧ (gI pa' 2).toInt = (fi' : Int) ∧ (∀ jzz, gA pa' 0 jzz = if jzz = (fi' + sz') % 16 then kzz else gA pa 0 jzz) ∧ (∀ jzz, gA pa' 1 jzz = if 17 * ((fi' + sz') % 16) ≤ jzz ∧ jzz < 17 * ((fi' + sz') % 16) + 17 then wrv mv (jzz - 17 * ((fi' + sz') % 16)) else gA pa 1 jzz) := by
  have mainzz : ∀ (qzz : Ob) (sz' fi' : Nat), (gI qzz 3).toInt = (sz' : Int) → sz' ≤ 15 → (gI qzz 2).toInt = (fi' : Int) → fi' < 16 → bk_X5_keep_O_32 mv kzz qzz = some pa' → (gI pa' 3).toInt = (sz' : Int) + 1 ∧ (gI pa' 2).toInt = (fi' : Int) ∧ (∀ jzz, gA pa' 0 jzz = if jzz = (fi' + sz') % 16 then kzz else gA qzz 0 jzz) ∧ (∀ jzz, gA pa' 1 jzz = if 17 * ((fi' + sz') % 16) ≤ jzz ∧ jzz < 17 * ((fi' + sz') % 16) + 17 then wrv mv (jzz - 17 * ((fi' + sz') % 16)) else gA qzz 1 jzz) := by
    intro qzz sz' fi' q3zz hs q2zz hf' hbzz
    unfold bk_X5_keep_O_32 at hbzz
    obtain ⟨x1zz, g1, hbzz⟩ := z_lt hbzz
    have hbzz := (z_gd hbzz).2
    obtain ⟨o3zz, g3zz, hbzz⟩ := z_lt hbzz
    obtain ⟨z4, g4, hbzz⟩ := z_bd hbzz
    obtain ⟨o5zz, g5zz, hbzz⟩ := z_lt hbzz
    have hbzz := Option.some.inj hbzz
    have tx : x1zz.toInt = (((fi' + sz') % 16 : Nat) : Int) := by
      rw [g1]
      exact rem16_of (s := fi' + sz') (by rw [i32_add q2zz q3zz (by omega) (by omega)]; omega) (by omega)
    have ix : x1zz.toNatClampNeg = (fi' + sz') % 16 := tnc_eq tx
    have tbzz : (x1zz * (17 : Int32)).toInt = ((17 * ((fi' + sz') % 16) : Nat) : Int) := by
      rw [i32_mul tx (by decide : (17 : Int32).toInt = 17) (by omega) (by omega)]; omega
    obtain ⟨w1zz, w2zz, w3zz⟩ := wr_desc tbzz (by omega) g4
    rw [ix] at g3zz
    have k3zz : gI z4 3 = gI qzz 3 := by
      show z4.1 3 = _
      rw [w1zz, g3zz]; rfl
    have k2zz : gI z4 2 = gI qzz 2 := by
      show z4.1 2 = _
      rw [w1zz, g3zz]; rfl
    rw [← hbzz, g5zz]
    refine ⟨?_, ?_, fun jzz => ?_, fun jzz => ?_⟩
    · show (gI z4 3 + (1 : Int32)).toInt = _
      rw [k3zz]; exact i32_add q3zz (by decide) (by omega) (by omega)
    · show (gI z4 2).toInt = _
      rw [k2zz]; exact q2zz
    · show gA z4 0 jzz = _
      rw [w2zz, g3zz]; rfl
    · show gA z4 1 jzz = _
      rw [w3zz, g3zz]; rfl
  unfold f_X5_keep_O at hzz
  rcases z_if hzz with ⟨czz, hzz⟩ | ⟨czz, hzz⟩
  · have czz := cv_eq (a := (sz : Int)) (b := 16) e3zz (by decide) czz
    obtain ⟨o6, g6, hzz⟩ := z_lt hzz
    obtain ⟨o7, g7, hzz⟩ := z_lt hzz
    have t2zz : (gI o7 2).toInt = (((fi + 1) % 16 : Nat) : Int) := by
      rw [g7, g6]
      exact rem16_of (s := fi + 1) (by rw [i32_add e2zz (by decide : (1 : Int32).toInt = 1) (by omega) (by omega)]; omega) (by omega)
    have t3zz : (gI o7 3).toInt = ((15 : Nat) : Int) := by
      rw [g7, g6]
      show (gI pa 3 - (1 : Int32)).toInt = _
      rw [i32_sub e3zz (by decide : (1 : Int32).toInt = 1) (by omega) (by omega)]; omega
    obtain ⟨r1zz, r2, r3, r4⟩ := mainzz o7 15 ((fi + 1) % 16) t3zz (Nat.le_refl _) t2zz (by omega) hzz
    refine ⟨15, (fi + 1) % 16, Or.inl ⟨by omega, rfl, rfl⟩, r1zz, r2, fun jzz => ?_, fun jzz => ?_⟩
    · rw [r3, g7, g6]; rfl
    · rw [r4, g7, g6]; rfl
  · have czz := cv_ne (a := (sz : Int)) (b := 16) e3zz (by decide) czz
    obtain ⟨r1zz, r2, r3, r4⟩ := mainzz pa sz fi e3zz (by omega) e2zz hf hzz
    exact ⟨sz, fi, Or.inr ⟨by omega, rfl, rfl⟩, r1zz, r2, r3, r4⟩
set_option maxHeartbeats 200000 in
theorem keepAll_lp {o' : Ob} {pzz : Int32} {mzz : Nat} (em : pzz.toInt = (mzz : Int)) (hmzz : mzz < 18) : ∀ (Nzz : Nat) (vzz : Int32) (o : Ob) (izz : Nat), vzz.toInt = (izz : Int) → izz ≤ 25 → lp_X9_keepAll_2 Nzz (pzz, vzz, o) = some o' → ∀ jzz, gA o' 6 jzz = if 25 * mzz + izz ≤ jzz ∧ jzz < 25 * mzz + 25 then gA o 3 (4 + (jzz - 25 * mzz)) else gA o 6 jzz := by
  intro Nzz
  induction Nzz with
  | zero => intro vzz o izz _ _ hzz; cases hzz
  | succ Nzz ihzz =>
    intro vzz o izz evzz hizz hzz jzz
    have hzz : lb_X9_keepAll_2 (lp_X9_keepAll_2 Nzz) pzz vzz o = some o' := hzz
    unfold lb_X9_keepAll_2 at hzz
    rcases z_if hzz with ⟨czz, hzz⟩ | ⟨czz, hzz⟩
    · have czz := cv_le (a := 25) (b := (izz : Int)) (by decide) evzz czz
      rw [← Option.some.inj hzz, if_neg (by omega)]
    · have czz := cv_nle (a := 25) (b := (izz : Int)) (by decide) evzz czz
      have i1zz : ((4 : Int32) + vzz).toNatClampNeg = 4 + izz := tnc_eq (by rw [i32_add (by decide : (4 : Int32).toInt = 4) evzz (by omega) (by omega)]; omega)
      have i2zz : (((25 : Int32) * pzz) + vzz).toNatClampNeg = 25 * mzz + izz := tnc_eq (by rw [i32_add (i32_mul (by decide : (25 : Int32).toInt = 25) em (by omega) (by omega)) evzz (by omega) (by omega)]; omega)
      rw [i1zz, i2zz] at hzz
      have hzz := (z_gd (z_gd hzz).2).2
      obtain ⟨o3zz, e3zz, hzz⟩ := z_lt hzz
      obtain ⟨x4zz, e4zz, hzz⟩ := z_lt hzz
      have wzz := ihzz x4zz o3zz (izz + 1) (by rw [e4zz]; exact Eq.trans (i32_add evzz (by decide : (1 : Int32).toInt = 1) (by omega) (by omega)) (by omega)) (by omega) hzz jzz
      have a6 : gA o3zz 6 jzz = if jzz = 25 * mzz + izz then gA o 3 (4 + izz) else gA o 6 jzz := by rw [e3zz]; rfl
      have a3 : gA o3zz 3 = gA o 3 := by rw [e3zz]; rfl
      rw [wzz, a3, a6]
      by_cases d : jzz = 25 * mzz + izz
      · have ej : 4 + (jzz - 25 * mzz) = 4 + izz := by omega
        rw [if_neg (by omega), if_pos d, if_pos (by omega), ej]
      · by_cases d2zz : 25 * mzz + izz ≤ jzz ∧ jzz < 25 * mzz + 25
        · rw [if_pos (by omega), if_pos d2zz]
        · rw [if_neg (by omega), if_neg d, if_neg d2zz]
set_option maxHeartbeats 200000 in
theorem putBack_lp {o' : Ob} {pzz : Int32} {mzz : Nat} (em : pzz.toInt = (mzz : Int)) (hmzz : mzz < 18) : ∀ (Nzz : Nat) (vzz : Int32) (o : Ob) (izz : Nat), vzz.toInt = (izz : Int) → izz ≤ 25 → lp_X9_putBack_2 Nzz (pzz, vzz, o) = some o' → ∀ jzz, gA o' 3 jzz = if 4 + izz ≤ jzz ∧ jzz < 29 then gA o 6 (25 * mzz + (jzz - 4)) else gA o 3 jzz := by
  intro Nzz
  induction Nzz with
  | zero => intro vzz o izz _ _ hzz; cases hzz
  | succ Nzz ihzz =>
    intro vzz o izz evzz hizz hzz jzz
    have hzz : lb_X9_putBack_2 (lp_X9_putBack_2 Nzz) pzz vzz o = some o' := hzz
    unfold lb_X9_putBack_2 at hzz
    rcases z_if hzz with ⟨czz, hzz⟩ | ⟨czz, hzz⟩
    · have czz := cv_le (a := 25) (b := (izz : Int)) (by decide) evzz czz
      rw [← Option.some.inj hzz, if_neg (by omega)]
    · have czz := cv_nle (a := 25) (b := (izz : Int)) (by decide) evzz czz
      have i1zz : ((4 : Int32) + vzz).toNatClampNeg = 4 + izz := tnc_eq (by rw [i32_add (by decide : (4 : Int32).toInt = 4) evzz (by omega) (by omega)]; omega)
      have i2zz : (((25 : Int32) * pzz) + vzz).toNatClampNeg = 25 * mzz + izz := tnc_eq (by rw [i32_add (i32_mul (by decide : (25 : Int32).toInt = 25) em (by omega) (by omega)) evzz (by omega) (by omega)]; omega)
      rw [i1zz, i2zz] at hzz
      have hzz := (z_gd (z_gd hzz).2).2
      obtain ⟨o3zz, e3zz, hzz⟩ := z_lt hzz
      obtain ⟨x4zz, e4zz, hzz⟩ := z_lt hzz
      have wzz := ihzz x4zz o3zz (izz + 1) (by rw [e4zz]; exact Eq.trans (i32_add evzz (by decide : (1 : Int32).toInt = 1) (by omega) (by omega)) (by omega)) (by omega) hzz jzz
      have a3 : gA o3zz 3 jzz = if jzz = 4 + izz then gA o 6 (25 * mzz + izz) else gA o 3 jzz := by rw [e3zz]; rfl
      have a6 : gA o3zz 6 = gA o 6 := by rw [e3zz]; rfl
      rw [wzz, a6, a3]
      by_cases d : jzz = 4 + izz
      · have ej : 25 * mzz + (jzz - 4) = 25 * mzz + izz := by omega
        rw [if_neg (by omega), if_pos d, if_pos (by omega), ej]
      · by_cases d2zz : 4 + izz ≤ jzz ∧ jzz < 29
        · rw [if_pos (by omega), if_pos d2zz]
        · rw [if_neg (by omega), if_neg d, if_neg d2zz]
set_option maxHeartbeats 200000 in
theorem rem_lp11 {o' : Ob} {kzz : Int32} : ∀ (Nzz : Nat) (vzz : Int32) (o : Ob) (izz : Nat), vzz.toInt = (izz : Int) → izz ≤ 375 → lp_X9_remember_11 Nzz (kzz, vzz, o) = some o' → ∃ o1, lp_X9_remember_41 zfu (kzz, 0, o1) = some o' ∧ (∀ jzz, gA o1 6 jzz = if izz ≤ jzz ∧ jzz < 375 then gA o 6 (jzz + 25) else gA o 6 jzz) ∧ gA o1 7 = gA o 7 ∧ gA o1 3 = gA o 3 ∧ gI o1 8 = gI o 8 := by
  intro Nzz
  induction Nzz with
  | zero => intro vzz o izz _ _ hzz; cases hzz
  | succ Nzz ihzz =>
    intro vzz o izz evzz hizz hzz
    have hzz : lb_X9_remember_11 (lp_X9_remember_11 Nzz) kzz vzz o = some o' := hzz
    unfold lb_X9_remember_11 at hzz
    rcases z_if hzz with ⟨czz, hzz⟩ | ⟨czz, hzz⟩
    · have czz := cv_le (a := 375) (b := (izz : Int)) (by decide) evzz czz
      exact ⟨o, hzz, fun jzz => by rw [if_neg (by omega)], rfl, rfl, rfl⟩
    · have czz := cv_nle (a := 375) (b := (izz : Int)) (by decide) evzz czz
      have i1zz : (vzz + (25 : Int32)).toNatClampNeg = izz + 25 := tnc_eq (by rw [i32_add evzz (by decide : (25 : Int32).toInt = 25) (by omega) (by omega)]; omega)
      have ivzz : vzz.toNatClampNeg = izz := tnc_eq evzz
      rw [i1zz, ivzz] at hzz
      have hzz := (z_gd (z_gd hzz).2).2
      obtain ⟨o3zz, e3zz, hzz⟩ := z_lt hzz
      obtain ⟨x4zz, e4zz, hzz⟩ := z_lt hzz
      obtain ⟨o1, r0, r1zz, r2, r3, r4⟩ := ihzz x4zz o3zz (izz + 1) (by rw [e4zz]; exact Eq.trans (i32_add evzz (by decide : (1 : Int32).toInt = 1) (by omega) (by omega)) (by omega)) (by omega) hzz
      have a6 : ∀ jzz, gA o3zz 6 jzz = if jzz = izz then gA o 6 (izz + 25) else gA o 6 jzz := fun jzz => by rw [e3zz]; rfl
      refine ⟨o1, r0, fun jzz => ?_, r2.trans (by rw [e3zz]; rfl), r3.trans (by rw [e3zz]; rfl), r4.trans (by rw [e3zz]; rfl)⟩
      rw [r1zz, a6, a6]
      by_cases d : jzz = izz
      · rw [if_neg (by omega), if_pos d, if_pos (by omega), d]
      · by_cases d2zz : izz ≤ jzz ∧ jzz < 375
        · rw [if_pos (by omega), if_neg (by omega), if_pos d2zz]
        · rw [if_neg (by omega), if_neg d, if_neg d2zz]
set_option maxHeartbeats 200000 in
theorem rem_lp41 {o' : Ob} {kzz : Int32} : ∀ (Nzz : Nat) (vzz : Int32) (o : Ob) (izz : Nat), vzz.toInt = (izz : Int) → izz ≤ 15 → lp_X9_remember_41 Nzz (kzz, vzz, o) = some o' → ∃ o1, bk_X9_remember_77 kzz o1 = some o' ∧ (∀ jzz, gA o1 7 jzz = if izz ≤ jzz ∧ jzz < 15 then gA o 7 (jzz + 1) else gA o 7 jzz) ∧ gA o1 6 = gA o 6 ∧ gA o1 3 = gA o 3 ∧ gI o1 8 = gI o 8 - 1 := by
  intro Nzz
  induction Nzz with
  | zero => intro vzz o izz _ _ hzz; cases hzz
  | succ Nzz ihzz =>
    intro vzz o izz evzz hizz hzz
    have hzz : lb_X9_remember_41 (lp_X9_remember_41 Nzz) kzz vzz o = some o' := hzz
    unfold lb_X9_remember_41 at hzz
    rcases z_if hzz with ⟨czz, hzz⟩ | ⟨czz, hzz⟩
    · have czz := cv_le (a := 15) (b := (izz : Int)) (by decide) evzz czz
      obtain ⟨o5zz, e5zz, hzz⟩ := z_lt hzz
      exact ⟨o5zz, hzz, fun jzz => by rw [if_neg (by omega), e5zz]; rfl, by rw [e5zz]; rfl, by rw [e5zz]; rfl, by rw [e5zz]; rfl⟩
    · have czz := cv_nle (a := 15) (b := (izz : Int)) (by decide) evzz czz
      have i1zz : (vzz + (1 : Int32)).toNatClampNeg = izz + 1 := tnc_eq (by rw [i32_add evzz (by decide : (1 : Int32).toInt = 1) (by omega) (by omega)]; omega)
      have ivzz : vzz.toNatClampNeg = izz := tnc_eq evzz
      rw [i1zz, ivzz] at hzz
      have hzz := (z_gd (z_gd hzz).2).2
      obtain ⟨o3zz, e3zz, hzz⟩ := z_lt hzz
      obtain ⟨x4zz, e4zz, hzz⟩ := z_lt hzz
      obtain ⟨o1, r0, r1zz, r2, r3, r4⟩ := ihzz x4zz o3zz (izz + 1) (by rw [e4zz]; exact Eq.trans (i32_add evzz (by decide : (1 : Int32).toInt = 1) (by omega) (by omega)) (by omega)) (by omega) hzz
      have a7 : ∀ jzz, gA o3zz 7 jzz = if jzz = izz then gA o 7 (izz + 1) else gA o 7 jzz := fun jzz => by rw [e3zz]; rfl
      refine ⟨o1, r0, fun jzz => ?_, r2.trans (by rw [e3zz]; rfl), r3.trans (by rw [e3zz]; rfl), r4.trans (by rw [e3zz]; rfl)⟩
      rw [r1zz, a7, a7]
      by_cases d : jzz = izz
      · rw [if_neg (by omega), if_pos d, if_pos (by omega), d]
      · by_cases d2zz : izz ≤ jzz ∧ jzz < 15
        · rw [if_pos (by omega), if_neg (by omega), if_pos d2zz]
        · rw [if_neg (by omega), if_neg d, if_neg d2zz]
set_option maxHeartbeats 200000 in
theorem rem77 {o o' : Ob} {kzz : Int32} {mzz : Nat} (em : (gI o 8).toInt = (mzz : Int)) (hmzz : mzz < 16) (hzz : bk_X9_remember_77 kzz o = some o') : (∀ jzz, gA o' 6 jzz = if 25 * mzz ≤ jzz ∧ jzz < 25 * mzz + 25 then gA o 3 (4 + (jzz - 25 * mzz)) else gA o 6 jzz) ∧ (∀ jzz, gA o' 7 jzz = if jzz = mzz then kzz else gA o 7 jzz) ∧ (gI o' 8).toInt = (mzz : Int) + 1 := by
  unfold bk_X9_remember_77 at hzz
  obtain ⟨z1, e1zz, hzz⟩ := z_bd hzz
  have f1zz := fr_f_X9_keepAll e1zz
  unfold f_X9_keepAll at e1zz
  have d1zz := keepAll_lp em (by omega) zfu 0 o 0 (by decide) (Nat.zero_le _) e1zz
  have hzz := (z_gd hzz).2
  obtain ⟨o3zz, e3zz, hzz⟩ := z_lt hzz
  obtain ⟨o4zz, e4zz, hzz⟩ := z_lt hzz
  have hzz := Option.some.inj hzz
  have k8zz : gI z1 8 = gI o 8 := f1zz.I 8 rfl
  have im : (gI z1 8).toNatClampNeg = mzz := tnc_eq (by rw [k8zz]; exact em)
  rw [im] at e3zz
  rw [← hzz]
  refine ⟨fun jzz => ?_, fun jzz => ?_, ?_⟩
  · have wzz := d1zz jzz
    rw [Nat.add_zero] at wzz
    rw [e4zz, e3zz]
    exact wzz
  · rw [e4zz, e3zz]
    show (if jzz = mzz then kzz else gA z1 7 jzz) = _
    rw [f1zz.A 7 rfl]
  · rw [e4zz, e3zz]
    show (gI z1 8 + (1 : Int32)).toInt = _
    rw [k8zz]; exact i32_add em (by decide) (by omega) (by omega)
set_option maxHeartbeats 200000 in
theorem rem_desc {o o' : Ob} {kzz : Int32} {sz : Nat} (e8 : (gI o 8).toInt = (sz : Int)) (h16zz : sz ≤ 16) (hzz : f_X9_remember o kzz = some o') :
    ∃ sz' d : Nat, ((sz = 16 ∧ sz' = 15 ∧ d = 1) ∨ (sz < 16 ∧ sz' = sz ∧ d = 0)) ∧ (gI o' 8).toInt = (sz' : Int) + 1 ∧ (∀ izz, izz < sz' → gA o' 7 izz = gA o 7 (izz + d) ∧ ∀ t, t < 25 → gA o' 6 (25 * izz + t) = gA o 6 (25 * (izz + d) + t)) ∧ gA o' 7 sz' = kzz ∧ (∀ t, t < 25 → gA o' 6 (25 * sz' + t) = gA o 3 (4 + t)) ∧ ∀ jzz, 400 ≤ jzz → gA o' 6 jzz = gA o 6 jzz := by
  unfold f_X9_remember at hzz
  rcases z_if hzz with ⟨czz, hzz⟩ | ⟨czz, hzz⟩
  · have czz := cv_eq (a := (sz : Int)) (b := 16) e8 (by decide) czz
    obtain ⟨o1, hzz, a1zz, a2, a3, a4⟩ := rem_lp11 zfu 0 o 0 (by decide) (Nat.zero_le _) hzz
    obtain ⟨o2, hzz, b1, b2, b3, b4⟩ := rem_lp41 zfu 0 o1 0 (by decide) (Nat.zero_le _) hzz
    have t8 : (gI o2 8).toInt = ((15 : Nat) : Int) := by
      rw [b4, a4, i32_sub e8 (by decide : (1 : Int32).toInt = 1) (by omega) (by omega)]; omega
    obtain ⟨r1zz, r2, r3⟩ := rem77 t8 (by decide) hzz
    refine ⟨15, 1, Or.inl ⟨by omega, rfl, rfl⟩, r3, fun izz hizz => ⟨?_, fun t ht => ?_⟩, by rw [r2, if_pos rfl], fun t ht => ?_, fun jzz hj => ?_⟩
    · rw [r2, if_neg (by omega), b1, if_pos (by omega), a2]
    · have ei : 25 * izz + t + 25 = 25 * (izz + 1) + t := by omega
      rw [r1zz, if_neg (by omega), b2, a1zz, if_pos (by omega), ei]
    · have et : 25 * 15 + t - 25 * 15 = t := by omega
      rw [r1zz, if_pos (by omega), b3, a3, et]
    · rw [r1zz, if_neg (by omega), b2, a1zz, if_neg (by omega)]
  · have czz := cv_ne (a := (sz : Int)) (b := 16) e8 (by decide) czz
    obtain ⟨r1zz, r2, r3⟩ := rem77 e8 (by omega) hzz
    refine ⟨sz, 0, Or.inr ⟨by omega, rfl, rfl⟩, r3, fun izz hizz => ⟨?_, fun t ht => ?_⟩, by rw [r2, if_pos rfl], fun t ht => ?_, fun jzz hj => ?_⟩
    · rw [r2, if_neg (by omega)]; rfl
    · rw [r1zz, if_neg (by omega)]; rfl
    · have et : 25 * sz + t - 25 * sz = t := by omega
      rw [r1zz, if_pos (by omega), et]
    · rw [r1zz, if_neg (by omega)]
set_option maxHeartbeats 200000 in
theorem keep_eq {pa mv pa' o o' : Ob} {kzz : Int32} {n : Nat} (hP : PaT pa o n (gA o 3)) (hMzz : TzM mv (gA o 3)) (hk : 0 ≤ kzz.toInt ∧ kzz.toInt ≤ 3) (h1 : f_X5_keep_O pa mv kzz = some pa') (h2 : f_X9_remember o kzz = some o') : PaT pa' o' n (gA o 3) := by
  obtain ⟨h0, sz, fi, e3zz, h16zz, e2zz, hf, hE⟩ := hP
  obtain ⟨sz1, fi1, q1zz, k3zz, k2zz, ka0, ka1⟩ := keep_desc e3zz h16zz e2zz hf h1
  obtain ⟨sz2, d, q2zz, m8zz, mold, m7zz, m6zz, -⟩ := rem_desc (by rw [← h0]; exact e3zz) h16zz h2
  have es : sz2 = sz1 := by omega
  subst es
  have hs15 : sz2 ≤ 15 := by omega
  have hfi : fi1 < 16 := by omega
  refine ⟨Int32.toInt_inj.mp (by rw [k3zz, m8zz]), sz2 + 1, fi1, by rw [k3zz]; omega, by omega, k2zz, hfi, fun izz hizz => ?_⟩
  by_cases czz : izz < sz2
  · have es : (fi1 + izz) % 16 = (fi + (izz + d)) % 16 := by omega
    have ns : (fi1 + izz) % 16 ≠ (fi1 + sz2) % 16 := by omega
    obtain ⟨u7, u6⟩ := mold izz czz
    have wzz := hE (izz + d) (by omega)
    rw [← es] at wzz
    refine wzz.mv (by rw [ka0, if_neg ns]) (fun t ht => ?_) u7 u6 (fun _ _ => rfl)
    rw [ka1, if_neg (by omega)]
  · have ei : izz = sz2 := by omega
    subst ei
    have n1zz : (fi1 + izz) % 16 < 16 := by omega
    refine ⟨by rw [ka0, if_pos rfl, m7zz], by rw [m7zz]; exact hk, hMzz.ext (fun jzz hj => ?_) (fun jzz hj => ?_) ?_ ?_ ?_ (fun jzz g1 g2 => ?_), fun jzz hj => ?_⟩
    · show gA pa' 1 (17 * ((fi1 + izz) % 16) + jzz) = _
      have et : 17 * ((fi1 + izz) % 16) + jzz - 17 * ((fi1 + izz) % 16) = jzz := by omega
      rw [ka1, if_pos (by omega), et]
      unfold wrv
      rw [if_pos hj]
    · show gA pa' 1 (17 * ((fi1 + izz) % 16) + 7 + jzz) = _
      have et : 17 * ((fi1 + izz) % 16) + 7 + jzz - 17 * ((fi1 + izz) % 16) = 7 + jzz := by omega
      have e7zz : 7 + jzz - 7 = jzz := by omega
      rw [ka1, if_pos (by omega), et]
      unfold wrv
      rw [if_neg (by omega), if_pos (by omega), e7zz]
    · show gA pa' 1 (17 * ((fi1 + izz) % 16) + 14) = _
      have et : 17 * ((fi1 + izz) % 16) + 14 - 17 * ((fi1 + izz) % 16) = 14 := by omega
      rw [ka1, if_pos (by omega), et]; rfl
    · show gA pa' 1 (17 * ((fi1 + izz) % 16) + 15) = _
      have et : 17 * ((fi1 + izz) % 16) + 15 - 17 * ((fi1 + izz) % 16) = 15 := by omega
      rw [ka1, if_pos (by omega), et]; rfl
    · show gA pa' 1 (17 * ((fi1 + izz) % 16) + 16) = _
      have et : 17 * ((fi1 + izz) % 16) + 16 - 17 * ((fi1 + izz) % 16) = 16 := by omega
      rw [ka1, if_pos (by omega), et]; rfl
    · have ej : 4 + (jzz - 4) = jzz := by omega
      exact (m6zz (jzz - 4) (by omega)).trans (by rw [ej])
    · have ej : 4 + (jzz - 4) = jzz := by omega
      exact (m6zz (jzz - 4) (by omega)).trans (by rw [ej])
set_option maxHeartbeats 200000 in
theorem rem_hi {pa o o' : Ob} {kzz : Int32} {n : Nat} {Gzz : Nat → Int32} (hP : PaT pa o n Gzz) (h2 : f_X9_remember o kzz = some o') : ∀ jzz, 400 ≤ jzz → gA o' 6 jzz = gA o 6 jzz := by
  obtain ⟨h0, sz, fi, e3zz, h16zz, -⟩ := hP
  obtain ⟨_, _, _, _, _, _, _, wzz⟩ := rem_desc (by rw [← h0]; exact e3zz) h16zz h2
  exact wzz
set_option maxHeartbeats 200000 in
theorem rd_desc {mv pa mv' : Ob} {pzz : Int32} {bzz : Nat} (eb : pzz.toInt = (bzz : Int)) (hbzz : bzz ≤ 255) (hzz : f_X4_readFrom_AX5_1 mv pa pzz = some mv') : (∀ jzz, jzz < 7 → gA mv' 0 jzz = gA pa 1 (bzz + jzz)) ∧ (∀ jzz, jzz < 7 → gA mv' 1 jzz = gA pa 1 (bzz + 7 + jzz)) ∧ gI mv' 2 = gA pa 1 (bzz + 14) ∧ gI mv' 3 = gA pa 1 (bzz + 15) ∧ gI mv' 4 = gA pa 1 (bzz + 16) := by
  have n0zz : (0 : Int32).toNatClampNeg = 0 := by decide
  have n7 : (7 : Int32).toNatClampNeg = 7 := by decide
  have ib : pzz.toNatClampNeg = bzz := tnc_eq eb
  have t7 : (pzz + (7 : Int32)).toInt = (bzz : Int) + 7 := i32_add eb (by decide) (by omega) (by omega)
  have i7zz : (pzz + (7 : Int32)).toNatClampNeg = bzz + 7 := tnc_eq (by rw [t7]; omega)
  have t17 : (pzz + (17 : Int32)).toInt = (bzz : Int) + 17 := i32_add eb (by decide) (by omega) (by omega)
  have i14 : ((pzz + (17 : Int32)) - (3 : Int32)).toNatClampNeg = bzz + 14 := tnc_eq (by rw [i32_sub t17 (by decide : (3 : Int32).toInt = 3) (by omega) (by omega)]; omega)
  have i15 : ((pzz + (17 : Int32)) - (2 : Int32)).toNatClampNeg = bzz + 15 := tnc_eq (by rw [i32_sub t17 (by decide : (2 : Int32).toInt = 2) (by omega) (by omega)]; omega)
  have i16 : ((pzz + (17 : Int32)) - (1 : Int32)).toNatClampNeg = bzz + 16 := tnc_eq (by rw [i32_sub t17 (by decide : (1 : Int32).toInt = 1) (by omega) (by omega)]; omega)
  unfold f_X4_readFrom_AX5_1 at hzz
  have hzz := z_f hzz (fun czz => by have czz := cv_lt (a := (bzz : Int)) (b := 0) eb (by decide) czz; omega)
  have hzz := z_t hzz (Int32.le_iff_toInt_le.mpr (by rw [eb]; have : (255 : Int32).toInt = 255 := (by decide); omega))
  rw [i14, i15, i16] at hzz
  have hzz := (z_gd hzz).2
  obtain ⟨o2, e2zz, hzz⟩ := z_lt hzz
  have hzz := (z_gd hzz).2
  obtain ⟨o4zz, e4zz, hzz⟩ := z_lt hzz
  have hzz := (z_gd hzz).2
  obtain ⟨o6, e6zz, hzz⟩ := z_lt hzz
  have hzz := (z_gd hzz).2
  obtain ⟨o8zz, e8, hzz⟩ := z_lt hzz
  have hzz := (z_gd hzz).2
  obtain ⟨o10, e10zz, hzz⟩ := z_lt hzz
  have hzz := Option.some.inj hzz
  unfold cA at e2zz e4zz
  rw [n0zz, n7, ib] at e2zz
  rw [n0zz, n7, i7zz] at e4zz
  subst e2zz e4zz e6zz e8 e10zz hzz
  refine ⟨fun jzz hj => ?_, fun jzz hj => ?_, rfl, rfl, rfl⟩
  · show (if 0 ≤ jzz ∧ jzz < 0 + 7 then gA pa 1 (bzz + (jzz - 0)) else gA mv 0 jzz) = _
    rw [if_pos (by omega)]; rfl
  · show (if 0 ≤ jzz ∧ jzz < 0 + 7 then gA pa 1 (bzz + 7 + (jzz - 0)) else _) = _
    rw [if_pos (by omega)]; rfl
def TzS (pl : List CR) (isl mv pa o : Ob) (n : Nat) : Prop := WiL isl (gA o 3) ∧ TzM mv (gA o 3) ∧ PaT pa o n (gA o 3) ∧ (∀ zzz, f_X2_lawInForce isl = some zzz → LwP pl zzz (gA o 3) (gA o 3 3)) ∧ gI o 20 = 0 ∧ (gA o 3 0).toInt = (n : Int) ∧ ∀ jzz, ((15 + n ≤ jzz ∧ jzz < 22) ∨ (22 + n ≤ jzz ∧ jzz < 29)) → gA o 3 jzz = 0
set_option maxHeartbeats 200000 in
theorem TzS.mv {pl : List CR} {isl mv pa o mv' pa' o' : Ob} {n : Nat} (hzz : TzS pl isl mv pa o n) (wzz : RwC n (gA o 3) (gA o' 3)) (hMzz : TzM mv' (gA o' 3)) (hP : PaT pa' o' n (gA o' 3)) (e20 : gI o' 20 = gI o 20) : TzS pl isl mv' pa' o' n := ⟨hzz.1.rw' wzz, hMzz, hP, fun zzz ez => (hzz.2.2.2.1 zzz ez).rw' wzz, e20.trans hzz.2.2.2.2.1, by rw [wzz 0 (by omega)]; exact hzz.2.2.2.2.2.1, fun jzz hj => (wzz jzz (by omega)).trans (hzz.2.2.2.2.2.2 jzz hj)⟩
set_option maxHeartbeats 200000 in
theorem TzS.sc {pl : List CR} {isl mv pa o o' : Ob} {n : Nat} (hzz : TzS pl isl mv pa o n) (e3zz : gA o' 3 = gA o 3) (e8 : gI o' 8 = gI o 8) (e6zz : gA o' 6 = gA o 6) (e7zz : gA o' 7 = gA o 7) (e20 : gI o' 20 = gI o 20) : TzS pl isl mv pa o' n := hzz.mv (by rw [e3zz]; exact RwC.rf) (by rw [e3zz]; exact hzz.2.1) (by rw [e3zz]; exact hzz.2.2.1.eq e8 e6zz e7zz) e20
def MvE (pl : List CR) (isl mv o : Ob) (n : Nat) (vzz v' : Int32) (mv' pa' o' : Ob) : Prop := vzz = v' ∧ TzS pl isl mv' pa' o' n ∧ RwC n (gA o 3) (gA o' 3) ∧ ((v' = -1 ∨ v' = -2 ∨ v' = -3) ∨ 0 ≤ v'.toInt) ∧ ∀ jzz, 400 ≤ jzz → gA o' 6 jzz = gA o 6 jzz
set_option maxHeartbeats 200000 in
theorem enter_move {pl : List CR} {isl mv pa czz mezz o : Ob} {n : Nat} {xzz : Int32} {yzz : Int32 × Ob × Ob × Ob × Ob} {y' : Int32 × Ob} (hSzz : TzS pl isl mv pa o n) (h1 : f_X1_moved_O czz isl mv mezz pl pa 1 xzz = some yzz) (h2 : f_X9_enterNow o xzz = some y') : MvE pl isl mv o n yzz.1 y'.1 yzz.2.2.1 yzz.2.2.2.2 y'.2 := by
  obtain ⟨hI, hMzz, hP, hL, h20, en, hZ⟩ := id hSzz
  have hn7 : n ≤ 7 := by have := hI.1.2.2; omega
  unfold f_X1_moved_O at h1
  have h1 := z_f (z_f h1 (by decide)) (by decide)
  obtain ⟨z1, e1zz, h1⟩ := z_bd h1
  unfold f_X9_enterNow at h2
  obtain ⟨w1zz, k1zz, h2⟩ := z_bd h2
  have p2zz := isP2 e1zz
  have p9zz := isP9 k1zz hI.1.2
  rw [hI.1.1] at p2zz
  rcases p9zz with ⟨q9zz, r9⟩ | ⟨q9zz, r9⟩
  · have q2zz : z1 = 0 := by
      rcases p2zz with ⟨qzz, -⟩ | ⟨-, qzz⟩
      · exact qzz
      · exact absurd qzz r9
    have h1 := z_t h1 q2zz
    unfold bk_X1_moved_O_116 bk_X1_moved_O_118 at h1
    have h1 := Option.some.inj (z_f h1 (by decide))
    have h2 := Option.some.inj (z_t h2 q9zz)
    rw [← h1, ← h2]
    exact ⟨rfl, hSzz, RwC.rf, Or.inl (Or.inr (Or.inl rfl)), fun _ _ => rfl⟩
  · have q2zz : ¬ z1 = 0 := by
      rcases p2zz with ⟨-, qzz⟩ | ⟨qzz, -⟩
      · exact absurd r9 qzz
      · exact qzz
    have h1 := z_f (z_f h1 q2zz) (by decide)
    unfold bk_X1_moved_O_115 bk_X1_moved_O_116 bk_X1_moved_O_118 at h1
    have h1 := z_t h1 rfl
    obtain ⟨pa2, e2zz, h1⟩ := z_bd h1
    unfold bk_X1_moved_O_142 at h1
    have h1 := z_t (z_f h1 (by decide)) rfl
    obtain ⟨z5, e5zz, h1⟩ := z_bd h1
    have h1 := Option.some.inj h1
    have h2 := z_f h2 q9zz
    obtain ⟨w2zz, k2zz, h2⟩ := z_bd h2
    have f2zz := fr_f_X9_remember k2zz
    have eG : gA w2zz 3 = gA o 3 := f2zz.A 3 rfl
    have h2 := (z_gd (z_gd h2).2).2
    obtain ⟨Pzz, eP⟩ : ∃ Pzz : Nat, xzz.toInt = (Pzz : Int) := ⟨xzz.toInt.toNat, by omega⟩
    have i22 : ((22 : Int32) + xzz).toNatClampNeg = 22 + Pzz := tnc_eq (by rw [i32_add (by decide : (22 : Int32).toInt = 22) eP (by omega) (by omega)]; omega)
    rw [i22] at h2
    obtain ⟨o5zz, k5zz, h2⟩ := z_lt h2
    have h2 := Option.some.inj (z_gd h2).2
    have e5G : gA o5zz 3 = upd (gA o 3) (22 + Pzz) ((1 : Int32) - gA o 3 (22 + Pzz)) := by rw [k5zz, ← eG]; rfl
    obtain ⟨r1zz, r2, r3, r4⟩ := entr_eq hMzz eP (by omega) hn7 e5zz e5G
    have hP2 := keep_eq hP hMzz (by decide) e2zz k2zz
    rw [← h1, ← h2]
    refine ⟨r1zz, hSzz.mv r4 r3 ?_ ?_, r4, Or.inr r2, fun jzz hj => ?_⟩
    · exact (hP2.rw' r4).eq (by rw [k5zz]; rfl) (by rw [k5zz]; rfl) (by rw [k5zz]; rfl)
    · rw [k5zz]; exact f2zz.I 20 rfl
    · rw [k5zz]; exact rem_hi hP k2zz jzz hj
set_option maxHeartbeats 200000 in
theorem take_move {pl : List CR} {isl mv pa czz mezz o : Ob} {n : Nat} {xzz : Int32} {yzz : Int32 × Ob × Ob × Ob × Ob} {y' : Int32 × Ob} (hSzz : TzS pl isl mv pa o n) (h1 : f_X1_moved_O czz isl mv mezz pl pa 2 xzz = some yzz) (h2 : f_X9_takeNow o xzz = some y') : MvE pl isl mv o n yzz.1 y'.1 yzz.2.2.1 yzz.2.2.2.2 y'.2 := by
  obtain ⟨hI, hMzz, hP, hL, h20, en, hZ⟩ := id hSzz
  have hn7 : n ≤ 7 := by have := hI.1.2.2; omega
  have n7 : (7 : Int32).toNatClampNeg = 7 := by decide
  unfold f_X1_moved_O at h1
  have h1 := z_f (z_f h1 (by decide)) (by decide)
  obtain ⟨z1, e1zz, h1⟩ := z_bd h1
  unfold f_X9_takeNow at h2
  rw [n7] at h2
  obtain ⟨w1zz, k1zz, h2⟩ := z_bd h2
  have p2zz := isP2 e1zz
  have p9zz := isP9 k1zz hI.1.2
  rw [hI.1.1] at p2zz
  rcases p9zz with ⟨q9zz, r9⟩ | ⟨q9zz, r9⟩
  · have q2zz : z1 = 0 := by
      rcases p2zz with ⟨qzz, -⟩ | ⟨-, qzz⟩
      · exact qzz
      · exact absurd qzz r9
    have h1 := z_t h1 q2zz
    unfold bk_X1_moved_O_116 bk_X1_moved_O_118 at h1
    have h1 := Option.some.inj (z_f h1 (by decide))
    have h2 := Option.some.inj (z_t h2 q9zz)
    rw [← h1, ← h2]
    exact ⟨rfl, hSzz, RwC.rf, Or.inl (Or.inr (Or.inl rfl)), fun _ _ => rfl⟩
  · have q2zz : ¬ z1 = 0 := by
      rcases p2zz with ⟨-, qzz⟩ | ⟨qzz, -⟩
      · exact absurd r9 qzz
      · exact qzz
    have h1 := z_t (z_f h1 q2zz) rfl
    have h2 := z_f h2 q9zz
    obtain ⟨x2zz, q7zz, h2⟩ := z_lt h2
    have e7zz : gI mv 3 = x2zz := by rw [q7zz]; exact hMzz.2.2.1.1
    rw [e7zz] at h1
    by_cases czz : x2zz = 0
    · have h1 := z_t h1 czz
      unfold bk_X1_moved_O_116 bk_X1_moved_O_118 at h1
      have h1 := Option.some.inj (z_f h1 (by decide))
      have h2 := Option.some.inj (z_t h2 czz)
      rw [← h1, ← h2]
      exact ⟨rfl, hSzz, RwC.rf, Or.inl (Or.inr (Or.inr rfl)), fun _ _ => rfl⟩
    · have h1 := z_f h1 czz
      unfold bk_X1_moved_O_115 bk_X1_moved_O_116 bk_X1_moved_O_118 at h1
      have h1 := z_t h1 rfl
      obtain ⟨pa2, e2zz, h1⟩ := z_bd h1
      unfold bk_X1_moved_O_142 at h1
      have h1 := z_t (z_f (z_f h1 (by decide)) (by decide)) rfl
      obtain ⟨z6, e6zz, h1⟩ := z_bd h1
      have h1 := Option.some.inj h1
      have h2 := z_f h2 czz
      obtain ⟨w3zz, k3zz, h2⟩ := z_bd h2
      have f3zz := fr_f_X9_remember k3zz
      have eG : gA w3zz 3 = gA o 3 := f3zz.A 3 rfl
      obtain ⟨w4zz, k4zz, h2⟩ := z_bd h2
      have f4zz := fr_f_X9_takeIt k4zz
      have h2 := Option.some.inj h2
      obtain ⟨Pzz, eP⟩ : ∃ Pzz : Nat, xzz.toInt = (Pzz : Int) := ⟨xzz.toInt.toNat, by omega⟩
      obtain ⟨r1zz, r2, r3, r4⟩ := take_eq (o := w3zz) (n := n) (by rw [eG]; exact hMzz) eP (by omega) hn7 e6zz k4zz
      rw [eG] at r1zz r2 r4
      have hP2 := keep_eq hP hMzz (by decide) e2zz k3zz
      rw [← h1, ← h2]
      refine ⟨r1zz.trans q7zz.symm, hSzz.mv r4 r3 ?_ ?_, r4, Or.inr (by show 0 ≤ x2zz.toInt; rw [q7zz]; exact r2), fun jzz hj => ?_⟩
      · exact (hP2.rw' r4).eq (f4zz.I 8 rfl) (f4zz.A 6 rfl) (f4zz.A 7 rfl)
      · exact (f4zz.I 20 rfl).trans (f3zz.I 20 rfl)
      · rw [f4zz.A 6 rfl]; exact rem_hi hP k3zz jzz hj
set_option maxHeartbeats 200000 in
theorem pass_move {pl : List CR} {isl mv pa czz mezz o : Ob} {n : Nat} {xzz : Int32} {yzz : Int32 × Ob × Ob × Ob × Ob} {y' : Int32 × Ob} (hSzz : TzS pl isl mv pa o n) (h1 : f_X1_moved_O czz isl mv mezz pl pa 3 xzz = some yzz) (h2 : f_X9_passNow o = some y') : MvE pl isl mv o n yzz.1 y'.1 yzz.2.2.1 yzz.2.2.2.2 y'.2 := by
  obtain ⟨hI, hMzz, hP, hL, h20, en, hZ⟩ := id hSzz
  have n4zz : (4 : Int32).toNatClampNeg = 4 := by decide
  have hy := hMzz.2.2.2.1
  unfold f_X1_moved_O at h1
  have h1 := z_t (z_f h1 (by decide)) rfl
  unfold f_X9_passNow at h2
  rw [n4zz] at h2
  rw [hy.1] at h1
  have z9 : (999 : Int32).toInt = 999 := by decide
  by_cases czz : gA o 3 4 = 999
  · have h1 := z_f h1 (fun qzz => by have qzz := cv_lt (a := (gA o 3 4).toInt) (b := 999) rfl z9 qzz; rw [czz, z9] at qzz; omega)
    unfold bk_X1_moved_O_71 bk_X1_moved_O_118 at h1
    have h1 := Option.some.inj (z_f h1 (by decide))
    have h2 := Option.some.inj (z_t h2 czz)
    rw [← h1, ← h2]
    exact ⟨rfl, hSzz, RwC.rf, Or.inl (Or.inr (Or.inr rfl)), fun _ _ => rfl⟩
  · have c' := cv_ne (a := (gA o 3 4).toInt) (b := 999) rfl z9 czz
    have h1 := z_t h1 (Int32.lt_iff_toInt_lt.mpr (by rw [z9]; omega))
    unfold bk_X1_moved_O_71 bk_X1_moved_O_118 at h1
    have h1 := z_t h1 rfl
    obtain ⟨pa2, e2zz, h1⟩ := z_bd h1
    unfold bk_X1_moved_O_142 at h1
    have h1 := z_f (z_f (z_f h1 (by decide)) (by decide)) (by decide)
    obtain ⟨z7, e7zz, h1⟩ := z_bd h1
    have h1 := Option.some.inj h1
    have h2 := z_f h2 czz
    obtain ⟨w1zz, k1zz, h2⟩ := z_bd h2
    have f1zz := fr_f_X9_remember k1zz
    have eG : gA w1zz 3 = gA o 3 := f1zz.A 3 rfl
    obtain ⟨w2zz, k2zz, h2⟩ := z_bd h2
    have f2zz := fr_f_X9_passIt k2zz
    have h2 := Option.some.inj h2
    obtain ⟨r1zz, r2, r3, r4⟩ := pass_eq (o := w1zz) (n := n) (by rw [eG]; exact hL) (by rw [eG]; exact hI) (by rw [eG]; exact hMzz) ((f1zz.I 20 rfl).trans h20) (by rw [eG]; exact en) (by rw [eG]; omega) e7zz k2zz
    rw [eG] at r4
    have hP2 := keep_eq hP hMzz (by decide) e2zz k1zz
    rw [← h1, ← h2]
    refine ⟨r1zz, hSzz.mv r4 r3 ?_ ?_, r4, Or.inr r2, fun jzz hj => ?_⟩
    · exact (hP2.rw' r4).eq (f2zz.I 8 rfl) (f2zz.A 6 rfl) (f2zz.A 7 rfl)
    · exact (f2zz.I 20 rfl).trans (f1zz.I 20 rfl)
    · rw [f2zz.A 6 rfl]; exact rem_hi hP k1zz jzz hj
set_option maxHeartbeats 200000 in
theorem race_move {pl : List CR} {isl mv pa czz mezz o : Ob} {n : Nat} {xzz : Int32} {yzz : Int32 × Ob × Ob × Ob × Ob} {y' : Int32 × Ob} (hSzz : TzS pl isl mv pa o n) (h1 : f_X1_moved_O czz isl mv mezz pl pa 0 xzz = some yzz) (h2 : f_X9_raceNow o xzz = some y') : MvE pl isl mv o n yzz.1 y'.1 yzz.2.2.1 yzz.2.2.2.2 y'.2 := by
  obtain ⟨hI, hMzz, hP, hL, h20, en, hZ⟩ := id hSzz
  unfold f_X1_moved_O at h1
  have h1 := z_t h1 rfl
  obtain ⟨z8, e8, h1⟩ := z_bd h1
  unfold f_X9_raceNow at h2
  obtain ⟨w1zz, k1zz, h2⟩ := z_bd h2
  rcases isR9 k1zz with ⟨q9zz, r9⟩ | ⟨q9zz, r9⟩
  · have q8zz : z8 = 0 := by
      rcases isR8 e8 with ⟨qzz, -⟩ | ⟨-, qzz⟩
      · exact qzz
      · exact absurd qzz r9
    have h1 := z_t h1 q8zz
    unfold bk_X1_moved_O_39 bk_X1_moved_O_118 at h1
    have h1 := Option.some.inj (z_f h1 (by decide))
    have h2 := Option.some.inj (z_t h2 q9zz)
    rw [← h1, ← h2]
    exact ⟨rfl, hSzz, RwC.rf, Or.inl (Or.inl rfl), fun _ _ => rfl⟩
  · have q8zz : ¬ z8 = 0 := by
      rcases isR8 e8 with ⟨-, qzz⟩ | ⟨qzz, -⟩
      · exact absurd r9 qzz
      · exact qzz
    have h1 := z_f h1 q8zz
    have h2 := z_f h2 q9zz
    obtain ⟨z9, e9zz, h1⟩ := z_bd h1
    obtain ⟨z10, e10zz, h1⟩ := z_bd h1
    obtain ⟨w2zz, k2zz, h2⟩ := z_bd h2
    have f2zz := fr_f_X9_layPlaces k2zz
    have eG : gA w2zz 3 = gA o 3 := f2zz.A 3 rfl
    obtain ⟨R, eR⟩ : ∃ R : Nat, xzz.toInt = (R : Int) := ⟨xzz.toInt.toNat, by omega⟩
    obtain ⟨kzz, hkn, hTzz, hz⟩ := line_eq (hL z9 e9zz) (WtL.of hI hMzz) hMzz.2.2.2.2.1 h20 en eR (by omega) e10zz k2zz
    rw [hz, hTzz.1] at h1
    have hS2 : TzS pl isl mv pa w2zz n := hSzz.sc eG (f2zz.I 8 rfl) (f2zz.A 6 rfl) (f2zz.A 7 rfl) (f2zz.I 20 rfl)
    have r0 : RwC n (gA o 3) (gA w2zz 3) := by rw [eG]; exact RwC.rf
    by_cases c0zz : gI w2zz 43 = 0
    · have h1 := z_t h1 c0zz
      unfold bk_X1_moved_O_39 bk_X1_moved_O_118 at h1
      have h1 := Option.some.inj (z_f h1 (by decide))
      have h2 := Option.some.inj (z_t h2 c0zz)
      rw [← h1, ← h2]
      exact ⟨rfl, hS2, r0, Or.inl (Or.inr (Or.inr rfl)), fun jzz _ => by rw [f2zz.A 6 rfl]⟩
    · have h1 := z_f h1 c0zz
      have h2 := z_f h2 c0zz
      unfold bk_X1_moved_O_39 bk_X1_moved_O_118 at h1
      have h1 := z_t h1 rfl
      obtain ⟨pa2, e2zz, h1⟩ := z_bd h1
      unfold bk_X1_moved_O_142 at h1
      have h1 := z_t h1 rfl
      obtain ⟨z4, e4zz, h1⟩ := z_bd h1
      have h1 := Option.some.inj h1
      obtain ⟨w3zz, k3zz, h2⟩ := z_bd h2
      have f3zz := fr_f_X9_remember k3zz
      obtain ⟨w4zz, k4zz, h2⟩ := z_bd h2
      have f4zz := fr_f_X9_raceIt k4zz
      have h2 := Option.some.inj h2
      have eG3 : gA w3zz 3 = gA o 3 := (f3zz.A 3 rfl).trans eG
      have hk : 1 ≤ kzz := by
        have wzz := hTzz.2.1
        rw [hTzz.1] at wzz
        have c1zz := cv_ne (a := (kzz : Int)) (b := 0) wzz (by decide) c0zz
        omega
      have hT3 : Lne z10.2.1 w3zz n kzz := hTzz.lne.eq (f3zz.I 43 rfl) (f3zz.A 42 rfl)
      obtain ⟨r1zz, r2, r3, r4⟩ := race_eq (o := w3zz) (n := n) (kzz := kzz) (by rw [eG3]; exact hL) (by rw [eG3]; exact WtL.of hI hMzz) (by rw [eG3]; exact hMzz) (((f3zz.I 20 rfl).trans (f2zz.I 20 rfl)).trans h20) (by rw [eG3]; exact en) eR (by omega) hT3 hk hkn e4zz k4zz
      rw [eG3] at r4
      have hP2 := keep_eq (o := w2zz) (n := n) hS2.2.2.1 (by rw [eG]; exact hMzz) (by decide) e2zz k3zz
      rw [eG] at hP2
      rw [← h1, ← h2]
      refine ⟨r1zz, hSzz.mv r4 r3 ?_ ?_, r4, Or.inr r2, fun jzz hj => ?_⟩
      · exact (hP2.rw' r4).eq (f4zz.I 8 rfl) (f4zz.A 6 rfl) (f4zz.A 7 rfl)
      · exact (f4zz.I 20 rfl).trans ((f3zz.I 20 rfl).trans (f2zz.I 20 rfl))
      · rw [f4zz.A 6 rfl, rem_hi hS2.2.2.1 k3zz jzz hj, f2zz.A 6 rfl]
set_option maxHeartbeats 200000 in
theorem act_move {pl : List CR} {isl mv pa czz mezz o : Ob} {n : Nat} {Kzz xzz : Int32} {yzz : Int32 × Ob × Ob × Ob × Ob} {y' : Int32 × Ob} (hSzz : TzS pl isl mv pa o n) (hKzz : Kzz = 0 ∨ Kzz = 1 ∨ Kzz = 2 ∨ Kzz = 3) (h1 : f_X1_moved_O czz isl mv mezz pl pa Kzz xzz = some yzz) (h2 : f_X9_act o Kzz xzz = some y') : MvE pl isl mv o n yzz.1 y'.1 yzz.2.2.1 yzz.2.2.2.2 y'.2 := by
  unfold f_X9_act at h2
  rcases hKzz with qzz | qzz | qzz | qzz <;> subst qzz
  · have h2 := z_t h2 rfl
    obtain ⟨wzz, kzz, h2⟩ := z_bd h2
    have h2 := Option.some.inj h2
    rw [← h2]
    exact race_move hSzz h1 kzz
  · have h2 := z_t (z_f h2 (by decide)) rfl
    obtain ⟨wzz, kzz, h2⟩ := z_bd h2
    have h2 := Option.some.inj h2
    rw [← h2]
    exact enter_move hSzz h1 kzz
  · have h2 := z_t (z_f (z_f h2 (by decide)) (by decide)) rfl
    obtain ⟨wzz, kzz, h2⟩ := z_bd h2
    have h2 := Option.some.inj h2
    rw [← h2]
    exact take_move hSzz h1 kzz
  · have h2 := z_f (z_f (z_f h2 (by decide)) (by decide)) (by decide)
    obtain ⟨wzz, kzz, h2⟩ := z_bd h2
    have h2 := Option.some.inj h2
    rw [← h2]
    exact pass_move hSzz h1 kzz
set_option maxHeartbeats 200000 in
theorem bring_eq {pl : List CR} {isl mv pa o o2 o3zz : Ob} {n : Nat} {zzz : Int32 × Ob × Ob} (hSzz : TzS pl isl mv pa o n) (h0 : ¬ gI pa 3 = 0) (h1 : f_X5_bringBack_O pa mv = some zzz) (e2zz : o2 = sI o 8 (gI o 8 - 1)) (h2 : f_X9_putBack o2 (gI o2 8) = some o3zz) : zzz.1 = gA o3zz 7 (gI o3zz 8).toNatClampNeg ∧ 0 ≤ zzz.1.toInt ∧ TzS pl isl zzz.2.2 zzz.2.1 o3zz n ∧ RwC n (gA o 3) (gA o3zz 3) := by
  obtain ⟨hI, hMzz, ⟨h08, sz, fi, e3zz, h16zz, ef, hf, hE⟩, hL, h20, en, hZ⟩ := id hSzz
  have hsz : 1 ≤ sz := by
    have := cv_ne (a := (sz : Int)) (b := 0) e3zz (by decide) h0
    omega
  unfold f_X5_bringBack_O at h1
  have h1 := z_f h1 h0
  obtain ⟨p1zz, g1, h1⟩ := z_lt h1
  obtain ⟨x2zz, g2, h1⟩ := z_lt h1
  obtain ⟨z3, k3zz, h1⟩ := z_bd h1
  have h1 := Option.some.inj (z_gd h1).2
  have t3zz : (gI p1zz 3).toInt = ((sz - 1 : Nat) : Int) := by
    rw [g1]
    show (gI pa 3 - (1 : Int32)).toInt = _
    rw [i32_sub e3zz (by decide : (1 : Int32).toInt = 1) (by omega) (by omega)]; omega
  have t2zz : (gI p1zz 2).toInt = (fi : Int) := by rw [g1]; exact ef
  have tx : x2zz.toInt = (((fi + (sz - 1)) % 16 : Nat) : Int) := by
    rw [g2]
    exact rem16_of (s := fi + (sz - 1)) (by rw [i32_add t2zz t3zz (by omega) (by omega)]; omega) (by omega)
  have ix : x2zz.toNatClampNeg = (fi + (sz - 1)) % 16 := tnc_eq tx
  have tbzz : (x2zz * (17 : Int32)).toInt = ((17 * ((fi + (sz - 1)) % 16) : Nat) : Int) := by
    rw [i32_mul tx (by decide : (17 : Int32).toInt = 17) (by omega) (by omega)]; omega
  obtain ⟨d0zz, d1zz, d2zz, d3zz, d4zz⟩ := rd_desc tbzz (by omega) k3zz
  have eA1 : gA p1zz 1 = gA pa 1 := by rw [g1]; rfl
  have eA0 : gA p1zz 0 = gA pa 0 := by rw [g1]; rfl
  rw [eA1] at d0zz d1zz d2zz d3zz d4zz
  have wzz := hE (sz - 1) (by omega)
  have t8 : (gI o2 8).toInt = ((sz - 1 : Nat) : Int) := by
    rw [e2zz]
    show (gI o 8 - (1 : Int32)).toInt = _
    rw [← h08, i32_sub e3zz (by decide : (1 : Int32).toInt = 1) (by omega) (by omega)]; omega
  have fpzz := fr_f_X9_putBack h2
  unfold f_X9_putBack at h2
  have dp := putBack_lp t8 (by omega) zfu 0 o2 0 (by decide) (Nat.zero_le _) h2
  have e23zz : gA o2 3 = gA o 3 := by rw [e2zz]; rfl
  have e26zz : gA o2 6 = gA o 6 := by rw [e2zz]; rfl
  rw [e23zz, e26zz] at dp
  have rw1 : RwC n (gA o 3) (gA o3zz 3) := by
    intro jzz hj
    rw [dp]
    by_cases czz : 4 + 0 ≤ jzz ∧ jzz < 29
    · rw [if_pos czz]
      exact wzz.2.2.2 jzz (by omega)
    · rw [if_neg czz]
  have e37 : gA o3zz 7 = gA o 7 := (fpzz.A 7 rfl).trans (by rw [e2zz]; rfl)
  have e38 : gI o3zz 8 = gI o2 8 := fpzz.I 8 rfl
  have e36 : gA o3zz 6 = gA o 6 := (fpzz.A 6 rfl).trans e26zz
  have i8zz : (gI o3zz 8).toNatClampNeg = sz - 1 := tnc_eq (by rw [e38]; exact t8)
  have hv : gA p1zz 0 x2zz.toNatClampNeg = gA o3zz 7 (gI o3zz 8).toNatClampNeg := by rw [ix, i8zz, eA0, e37]; exact wzz.1
  rw [← h1]
  refine ⟨hv, ?_, hSzz.mv rw1 (wzz.2.2.1.ext d0zz d1zz d2zz d3zz d4zz (fun jzz j1 j2zz => ?_)) ?_ ?_, rw1⟩
  · show 0 ≤ (gA p1zz 0 x2zz.toNatClampNeg).toInt
    rw [hv, i8zz, e37]; exact wzz.2.1.1
  · rw [dp, if_pos ⟨by omega, j2zz⟩]; rfl
  · refine PaT.rw' (Gzz := gA o 3) ⟨Int32.toInt_inj.mp (by rw [t3zz, e38, t8]), sz - 1, fi, t3zz, by omega, t2zz, hf, fun izz hizz => ?_⟩ rw1
    exact (hE izz (by omega)).mv (by rw [eA0]) (fun t _ => by rw [eA1]) (by rw [e37]) (fun t _ => by rw [e36]) (fun _ _ => rfl)
  · rw [fpzz.I 20 rfl, e2zz]; rfl
