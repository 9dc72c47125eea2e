def XS (od : Bool) (rd oc o : Ob) (k1zz k2zz : Nat) : Prop := TT rd o ∧ gI o 19 = 0 ∧ gI rd 5 = gI o 26 ∧ (0 ≤ (gI o 26).toInt ∧ (gI o 26).toInt ≤ 50) ∧ (gI oc 8).toInt = (k1zz : Int) ∧ (gI o 23).toInt = (k2zz : Int) ∧ (k1zz : Int) ≤ (gI o 14).toInt ∧ k2zz ≤ 400 ∧ MD od rd o
def XOut (t : Bool) (od : Bool) (rd oc o : Ob) (zzz : Int32 × Ob × Ob) (yzz : Ob) (k1zz k2zz : Nat) : Prop := Bad rd oc o zzz yzz ∨ (zzz.1 = 1 ∧ ∃ (k1' k2' n : Nat), XS od zzz.2.1 zzz.2.2 yzz k1' k2' ∧ RF o yzz ∧ CF rd oc zzz.2.1 zzz.2.2 ∧ (∀ jzz, jzz < k1zz → gA zzz.2.2 5 jzz = gA oc 5 jzz ∧ gA zzz.2.2 6 jzz = gA oc 6 jzz) ∧ ckp k2zz o yzz ∧ n ≤ 50 ∧ Sx od (gA zzz.2.2 5) (gA zzz.2.2 6) (gA yzz 24) (gA yzz 25) t k1zz k1' k2zz k2' n)
set_option maxHeartbeats 200000 in
theorem x_fin {od t : Bool} {o rd' oc' o' yzz : Ob} {k1zz k2zz k1' k2' b' n : Nat} {L : Int} (hL : 1 ≤ L) (h1 : PSt od rd' oc' o' k1' k2' 0 b') (h3 : RF o o') (h10 : (gI o' 26).toInt = (gI o 26).toInt + (n : Int)) (h0n : 0 ≤ (gI o 26).toInt)
    (h11 : PEs L o' 0 (fun o3zz => ∃ k3zz : Nat, (gI o3zz 23).toInt = (k3zz : Int) ∧ k3zz ≤ 400 ∧ ckp k2zz o o3zz ∧ Sx od (gA oc' 5) (gA oc' 6) (gA o3zz 24) (gA o3zz 25) t k1zz k1' k2zz k3zz n)) (ezz : f_X9_settle o' 1 = some yzz) :
    ∃ k3zz : Nat, XS od rd' oc' yzz k1' k3zz ∧ RF o yzz ∧ ckp k2zz o yzz ∧ n ≤ 50 ∧ Sx od (gA oc' 5) (gA oc' 6) (gA yzz 24) (gA yzz 25) t k1zz k1' k2zz k3zz n := by
  obtain ⟨hTzz, h19, e5zz, hr, ek1, ek2, hp, eb, hb', hk2, hMzz⟩ := h1
  have hone : (1 : Int32).toInt = 1 := by decide
  obtain ⟨s1zz, s2zz, k3zz, s3zz, s4zz, s5, s6zz⟩ := h11.done FR9.rf (Nat.zero_le _) (by decide) (by rw [hone]; exact hL) (Or.inl rfl) ezz
  refine ⟨k3zz, ⟨hTzz.cg rfl rfl rfl rfl rfl rfl (s2zz.1 13 (by decide) (by decide)) (s2zz.2.2.1 12 (by decide) (by decide)) (s2zz.1 14 (by decide) (by decide)) (s2zz.1 15 (by decide) (by decide)) (s2zz.1 16 (by decide) (by decide)) (congrFun s2zz.2.1 17), (s2zz.1 19 (by decide) (by decide)).trans h19, ?_, ?_, ek1, s3zz, ?_, s4zz, hMzz.fr (CF.rf (oc := oc')) s2zz.rr⟩, h3.tr s2zz.rr, s5, by omega, s6zz⟩
  · rw [s2zz.1 26 (by decide) (by decide)]; exact e5zz
  · rw [s2zz.1 26 (by decide) (by decide)]; exact hr
  · rw [s2zz.1 14 (by decide) (by decide)]; omega
set_option maxHeartbeats 200000 in
theorem x_begin {od : Bool} {rd oc o o2 : Ob} {k1zz k2zz : Nat} (hzz : XS od rd oc o k1zz k2zz) (gzz : o2 = sI (sI o 29 0) 30 0) : PSt od rd oc o2 k1zz k2zz 0 0 ∧ RF o o2 ∧ ckp k2zz o o2 ∧ gI o2 30 = 0 ∧ gI o2 26 = gI o 26 := by
  obtain ⟨hTzz, h19, e5zz, hr, ek1, ek2, hp, hk2, hMzz⟩ := hzz
  have i2zz : ∀ izz, izz ≠ 29 → izz ≠ 30 → gI o2 izz = gI o izz := fun izz azz bzz => by rw [gzz]; exact (fset_ne bzz).trans (fset_ne azz)
  have A2 : ∀ izz, gA o2 izz = gA o izz := fun izz => by rw [gzz]; rfl
  have r2 : RF o o2 := ⟨fun izz _ _ _ _ _ _ _ azz bzz => i2zz izz azz bzz, fun izz _ _ _ _ => A2 izz, by rw [gzz]; rfl⟩
  have hT2 : TT rd o2 := hTzz.cg rfl rfl rfl rfl rfl rfl (i2zz 13 (by decide) (by decide)) (A2 12) (i2zz 14 (by decide) (by decide)) (i2zz 15 (by decide) (by decide)) (i2zz 16 (by decide) (by decide)) (by rw [gzz]; rfl)
  have k29 : gI o2 29 = 0 := by rw [gzz]; rfl
  have k30 : gI o2 30 = 0 := by rw [gzz]; rfl
  refine ⟨⟨hT2, (i2zz 19 (by decide) (by decide)).trans h19, e5zz.trans (i2zz 26 (by decide) (by decide)).symm, ?_, ek1, ?_, ?_, ?_, Nat.zero_le _, hk2, hMzz.fr (CF.rf (oc := oc)) r2⟩, r2, fun jzz hj => ⟨by rw [A2 24], by rw [A2 25]⟩, k30, i2zz 26 (by decide) (by decide)⟩
  · rw [i2zz 26 (by decide) (by decide)]; exact hr
  · rw [i2zz 23 (by decide) (by decide)]; exact ek2
  · rw [i2zz 14 (by decide) (by decide)]; omega
  · rw [k29]; decide
set_option maxHeartbeats 200000 in
theorem x_sum {od : Bool} {rd oc o yzz : Ob} {k1zz k2zz : Nat} {zzz : Int32 × Ob × Ob} (hzz : XS od rd oc o k1zz k2zz) (h1 : fx_X6_readSum 12 400 10 rd oc 0 = some zzz) (hy : f_X9_readExpression o 0 = some yzz) : XOut false od rd oc o zzz yzz k1zz k2zz := by
  unfold f_X9_readExpression at hy
  obtain ⟨o1, g1, hy⟩ := z_lt hy
  obtain ⟨o2, g2, hy⟩ := z_lt hy
  have hy := z_t hy rfl
  unfold bk_X9_readExpression_19 at hy
  obtain ⟨Pzz, r2, ck, k30, k26⟩ := x_begin hzz (g2.trans (by rw [g1]))
  rcases sums_all 10 od rd oc o2 yzz k1zz k2zz 0 0 zfu 0 0 zzz Pzz k30 (by decide) (by decide) (Or.inl rfl) h1 hy with gb | ⟨z1, Nzz, o', n, k1', hy, ⟨k2', b', q0, q1zz, q2zz, q3zz, q4zz, q5zz, q6zz, q7zz, q8zz, q9zz, q10zz, q11zz⟩, hno⟩
  · exact Or.inl (gb.tr r2 CF.rf)
  · obtain ⟨N', zr, hbs, hy⟩ := ex_sum q1zz.2.1 hy
    obtain ⟨op, hb71, hop⟩ := bs_norm q1zz.1 hbs
    have eop := hno.op hop
    rw [eop] at hb71
    unfold bk_X9_behindSum_71 at hb71
    obtain ⟨z6, ez6, hb71⟩ := z_bd (z_t hb71 rfl)
    have e6zz : z6 = -1 := inn_no q1zz.2.2.2.2.2.2.2.1 q1zz.2.2.2.2.2.2.2.2.1 (fun jzz hj => by have := q6zz jzz (Nat.zero_le _) hj; omega) zfu 0 0 (by decide) (Nat.zero_le _) ez6
    have hb71 := z_t (z_t (z_f hb71 (by rw [e6zz]; decide)) e6zz) rfl
    rw [← Option.some.inj hb71] at hy
    have es := ex_over q1zz.2.1 hy
    obtain ⟨k3zz, x1zz, x2zz, x3, x4zz, x5zz⟩ := x_fin (by decide) q1zz q3zz q10zz (by rw [k26]; exact hzz.2.2.2.1.1) q11zz es
    exact Or.inr ⟨z1, k1', k3zz, n, x1zz, r2.tr x2zz, q4zz, q8zz, ck.tr x3, x4zz, x5zz⟩
set_option maxHeartbeats 200000 in
theorem x_test {od : Bool} {rd oc o yzz : Ob} {k1zz k2zz : Nat} {zzz : Int32 × Ob × Ob} (hzz : XS od rd oc o k1zz k2zz) (h1 : fx_X6_readTest 12 400 10 rd oc 0 = some zzz) (hy : f_X9_readExpression o 1 = some yzz) : XOut true od rd oc o zzz yzz k1zz k2zz := by
  unfold f_X9_readExpression at hy
  obtain ⟨o1, g1, hy⟩ := z_lt hy
  obtain ⟨o2, g2, hy⟩ := z_lt hy
  have hy := z_f hy (by decide)
  unfold bk_X9_readExpression_19 at hy
  obtain ⟨Pzz, r2, ck, k30, k26⟩ := x_begin hzz (g2.trans (by rw [g1]))
  rcases tests_all 10 od rd oc o2 yzz k1zz k2zz 0 0 zfu 1 0 zzz Pzz k30 (by decide) (by decide) (by decide) (Or.inl rfl) h1 hy with gb | ⟨z1, Nzz, o', n, k1', hy, ⟨k2', b', q0, q1zz, q2zz, q3zz, q4zz, q5zz, q6zz, q7zz, q8zz, q9zz, q10zz, q11zz⟩, hno⟩
  · exact Or.inl (gb.tr r2 CF.rf)
  · obtain ⟨N', zr, hbt, hy⟩ := ex_test q1zz.2.1 hy
    unfold f_X9_behindTest at hbt
    obtain ⟨zw1, ew1, hbt⟩ := z_bd hbt
    have ua : zw1 = 0 := by
      rcases w9 (R := [4, 14, 1]) q1zz.1 (all_dig (by decide)) (by decide) (by decide) ew1 with ⟨uzz, -⟩ | ⟨-, uzz⟩
      · exact uzz
      · exact absurd uzz hno.1
    obtain ⟨zw2, ew2, hbt⟩ := z_bd (z_t hbt ua)
    have uc : zw2 = 0 := by
      rcases w9 (R := [18, 15]) q1zz.1 (all_dig (by decide)) (by decide) (by decide) ew2 with ⟨uzz, -⟩ | ⟨-, uzz⟩
      · exact uzz
      · exact absurd uzz hno.2
    obtain ⟨z7, ez7, hbt⟩ := z_bd (z_t hbt uc)
    have e7zz : z7 = -1 := inn_no q1zz.2.2.2.2.2.2.2.1 q1zz.2.2.2.2.2.2.2.2.1 (fun jzz hj => by have := q6zz jzz (Nat.zero_le _) hj; omega) zfu 0 0 (by decide) (Nat.zero_le _) ez7
    have hbt := z_t hbt e7zz
    rw [← Option.some.inj hbt] at hy
    have es := ex_over q1zz.2.1 hy
    obtain ⟨k3zz, x1zz, x2zz, x3, x4zz, x5zz⟩ := x_fin (by decide) q1zz q3zz q10zz (by rw [k26]; exact hzz.2.2.2.1.1) q11zz es
    exact Or.inr ⟨z1, k1', k3zz, n, x1zz, r2.tr x2zz, q4zz, q8zz, ck.tr x3, x4zz, x5zz⟩
def RW (Fzz azz : Nat) (o o' : Ob) : Prop := (∀ izz, izz ≠ 21 → gI o' izz = gI o izz) ∧ (∀ izz, gL o' izz = gL o izz) ∧ (∀ izz, izz ≠ Fzz → gA o' izz = gA o izz) ∧ o'.2.2.2 = o.2.2.2 ∧ (∀ jzz, (jzz < azz ∨ azz + 8 ≤ jzz) → gA o' Fzz jzz = gA o Fzz jzz)
set_option maxHeartbeats 200000 in
theorem RW.rf {Fzz azz : Nat} {o : Ob} : RW Fzz azz o o := ⟨fun _ _ => rfl, fun _ => rfl, fun _ _ => rfl, rfl, fun _ _ => rfl⟩
set_option maxHeartbeats 200000 in
theorem RW.tr {Fzz azz : Nat} {o o' o'' : Ob} (hzz : RW Fzz azz o o') (h' : RW Fzz azz o' o'') : RW Fzz azz o o'' := ⟨fun izz czz => (h'.1 izz czz).trans (hzz.1 izz czz), fun izz => (h'.2.1 izz).trans (hzz.2.1 izz), fun izz czz => (h'.2.2.1 izz czz).trans (hzz.2.2.1 izz czz), h'.2.2.2.1.trans hzz.2.2.2.1, fun jzz czz => (h'.2.2.2.2 jzz czz).trans (hzz.2.2.2.2 jzz czz)⟩
set_option maxHeartbeats 200000 in
theorem RW.tA {Fzz azz jzz : Nat} {o : Ob} {vzz : Int32} (hzz : azz ≤ jzz ∧ jzz < azz + 8) : RW Fzz azz o (tA o Fzz jzz vzz) := ⟨fun _ _ => rfl, fun _ => rfl, fun izz czz => fset_ne (f := fun izz => gA o izz) czz, rfl, fun izz czz => by rw [upd_at, if_neg (by omega)]⟩
set_option maxHeartbeats 200000 in
theorem RW.s21 {Fzz azz : Nat} {o : Ob} {vzz : Int32} : RW Fzz azz o (sI o 21 vzz) := ⟨fun _ czz => fset_ne czz, fun _ => rfl, fun _ _ => rfl, rfl, fun _ _ => rfl⟩
set_option maxHeartbeats 200000 in
theorem XS.rw' {od : Bool} {rd oc o oc' o' : Ob} {k1zz k2zz Fzz azz : Nat} (hzz : XS od rd oc o k1zz k2zz) (wzz : RW Fzz azz o o') (hF : Fzz ≠ 12) (e8 : gI oc' 8 = gI oc 8) : XS od rd oc' o' k1zz k2zz := by
  obtain ⟨hTzz, h19, e5zz, hr, ek1, ek2, hp, hk2, hMzz⟩ := hzz
  have em : ∀ izz, gM o' izz = gM o izz := fun izz => congrFun (congrArg Prod.fst wzz.2.2.2.1) izz
  refine ⟨hTzz.cg rfl rfl rfl rfl rfl rfl (wzz.1 13 (by decide)) (wzz.2.2.1 12 (fun qzz => hF qzz.symm)) (wzz.1 14 (by decide)) (wzz.1 15 (by decide)) (wzz.1 16 (by decide)) (wzz.2.1 17), (wzz.1 19 (by decide)).trans h19, e5zz.trans (wzz.1 26 (by decide)).symm, by rw [wzz.1 26 (by decide)]; exact hr, by rw [e8]; exact ek1, by rw [wzz.1 23 (by decide)]; exact ek2, by rw [wzz.1 14 (by decide)]; exact hp, hk2, ?_⟩
  exact ⟨fun qzz => by rw [wzz.1 20 (by decide)]; exact hMzz.1 qzz, fun qzz => by rw [wzz.1 20 (by decide)]; exact hMzz.2.1 qzz, fun kzz hk => by rw [em 31]; exact hMzz.2.2.1 kzz hk, fun kzz hk => by rw [em 32]; exact hMzz.2.2.2 kzz hk⟩
set_option maxHeartbeats 200000 in
theorem XS.step {od : Bool} {rd oc o rd' o' : Ob} {k1zz k2zz : Nat} (hzz : XS od rd oc o k1zz k2zz) (e1zz : f_X6_step rd = some rd') (e2zz : f_X9_next o = some o') : XS od rd' oc o' k1zz k2zz ∧ FR6 rd rd' ∧ FR9 o o' := by
  obtain ⟨hTzz, h19, e5zz, hr, ek1, ek2, hp, hk2, hMzz⟩ := hzz
  obtain ⟨azz, bzz, ea, eb, hab, hbzz, -⟩ := hTzz.2.2.2.2
  obtain ⟨T1, T2, T3, T4⟩ := tk_eq hTzz.1 hTzz.2.2.2.1 (by omega) (by omega) e1zz e2zz
  refine ⟨⟨T1, (T3.1 19 (by decide) (by decide) (by decide)).trans h19, ?_, ?_, ek1, ?_, by omega, hk2, hMzz.fr (T2.cc (oc := oc)) T3.rr⟩, T2, T3⟩
  · rw [T2.1 5 (by decide) (by decide) (by decide) (by decide), T3.1 26 (by decide) (by decide) (by decide)]; exact e5zz
  · rw [T3.1 26 (by decide) (by decide) (by decide)]; exact hr
  · rw [T3.1 23 (by decide) (by decide) (by decide)]; exact ek2
set_option maxHeartbeats 200000 in
theorem tA_gA {o : Ob} {izz jzz kzz xzz : Nat} {vzz : Int32} : gA (tA o izz jzz vzz) kzz xzz = if kzz = izz ∧ xzz = jzz then vzz else gA o kzz xzz := by
  by_cases czz : kzz = izz
  · subst czz
    rw [upd_at]
    by_cases d : xzz = jzz
    · rw [if_pos d, if_pos ⟨rfl, d⟩]
    · rw [if_neg d, if_neg (fun qzz => d qzz.2)]
  · rw [if_neg (fun qzz => czz qzz.1)]
    exact congrFun (fset_ne (f := fun izz => gA o izz) czz) xzz
def sfo (od : Bool) : Nat := if od = true then 1 else 3
def rwF (od : Bool) : Nat := if od = true then 55 else 22
def ClE (od : Bool) (oc : Ob) (gzz s2zz w2zz : Nat → Int32) (mzz K1 K2 : Nat) : Prop :=
  ∃ a1zz b1 c1zz a2 b2 c2zz d2zz : Nat, gA oc 0 mzz = gzz (8 * mzz) ∧ (0 ≤ (gA oc 0 mzz).toInt ∧ (gA oc 0 mzz).toInt ≤ 3) ∧ (gA oc 2 mzz).toInt = (a1zz : Int) ∧ (gA oc 3 mzz).toInt = (b1 : Int) ∧ (gA oc 4 mzz).toInt = (c1zz : Int) ∧ (gzz (8 * mzz + sfo od)).toInt = (a2 : Int) ∧ (gzz (8 * mzz + (sfo od + 1))).toInt = (b2 : Int) ∧ (gzz (8 * mzz + 5)).toInt = (c2zz : Int) ∧ (gzz (8 * mzz + 6)).toInt = (d2zz : Int) ∧ (a1zz ≤ b1 ∧ b1 ≤ c1zz ∧ c1zz ≤ K1 ∧ c2zz ≤ d2zz ∧ d2zz ≤ K2) ∧
  ((gA oc 0 mzz = 3 ∧ a1zz = b1 ∧ a2 = b2) ∨ (¬ gA oc 0 mzz = 3 ∧ ∃ n, n ≤ 50 ∧ b2 ≤ K2 ∧ Sx od (gA oc 5) (gA oc 6) s2zz w2zz false a1zz b1 a2 b2 n)) ∧
  ((b1 = c1zz ∧ c2zz = d2zz) ∨ (∃ n, n ≤ 50 ∧ Sx od (gA oc 5) (gA oc 6) s2zz w2zz true b1 c1zz c2zz d2zz n)) ∧
  (od = true → gA oc 1 mzz = gzz (8 * mzz + 7) ∧ 1 ≤ (gA oc 1 mzz).toInt ∧ (gA oc 1 mzz).toInt ≤ 20)
set_option maxHeartbeats 200000 in
theorem ClE.mv {od : Bool} {oc oc' : Ob} {gzz g' s2zz w2zz s2' w2' : Nat → Int32} {mzz K1 K2 K1' K2' : Nat} (hzz : ClE od oc gzz s2zz w2zz mzz K1 K2) (e0zz : ∀ izz, izz < 5 → gA oc' izz mzz = gA oc izz mzz) (e1zz : ∀ jzz, jzz < K1 → gA oc' 5 jzz = gA oc 5 jzz ∧ gA oc' 6 jzz = gA oc 6 jzz) (eg : ∀ izz, izz < 8 → g' (8 * mzz + izz) = gzz (8 * mzz + izz)) (e2zz : ∀ jzz, jzz < K2 → s2' jzz = s2zz jzz ∧ w2' jzz = w2zz jzz) (h1 : K1 ≤ K1') (h2 : K2 ≤ K2') : ClE od oc' g' s2' w2' mzz K1' K2' := by
  obtain ⟨a1zz, b1, c1zz, a2, b2, c2zz, d2zz, x0zz, x1zz, x2zz, x3, x4zz, x5zz, x6, x7, x8, x9, x10, x11, x12⟩ := hzz
  have hs : sfo od + 1 < 8 := by cases od <;> decide
  have eg0 : g' (8 * mzz) = gzz (8 * mzz) := eg 0 (by decide)
  refine ⟨a1zz, b1, c1zz, a2, b2, c2zz, d2zz, ?_, ?_, ?_, ?_, ?_, ?_, ?_, ?_, ?_, ⟨x9.1, x9.2.1, by omega, x9.2.2.2.1, by omega⟩, ?_, ?_, fun qzz => ?_⟩
  · rw [e0zz 0 (by decide), eg0]; exact x0zz
  · rw [e0zz 0 (by decide)]; exact x1zz
  · rw [e0zz 2 (by decide)]; exact x2zz
  · rw [e0zz 3 (by decide)]; exact x3
  · rw [e0zz 4 (by decide)]; exact x4zz
  · rw [eg (sfo od) (by omega)]; exact x5zz
  · rw [eg (sfo od + 1) hs]; exact x6
  · rw [eg 5 (by decide)]; exact x7
  · rw [eg 6 (by decide)]; exact x8
  · rcases x10 with ⟨p1zz, p2zz, p3zz⟩ | ⟨p1zz, n, p2zz, p3zz, p4zz⟩
    · exact Or.inl ⟨by rw [e0zz 0 (by decide)]; exact p1zz, p2zz, p3zz⟩
    · exact Or.inr ⟨by rw [e0zz 0 (by decide)]; exact p1zz, n, p2zz, by omega, p4zz.eq (fun jzz i1zz i2zz => e1zz jzz (by omega)) (fun jzz i1zz i2zz => e2zz jzz (by omega))⟩
  · rcases x11 with pzz | ⟨n, p2zz, p4zz⟩
    · exact Or.inl pzz
    · exact Or.inr ⟨n, p2zz, p4zz.eq (fun jzz i1zz i2zz => e1zz jzz (by omega)) (fun jzz i1zz i2zz => e2zz jzz (by omega))⟩
  · rw [e0zz 1 (by decide), eg 7 (by decide)]; exact x12 qzz
def HDs (o : Ob) : Prop := (∀ kzz, kzz < 4 → (gM o 33 kzz).toInt = codR (tx0.getD kzz [])) ∧ (∀ kzz, kzz < 4 → (gM o 54 kzz).toInt = codR (tx1.getD kzz []))
set_option maxHeartbeats 200000 in
theorem HDs.eq {o o' : Ob} (hzz : HDs o) (ezz : o'.2.2.2 = o.2.2.2) : HDs o' := by
  have em : ∀ izz, gM o' izz = gM o izz := fun izz => congrFun (congrArg Prod.fst ezz) izz
  exact ⟨fun kzz hk => by rw [em 33]; exact hzz.1 kzz hk, fun kzz hk => by rw [em 54]; exact hzz.2 kzz hk⟩
def ClS (od : Bool) (Gzz : Nat → Int32) (rd oc o : Ob) (k1zz k2zz n : Nat) : Prop := XS od rd oc o k1zz k2zz ∧ (gI o 21).toInt = (n : Int) ∧ (gI oc 7).toInt = (n : Int) ∧ HDs o ∧ gA o 3 = Gzz ∧ ∀ mzz, mzz < n → ClE od oc (gA o (rwF od)) (gA o 24) (gA o 25) mzz k1zz k2zz
set_option maxHeartbeats 200000 in
theorem ph_test {od : Bool} {rd oc o yzz : Ob} {k1zz k2zz : Nat} {v1zz : Int32} {zzz : Int32 × Ob × Ob} {Kzz : Ob → Option Ob} (hzz : XS od rd oc o k1zz k2zz) (h1 : bk_X6_readClause_177 12 400 v1zz rd oc = some zzz)
    (h2 : (if (gI o 19) = (0 : Int32) then ((f_X9_isWord o (294 : Int64)).bind fun z14zz => if z14zz = (0 : Int32) then Kzz o else ((f_X9_next o).bind fun z15 => (f_X9_readExpression z15 (1 : Int32)).bind fun z16 => Kzz z16)) else Kzz o) = some yzz) :
    (zzz.1 = 0 ∧ ∃ wzz, Kzz wzz = some yzz ∧ gI wzz 19 = 1 ∧ gI wzz 18 = gI zzz.2.1 3 ∧ gA wzz 3 = gA o 3) ∨
    (∃ (rd' oc' o' : Ob) (k1' k2' : Nat), bk_X6_readClause_200 12 400 v1zz rd' oc' = some zzz ∧ Kzz o' = some yzz ∧ XS od rd' oc' o' k1' k2' ∧ RF o o' ∧ CF rd oc rd' oc' ∧ (∀ jzz, jzz < k1zz → gA oc' 5 jzz = gA oc 5 jzz ∧ gA oc' 6 jzz = gA oc 6 jzz) ∧ ckp k2zz o o' ∧ ((k1' = k1zz ∧ k2' = k2zz) ∨ ∃ n, n ≤ 50 ∧ Sx od (gA oc' 5) (gA oc' 6) (gA o' 24) (gA o' 25) true k1zz k1' k2zz k2' n)) := by
  have hTzz := hzz.1
  unfold bk_X6_readClause_177 at h1
  obtain ⟨z13zz, ez13, h1⟩ := z_bd h1
  obtain ⟨z14zz, ez14, h2⟩ := z_bd (z_t h2 hzz.2.1)
  rcases iw8 (R := [6, 9]) hTzz (by decide) tx3_ok ez13 with ⟨q1zz, q2zz⟩ | ⟨q1zz, q2zz⟩ <;> rcases w9 (R := [6, 9]) hTzz (all_dig (by decide)) (by decide) (by decide) ez14 with ⟨u1zz, u2zz⟩ | ⟨u1zz, u2zz⟩
  · exact Or.inr ⟨rd, oc, o, k1zz, k2zz, z_t h1 q1zz, z_t h2 u1zz, hzz, RF.rf, CF.rf, fun _ _ => ⟨rfl, rfl⟩, ckp.rf, Or.inl ⟨rfl, rfl⟩⟩
  · exact absurd u2zz q2zz
  · exact absurd q2zz u2zz
  · obtain ⟨z17, ez17, h1⟩ := z_bd (z_f h1 q1zz)
    obtain ⟨z18, ez18, h1⟩ := z_bd h1
    obtain ⟨z15, ez15, h2⟩ := z_bd (z_f h2 u1zz)
    obtain ⟨z16, ez16, h2⟩ := z_bd h2
    obtain ⟨hX, f6zz, f9zz⟩ := hzz.step ez17 ez15
    rcases x_test hX ez18 ez16 with gb | ⟨e1zz, k1', k2', n, x1zz, x2zz, x3, x4zz, x5zz, x6, x7⟩
    · have h1 := Option.some.inj (z_t h1 gb.1)
      exact Or.inl ⟨by rw [← h1], z16, h2, gb.2.1, by rw [← h1]; exact gb.2.2.1, (gb.2.2.2.1.2.1 3 (by decide) (by decide) (by decide) (by decide)).trans (f9zz.gA 3)⟩
    · have ck : ckp k2zz o z15 := fun jzz hj => ⟨by rw [f9zz.gA 24], by rw [f9zz.gA 25]⟩
      exact Or.inr ⟨z18.2.1, z18.2.2, z16, k1', k2', z_f h1 (by rw [e1zz]; decide), h2, x1zz, f9zz.rr.tr x2zz, f6zz.cc.tr x3, x4zz, ck.tr x5zz, Or.inr ⟨n, x6, x7⟩⟩
set_option maxRecDepth 100000 in
theorem tx0_d : ∀ kzz, kzz < 4 → tx0[kzz]? = some (tx0.getD kzz []) ∧ (tx0.getD kzz []).length ≤ 10 ∧ (tx0.getD kzz []).all (fun d => decide (1 ≤ d ∧ d ≤ 26)) = true := by decide +kernel
set_option maxRecDepth 100000 in
theorem tx0_n : ∀ jzz, jzz < 4 → ∀ kzz, kzz < 4 → jzz ≠ kzz → codR (tx0.getD jzz []) ≠ codR (tx0.getD kzz []) := by decide +kernel
set_option maxHeartbeats 200000 in
theorem hd_lpL {rd o yzz : Ob} (hzz : TT rd o) (ht : ∀ kzz, kzz < 4 → (gM o 33 kzz).toInt = codR (tx0.getD kzz [])) : ∀ (Nzz : Nat) (v1zz v2 : Int32) (izz : Nat), v2.toInt = (izz : Int) → izz ≤ 4 → ((v1zz = -1 ∧ ∀ jzz, jzz < izz → ¬ IsW o (tx0.getD jzz [])) ∨ (∃ jzz : Nat, jzz < izz ∧ v1zz.toInt = (jzz : Int) ∧ IsW o (tx0.getD jzz []))) → lp_X9_readLaw_4 Nzz (v1zz, v2, o) = some yzz →
    ∃ vzz : Int32, ((vzz = -1 ∧ ∀ jzz, jzz < 4 → ¬ IsW o (tx0.getD jzz [])) ∨ (∃ jzz : Nat, jzz < 4 ∧ vzz.toInt = (jzz : Int) ∧ IsW o (tx0.getD jzz []))) ∧ (if vzz = (-1 : Int32) then (bk_X9_readLaw_53 vzz o) else (if (12 : Int32) ≤ (gI o 21) then (bk_X9_readLaw_53 vzz o) else (bk_X9_readLaw_54 vzz (1 : Int32) o))) = some yzz := by
  intro Nzz
  induction Nzz with
  | zero => intro v1zz v2 izz _ _ _ hzz; cases hzz
  | succ Nzz ihzz =>
    intro v1zz v2 izz e2zz hizz hv hz
    have hz : lb_X9_readLaw_4 (lp_X9_readLaw_4 Nzz) v1zz v2 o = some yzz := hz
    unfold lb_X9_readLaw_4 at hz
    by_cases czz : (4 : Int32) ≤ v2
    · have d := cv_le (a := 4) (b := (izz : Int)) (by decide) e2zz czz
      refine ⟨v1zz, ?_, z_t hz czz⟩
      rcases hv with ⟨q1zz, q2zz⟩ | ⟨jzz, q1zz, q2zz, q3zz⟩
      · exact Or.inl ⟨q1zz, fun jzz hj => q2zz jzz (by omega)⟩
      · exact Or.inr ⟨jzz, by omega, q2zz, q3zz⟩
    · have d := cv_nle (a := 4) (b := (izz : Int)) (by decide) e2zz czz
      obtain ⟨-, hz⟩ := z_gd (z_f hz czz)
      obtain ⟨z2, ez2, hz⟩ := z_bd hz
      have i2zz : v2.toNatClampNeg = izz := tnc_eq e2zz
      rw [i2zz] at ez2
      have hdzz := tx0_d izz (by omega)
      have hst : ∀ s0zz : Int32, bk_X9_readLaw_27 (lp_X9_readLaw_4 Nzz) v2 s0zz o = some yzz → ((s0zz = -1 ∧ ∀ jzz, jzz < izz + 1 → ¬ IsW o (tx0.getD jzz [])) ∨ (∃ jzz : Nat, jzz < izz + 1 ∧ s0zz.toInt = (jzz : Int) ∧ IsW o (tx0.getD jzz []))) → ∃ vzz : Int32, ((vzz = -1 ∧ ∀ jzz, jzz < 4 → ¬ IsW o (tx0.getD jzz [])) ∨ (∃ jzz : Nat, jzz < 4 ∧ vzz.toInt = (jzz : Int) ∧ IsW o (tx0.getD jzz []))) ∧ (if vzz = (-1 : Int32) then (bk_X9_readLaw_53 vzz o) else (if (12 : Int32) ≤ (gI o 21) then (bk_X9_readLaw_53 vzz o) else (bk_X9_readLaw_54 vzz (1 : Int32) o))) = some yzz := by
        intro s0zz kzz hs
        unfold bk_X9_readLaw_27 at kzz
        obtain ⟨x3, e3zz, kzz⟩ := z_lt kzz
        have t3zz : x3.toInt = (izz : Int) + 1 := by rw [e3zz]; exact i32_add e2zz (by decide) (by omega) (by omega)
        exact ihzz s0zz x3 (izz + 1) (by omega) (by omega) hs kzz
      rcases w9 hzz (all_dig hdzz.2.2) hdzz.2.1 (ht izz (by omega)) ez2 with ⟨g1, g2⟩ | ⟨g1, g2⟩
      · refine hst v1zz (z_t hz g1) ?_
        rcases hv with ⟨q1zz, q2zz⟩ | ⟨jzz, q1zz, q2zz, q3zz⟩
        · refine Or.inl ⟨q1zz, fun jzz hj => ?_⟩
          by_cases ezz : jzz = izz
          · rw [ezz]; exact g2
          · exact q2zz jzz (by omega)
        · exact Or.inr ⟨jzz, by omega, q2zz, q3zz⟩
      · exact hst v2 (z_f hz g1) (Or.inr ⟨izz, by omega, e2zz, g2⟩)
set_option maxHeartbeats 200000 in
theorem head_eqL {rd o yzz : Ob} {z1 : Int32} (hzz : TT rd o) (ht : ∀ kzz, kzz < 4 → (gM o 33 kzz).toInt = codR (tx0.getD kzz [])) (h1 : f_X6_wordOf rd 0 = some z1) (hy : f_X9_readLaw o = some yzz) : (z1 = -1 ∧ bk_X9_readLaw_54 (-1) 0 o = some yzz) ∨ ((0 ≤ z1.toInt ∧ z1.toInt ≤ 3) ∧ gI o 16 = 1 ∧ ((gI o 21).toInt < 12 → bk_X9_readLaw_54 z1 1 o = some yzz)) := by
  obtain ⟨vzz, bzz, hx⟩ := hd_lpL hzz ht zfu (-1) 0 0 (by decide) (by decide) (Or.inl ⟨rfl, fun jzz hj => absurd hj (Nat.not_lt_zero _)⟩) hy
  have azz := wo8 hzz (by decide) tx0_ok (by decide) h1
  have hlen : tx0.length = 4 := by decide
  have memzz : ∀ jzz, jzz < 4 → tx0.getD jzz [] ∈ tx0 := fun jzz hj => List.mem_of_getElem? (tx0_d jzz hj).1
  rcases azz with ⟨jzz, R, a1zz, a2, a3⟩ | ⟨a1zz, a2⟩ <;> rcases bzz with ⟨b1, b2⟩ | ⟨kzz, b1, b2, b3⟩
  · have hj : jzz < 4 := by
      rcases (show jzz < 4 ∨ 4 ≤ jzz by omega) with uzz | uzz
      · exact uzz
      · rw [List.getElem?_eq_none (by rw [hlen]; exact uzz)] at a1zz; cases a1zz
    have ezz : tx0.getD jzz [] = R := Option.some.inj ((tx0_d jzz hj).1.symm.trans a1zz)
    rw [← ezz] at a3
    exact absurd a3 (b2 jzz hj)
  · have hj : jzz < 4 := by
      rcases (show jzz < 4 ∨ 4 ≤ jzz by omega) with uzz | uzz
      · exact uzz
      · rw [List.getElem?_eq_none (by rw [hlen]; exact uzz)] at a1zz; cases a1zz
    have ezz : tx0.getD jzz [] = R := Option.some.inj ((tx0_d jzz hj).1.symm.trans a1zz)
    rw [← ezz] at a3
    have ejk : jzz = kzz := by
      rcases (show jzz = kzz ∨ jzz ≠ kzz by omega) with uzz | uzz
      · exact uzz
      · have dj := tx0_d jzz hj
        have dk := tx0_d kzz b1
        exact absurd b3 (IsW.ne hzz (all_dig dj.2.2) dj.2.1 (all_dig dk.2.2) dk.2.1 (tx0_n jzz hj kzz b1 uzz) a3)
    have evzz : vzz = z1 := Int32.toInt_inj.mp (by rw [b2, a2, ejk])
    rw [evzz] at hx
    refine Or.inr ⟨⟨by omega, by omega⟩, a3.1, fun qzz => ?_⟩
    have hx := z_f hx (fun czz => by have czz := cv_eq (a := z1.toInt) (b := -1) rfl (by decide) czz; omega)
    exact z_f hx (fun czz => by have czz := cv_le (a := 12) (b := (gI o 21).toInt) (by decide) rfl czz; omega)
  · refine Or.inl ⟨a1zz, ?_⟩
    have hx := z_t hx b1
    rw [b1] at hx
    exact hx
  · exact absurd b3 (a2 _ (memzz kzz b1))
set_option maxHeartbeats 200000 in
theorem too_manyL {rd o yzz : Ob} (hzz : TT rd o) (h19 : gI o 19 = 0) (ht : ∀ kzz, kzz < 4 → (gM o 33 kzz).toInt = codR (tx0.getD kzz [])) (hn : 12 ≤ (gI o 21).toInt) (hy : f_X9_readLaw o = some yzz) : gI yzz 19 = 1 ∧ gI yzz 18 = gI o 14 ∧ gA yzz 3 = gA o 3 := by
  obtain ⟨vzz, bzz, hx⟩ := hd_lpL hzz ht zfu (-1) 0 0 (by decide) (by decide) (Or.inl ⟨rfl, fun jzz hj => absurd hj (Nat.not_lt_zero _)⟩) hy
  have hx : bk_X9_readLaw_53 vzz o = some yzz := by
    by_cases czz : vzz = -1
    · exact z_t hx czz
    · exact z_t (z_f hx czz) (Int32.le_iff_toInt_le.mpr (by have : (12 : Int32).toInt = 12 := (by decide); omega))
  unfold bk_X9_readLaw_53 bk_X9_readLaw_54 at hx
  obtain ⟨zm, ezm, hx⟩ := z_bd hx
  have em := mu_no h19 ezm
  have k19 : gI zm 19 = 1 := by rw [em]; rfl
  rw [← Option.some.inj (z_f hx (by rw [k19]; decide))]
  exact ⟨k19, by rw [em]; rfl, by rw [em]; rfl⟩

set_option maxRecDepth 100000 in
theorem tx1_d : ∀ kzz, kzz < 4 → tx1[kzz]? = some (tx1.getD kzz []) ∧ (tx1.getD kzz []).length ≤ 10 ∧ (tx1.getD kzz []).all (fun d => decide (1 ≤ d ∧ d ≤ 26)) = true := by decide +kernel
set_option maxRecDepth 100000 in
theorem tx1_n : ∀ jzz, jzz < 4 → ∀ kzz, kzz < 4 → jzz ≠ kzz → codR (tx1.getD jzz []) ≠ codR (tx1.getD kzz []) := by decide +kernel
set_option maxHeartbeats 200000 in
theorem hd_lpO {rd o yzz : Ob} (hzz : TT rd o) (ht : ∀ kzz, kzz < 4 → (gM o 54 kzz).toInt = codR (tx1.getD kzz [])) : ∀ (Nzz : Nat) (v1zz v2 : Int32) (izz : Nat), v2.toInt = (izz : Int) → izz ≤ 4 → ((v1zz = -1 ∧ ∀ jzz, jzz < izz → ¬ IsW o (tx1.getD jzz [])) ∨ (∃ jzz : Nat, jzz < izz ∧ v1zz.toInt = (jzz : Int) ∧ IsW o (tx1.getD jzz []))) → lp_X9_readOrder_4 Nzz (v1zz, v2, o) = some yzz →
    ∃ vzz : Int32, ((vzz = -1 ∧ ∀ jzz, jzz < 4 → ¬ IsW o (tx1.getD jzz [])) ∨ (∃ jzz : Nat, jzz < 4 ∧ vzz.toInt = (jzz : Int) ∧ IsW o (tx1.getD jzz []))) ∧ (if vzz = (-1 : Int32) then (bk_X9_readOrder_53 vzz o) else (if (12 : Int32) ≤ (gI o 21) then (bk_X9_readOrder_53 vzz o) else (bk_X9_readOrder_54 vzz (1 : Int32) o))) = some yzz := by
  intro Nzz
  induction Nzz with
  | zero => intro v1zz v2 izz _ _ _ hzz; cases hzz
  | succ Nzz ihzz =>
    intro v1zz v2 izz e2zz hizz hv hz
    have hz : lb_X9_readOrder_4 (lp_X9_readOrder_4 Nzz) v1zz v2 o = some yzz := hz
    unfold lb_X9_readOrder_4 at hz
    by_cases czz : (4 : Int32) ≤ v2
    · have d := cv_le (a := 4) (b := (izz : Int)) (by decide) e2zz czz
      refine ⟨v1zz, ?_, z_t hz czz⟩
      rcases hv with ⟨q1zz, q2zz⟩ | ⟨jzz, q1zz, q2zz, q3zz⟩
      · exact Or.inl ⟨q1zz, fun jzz hj => q2zz jzz (by omega)⟩
      · exact Or.inr ⟨jzz, by omega, q2zz, q3zz⟩
    · have d := cv_nle (a := 4) (b := (izz : Int)) (by decide) e2zz czz
      obtain ⟨-, hz⟩ := z_gd (z_f hz czz)
      obtain ⟨z2, ez2, hz⟩ := z_bd hz
      have i2zz : v2.toNatClampNeg = izz := tnc_eq e2zz
      rw [i2zz] at ez2
      have hdzz := tx1_d izz (by omega)
      have hst : ∀ s0zz : Int32, bk_X9_readOrder_27 (lp_X9_readOrder_4 Nzz) v2 s0zz o = some yzz → ((s0zz = -1 ∧ ∀ jzz, jzz < izz + 1 → ¬ IsW o (tx1.getD jzz [])) ∨ (∃ jzz : Nat, jzz < izz + 1 ∧ s0zz.toInt = (jzz : Int) ∧ IsW o (tx1.getD jzz []))) → ∃ vzz : Int32, ((vzz = -1 ∧ ∀ jzz, jzz < 4 → ¬ IsW o (tx1.getD jzz [])) ∨ (∃ jzz : Nat, jzz < 4 ∧ vzz.toInt = (jzz : Int) ∧ IsW o (tx1.getD jzz []))) ∧ (if vzz = (-1 : Int32) then (bk_X9_readOrder_53 vzz o) else (if (12 : Int32) ≤ (gI o 21) then (bk_X9_readOrder_53 vzz o) else (bk_X9_readOrder_54 vzz (1 : Int32) o))) = some yzz := by
        intro s0zz kzz hs
        unfold bk_X9_readOrder_27 at kzz
        obtain ⟨x3, e3zz, kzz⟩ := z_lt kzz
        have t3zz : x3.toInt = (izz : Int) + 1 := by rw [e3zz]; exact i32_add e2zz (by decide) (by omega) (by omega)
        exact ihzz s0zz x3 (izz + 1) (by omega) (by omega) hs kzz
      rcases w9 hzz (all_dig hdzz.2.2) hdzz.2.1 (ht izz (by omega)) ez2 with ⟨g1, g2⟩ | ⟨g1, g2⟩
      · refine hst v1zz (z_t hz g1) ?_
        rcases hv with ⟨q1zz, q2zz⟩ | ⟨jzz, q1zz, q2zz, q3zz⟩
        · refine Or.inl ⟨q1zz, fun jzz hj => ?_⟩
          by_cases ezz : jzz = izz
          · rw [ezz]; exact g2
          · exact q2zz jzz (by omega)
        · exact Or.inr ⟨jzz, by omega, q2zz, q3zz⟩
      · exact hst v2 (z_f hz g1) (Or.inr ⟨izz, by omega, e2zz, g2⟩)
set_option maxHeartbeats 200000 in
theorem head_eqO {rd o yzz : Ob} {z1 : Int32} (hzz : TT rd o) (ht : ∀ kzz, kzz < 4 → (gM o 54 kzz).toInt = codR (tx1.getD kzz [])) (h1 : f_X6_wordOf rd 1 = some z1) (hy : f_X9_readOrder o = some yzz) : (z1 = -1 ∧ bk_X9_readOrder_54 (-1) 0 o = some yzz) ∨ ((0 ≤ z1.toInt ∧ z1.toInt ≤ 3) ∧ gI o 16 = 1 ∧ ((gI o 21).toInt < 12 → bk_X9_readOrder_54 z1 1 o = some yzz)) := by
  obtain ⟨vzz, bzz, hx⟩ := hd_lpO hzz ht zfu (-1) 0 0 (by decide) (by decide) (Or.inl ⟨rfl, fun jzz hj => absurd hj (Nat.not_lt_zero _)⟩) hy
  have azz := wo8 hzz (by decide) tx1_ok (by decide) h1
  have hlen : tx1.length = 4 := by decide
  have memzz : ∀ jzz, jzz < 4 → tx1.getD jzz [] ∈ tx1 := fun jzz hj => List.mem_of_getElem? (tx1_d jzz hj).1
  rcases azz with ⟨jzz, R, a1zz, a2, a3⟩ | ⟨a1zz, a2⟩ <;> rcases bzz with ⟨b1, b2⟩ | ⟨kzz, b1, b2, b3⟩
  · have hj : jzz < 4 := by
      rcases (show jzz < 4 ∨ 4 ≤ jzz by omega) with uzz | uzz
      · exact uzz
      · rw [List.getElem?_eq_none (by rw [hlen]; exact uzz)] at a1zz; cases a1zz
    have ezz : tx1.getD jzz [] = R := Option.some.inj ((tx1_d jzz hj).1.symm.trans a1zz)
    rw [← ezz] at a3
    exact absurd a3 (b2 jzz hj)
  · have hj : jzz < 4 := by
      rcases (show jzz < 4 ∨ 4 ≤ jzz by omega) with uzz | uzz
      · exact uzz
      · rw [List.getElem?_eq_none (by rw [hlen]; exact uzz)] at a1zz; cases a1zz
    have ezz : tx1.getD jzz [] = R := Option.some.inj ((tx1_d jzz hj).1.symm.trans a1zz)
    rw [← ezz] at a3
    have ejk : jzz = kzz := by
      rcases (show jzz = kzz ∨ jzz ≠ kzz by omega) with uzz | uzz
      · exact uzz
      · have dj := tx1_d jzz hj
        have dk := tx1_d kzz b1
        exact absurd b3 (IsW.ne hzz (all_dig dj.2.2) dj.2.1 (all_dig dk.2.2) dk.2.1 (tx1_n jzz hj kzz b1 uzz) a3)
    have evzz : vzz = z1 := Int32.toInt_inj.mp (by rw [b2, a2, ejk])
    rw [evzz] at hx
    refine Or.inr ⟨⟨by omega, by omega⟩, a3.1, fun qzz => ?_⟩
    have hx := z_f hx (fun czz => by have czz := cv_eq (a := z1.toInt) (b := -1) rfl (by decide) czz; omega)
    exact z_f hx (fun czz => by have czz := cv_le (a := 12) (b := (gI o 21).toInt) (by decide) rfl czz; omega)
  · refine Or.inl ⟨a1zz, ?_⟩
    have hx := z_t hx b1
    rw [b1] at hx
    exact hx
  · exact absurd b3 (a2 _ (memzz kzz b1))
set_option maxHeartbeats 200000 in
theorem too_manyO {rd o yzz : Ob} (hzz : TT rd o) (h19 : gI o 19 = 0) (ht : ∀ kzz, kzz < 4 → (gM o 54 kzz).toInt = codR (tx1.getD kzz [])) (hn : 12 ≤ (gI o 21).toInt) (hy : f_X9_readOrder o = some yzz) : gI yzz 19 = 1 ∧ gI yzz 18 = gI o 14 ∧ gA yzz 3 = gA o 3 := by
  obtain ⟨vzz, bzz, hx⟩ := hd_lpO hzz ht zfu (-1) 0 0 (by decide) (by decide) (Or.inl ⟨rfl, fun jzz hj => absurd hj (Nat.not_lt_zero _)⟩) hy
  have hx : bk_X9_readOrder_53 vzz o = some yzz := by
    by_cases czz : vzz = -1
    · exact z_t hx czz
    · exact z_t (z_f hx czz) (Int32.le_iff_toInt_le.mpr (by have : (12 : Int32).toInt = 12 := (by decide); omega))
  unfold bk_X9_readOrder_53 bk_X9_readOrder_54 at hx
  obtain ⟨zm, ezm, hx⟩ := z_bd hx
  have em := mu_no h19 ezm
  have k19 : gI zm 19 = 1 := by rw [em]; rfl
  rw [← Option.some.inj (z_f hx (by rw [k19]; decide))]
  exact ⟨k19, by rw [em]; rfl, by rw [em]; rfl⟩
set_option maxHeartbeats 200000 in
theorem clr_L {yzz : Ob} {v1zz v2 : Int32} {n : Nat} (e2zz : v2.toInt = 8 * (n : Int)) (hn : n < 12) : ∀ (Nzz : Nat) (v3 : Int32) (o : Ob) (izz : Nat), v3.toInt = (izz : Int) → izz ≤ 8 → lp_X9_readLaw_75 Nzz (v1zz, v2, v3, o) = some yzz →
    ∃ o7 : Ob, RW 22 (8 * n) o o7 ∧ gI o7 21 = gI o 21 + 1 ∧ gA o7 22 (8 * n) = v1zz ∧ gA o7 22 (8 * n + 3) = gI o 23 ∧ (if v1zz = (3 : Int32) then (bk_X9_readLaw_135 v2 o7) else ((f_X9_readExpression o7 (0 : Int32)).bind fun z17 => bk_X9_readLaw_135 v2 z17)) = some yzz := by
  intro Nzz
  induction Nzz with
  | zero => intro v3 o izz _ _ hzz; cases hzz
  | succ Nzz ihzz =>
    intro v3 o izz e3zz hizz hz
    have hz : lb_X9_readLaw_75 (lp_X9_readLaw_75 Nzz) v1zz v2 v3 o = some yzz := hz
    unfold lb_X9_readLaw_75 at hz
    have i0zz : v2.toNatClampNeg = 8 * n := tnc_eq (by omega)
    by_cases czz : (8 : Int32) ≤ v3
    · have d := cv_le (a := 8) (b := (izz : Int)) (by decide) e3zz czz
      obtain ⟨-, hz⟩ := z_gd (z_t hz czz)
      obtain ⟨o4zz, g4, hz⟩ := z_lt hz
      obtain ⟨o5zz, g5zz, hz⟩ := z_lt hz
      obtain ⟨-, hz⟩ := z_gd hz
      obtain ⟨o7, g7, hz⟩ := z_lt hz
      have t3zz : (v2 + (3 : Int32)).toInt = 8 * (n : Int) + 3 := i32_add e2zz (by decide) (by omega) (by omega)
      have i3zz : (v2 + (3 : Int32)).toNatClampNeg = 8 * n + 3 := tnc_eq (by omega)
      rw [i0zz] at g4
      rw [i3zz] at g7
      have w4zz : RW 22 (8 * n) o o4zz := by rw [g4]; exact RW.tA ⟨by omega, by omega⟩
      have w5 : RW 22 (8 * n) o4zz o5zz := by rw [g5zz]; exact RW.s21
      have w7zz : RW 22 (8 * n) o5zz o7 := by rw [g7]; exact RW.tA ⟨by omega, by omega⟩
      refine ⟨o7, w4zz.tr (w5.tr w7zz), ?_, ?_, ?_, hz⟩
      · have uzz : gI o7 21 = gI o5zz 21 := by rw [g7]; rfl
        have u' : gI o4zz 21 = gI o 21 := by rw [g4]; rfl
        rw [uzz, g5zz]; show gI o4zz 21 + 1 = _; rw [u']
      · rw [g7, upd_at, if_neg (by omega), g5zz]
        show gA o4zz 22 (8 * n) = v1zz
        rw [g4, upd_at, if_pos rfl]
      · rw [g7, upd_at, if_pos rfl, w5.1 23 (by decide), w4zz.1 23 (by decide)]
    · have d := cv_nle (a := 8) (b := (izz : Int)) (by decide) e3zz czz
      obtain ⟨-, hz⟩ := z_gd (z_f hz czz)
      obtain ⟨o19, g19, hz⟩ := z_lt hz
      obtain ⟨x20, gx, hz⟩ := z_lt hz
      have t3zz : (v2 + v3).toInt = 8 * (n : Int) + (izz : Int) := i32_add e2zz e3zz (by omega) (by omega)
      have i3zz : (v2 + v3).toNatClampNeg = 8 * n + izz := tnc_eq (by omega)
      have tx : x20.toInt = (izz : Int) + 1 := by rw [gx]; exact i32_add e3zz (by decide) (by omega) (by omega)
      rw [i3zz] at g19
      have w19 : RW 22 (8 * n) o o19 := by rw [g19]; exact RW.tA ⟨by omega, by omega⟩
      obtain ⟨o7, q1zz, q2zz, q3zz, q4zz, q5zz⟩ := ihzz x20 o19 (izz + 1) (by omega) (by omega) hz
      have uzz : gI o19 21 = gI o 21 := by rw [g19]; rfl
      exact ⟨o7, w19.tr q1zz, by rw [q2zz, uzz], q3zz, by rw [q4zz, w19.1 23 (by decide)], q5zz⟩
set_option maxHeartbeats 200000 in
theorem bad185 {v2 : Int32} {wzz yzz : Ob} (hzz : bk_X9_readLaw_185 v2 wzz = some yzz) : gI yzz 19 = gI wzz 19 ∧ gI yzz 18 = gI wzz 18 ∧ gA yzz 3 = gA wzz 3 := by
  unfold bk_X9_readLaw_185 at hzz
  obtain ⟨-, hzz⟩ := z_gd hzz
  obtain ⟨o13, gzz, hzz⟩ := z_lt hzz
  rw [← Option.some.inj hzz, gzz]
  exact ⟨rfl, rfl, rfl⟩
set_option maxHeartbeats 200000 in
theorem bad135 {v2 : Int32} {wzz yzz : Ob} (h19 : gI wzz 19 = 1) (hzz : bk_X9_readLaw_135 v2 wzz = some yzz) : gI yzz 19 = 1 ∧ gI yzz 18 = gI wzz 18 ∧ gA yzz 3 = gA wzz 3 := by
  unfold bk_X9_readLaw_135 at hzz
  obtain ⟨-, hzz⟩ := z_gd hzz
  obtain ⟨o9, g9, hzz⟩ := z_lt hzz
  obtain ⟨-, hzz⟩ := z_gd hzz
  obtain ⟨o11, g11, hzz⟩ := z_lt hzz
  have e19zz : gI o11 19 = 1 := by rw [g11, g9]; exact h19
  have e18zz : gI o11 18 = gI wzz 18 := by rw [g11, g9]; rfl
  have qzz := bad185 (z_f hzz (by rw [e19zz]; decide))
  exact ⟨qzz.1.trans e19zz, qzz.2.1.trans e18zz, qzz.2.2.trans (by rw [g11, g9]; rfl)⟩
set_option maxHeartbeats 200000 in
theorem ix8 {xzz czz : Int32} {n kzz : Nat} (hzz : xzz.toInt = 8 * (n : Int)) (hn : n < 12) (hczz : czz.toInt = (kzz : Int)) (hk : kzz < 8) : (xzz + czz).toNatClampNeg = 8 * n + kzz := tnc_eq (by rw [i32_add hzz hczz (by omega) (by omega)]; omega)
set_option maxHeartbeats 200000 in
theorem clause_L {rd oc o yzz : Ob} {k1zz k2zz n : Nat} {v1zz : Int32} {zzz : Int32 × Ob × Ob} {Gzz : Nat → Int32} (hC : ClS false Gzz rd oc o k1zz k2zz n) (hn : n < 12) (evzz : v1zz.toInt = (n : Int)) (h1 : f_X6_readClause 12 400 rd oc v1zz = some zzz) (hy : f_X9_readLaw o = some yzz) : (zzz.1 = 0 ∧ gI yzz 19 = 1 ∧ gI yzz 18 = gI zzz.2.1 3 ∧ gA yzz 3 = Gzz) ∨ (zzz.1 = 1 ∧ ∃ k1' k2' : Nat, ClS false Gzz zzz.2.1 zzz.2.2 yzz k1' k2' (n + 1)) := by
  obtain ⟨hX, e21zz, e7zz, hH, hG, hcl⟩ := hC
  have hTzz := hX.1
  have hMzz := hX.2.2.2.2.2.2.2.2
  have ivzz : v1zz.toNatClampNeg = n := tnc_eq evzz
  unfold f_X6_readClause at h1
  have h1 := z_f h1 (hMzz.2.1 rfl).1
  unfold bk_X6_readClause_15 at h1
  obtain ⟨z1, ez1, h1⟩ := z_bd h1
  rcases head_eqL hTzz hH.1 ez1 hy with ⟨q1zz, q2zz⟩ | ⟨q1zz, q3zz, q4zz⟩
  · refine Or.inl ?_
    have h1 := z_t h1 q1zz
    unfold bk_X6_readClause_34 at h1
    obtain ⟨zs, ezs, h1⟩ := z_bd h1
    obtain ⟨-, h1⟩ := z_gd h1
    obtain ⟨s1zz, s2zz⟩ := stop8 ezs
    unfold bk_X9_readLaw_54 at q2zz
    obtain ⟨zm, ezm, q2zz⟩ := z_bd q2zz
    have em := mu_no hX.2.1 ezm
    have k19 : gI zm 19 = 1 := by rw [em]; rfl
    rw [← Option.some.inj (z_f q2zz (by rw [k19]; decide)), ← Option.some.inj h1]
    refine ⟨s1zz, k19, ?_, Eq.trans (by rw [em]; rfl) hG⟩
    show gI zm 18 = gI zs.2 3
    rw [s2zz, em]
    show gI o 14 = gI rd 7
    exact hTzz.2.2.1.symm
  · have h1 := z_f h1 (fun czz => by have czz := cv_eq (a := z1.toInt) (b := -1) rfl (by decide) czz; omega)
    have h1 := z_f h1 (fun czz => by have czz := cv_lt (a := (n : Int)) (b := 0) evzz (by decide) czz; omega)
    have h1 := z_t h1 (Int32.lt_iff_toInt_lt.mpr (by have : (12 : Int32).toInt = 12 := (by decide); omega))
    obtain ⟨z4, ez4, h1⟩ := z_bd h1
    obtain ⟨-, h1⟩ := z_gd h1
    obtain ⟨o6, g6, h1⟩ := z_lt h1
    obtain ⟨-, h1⟩ := z_gd h1
    obtain ⟨o8zz, g8, h1⟩ := z_lt h1
    obtain ⟨-, h1⟩ := z_gd h1
    obtain ⟨o10, g10, h1⟩ := z_lt h1
    rw [ivzz] at g6 g8 g10
    have q4zz := q4zz (by omega)
    unfold bk_X9_readLaw_54 at q4zz
    obtain ⟨zm, ezm, q4zz⟩ := z_bd q4zz
    have ezm := mu_ok hX.2.1 (by decide) ezm
    obtain ⟨hX4, f6zz, f9zz⟩ := hX.step ez4 ezm
    obtain ⟨x2zz, gx2, q4zz⟩ := z_lt (z_t q4zz hX4.2.1)
    have k21 : gI zm 21 = gI o 21 := f9zz.1 21 (by decide) (by decide) (by decide)
    have tx2 : x2zz.toInt = 8 * (n : Int) := by rw [gx2, k21]; exact i32_mul (by decide) e21zz (by omega) (by omega)
    obtain ⟨o7, w7zz, c21, c0zz, c3zz, q4zz⟩ := clr_L tx2 hn zfu 0 zm 0 (by decide) (by decide) q4zz
    have k8zz : gI o10 8 = gI oc 8 := by rw [g10, g8, g6]; rfl
    have hX7 : XS false z4 o10 o7 k1zz k2zz := hX4.rw' w7zz (by decide) k8zz
    have hmid : (zzz.1 = 0 ∧ ∃ wzz, bk_X9_readLaw_135 x2zz wzz = some yzz ∧ gI wzz 19 = 1 ∧ gI wzz 18 = gI zzz.2.1 3 ∧ gA wzz 3 = gA o7 3) ∨ (∃ (rd' oc' o' : Ob) (k1' k2' : Nat), bk_X6_readClause_94 12 400 v1zz rd' oc' = some zzz ∧ bk_X9_readLaw_135 x2zz o' = some yzz ∧ XS false rd' oc' o' k1' k2' ∧ RF o7 o' ∧ CF z4 o10 rd' oc' ∧ (∀ jzz, jzz < k1zz → gA oc' 5 jzz = gA o10 5 jzz ∧ gA oc' 6 jzz = gA o10 6 jzz) ∧ ckp k2zz o7 o' ∧ ((z1 = 3 ∧ k1' = k1zz ∧ k2' = k2zz) ∨ (¬ z1 = 3 ∧ ∃ mzz, mzz ≤ 50 ∧ Sx false (gA oc' 5) (gA oc' 6) (gA o' 24) (gA o' 25) false k1zz k1' k2zz k2' mzz))) := by
      by_cases czz : z1 = 3
      · exact Or.inr ⟨z4, o10, o7, k1zz, k2zz, z_t h1 czz, z_t q4zz czz, hX7, RF.rf, CF.rf, fun _ _ => ⟨rfl, rfl⟩, ckp.rf, Or.inl ⟨czz, rfl, rfl⟩⟩
      · obtain ⟨z26, ez26, h1⟩ := z_bd (z_f h1 czz)
        obtain ⟨z17, ez17, q4zz⟩ := z_bd (z_f q4zz czz)
        rcases x_sum hX7 ez26 ez17 with gb | ⟨e1zz, k1', k2', mzz, x1zz, x2', x3, x4zz, x5zz, x6, x7⟩
        · have h1 := Option.some.inj (z_t h1 gb.1)
          exact Or.inl ⟨by rw [← h1], z17, q4zz, gb.2.1, by rw [← h1]; exact gb.2.2.1, gb.2.2.2.1.2.1 3 (by decide) (by decide) (by decide) (by decide)⟩
        · exact Or.inr ⟨z26.2.1, z26.2.2, z17, k1', k2', z_f h1 (by rw [e1zz]; decide), q4zz, x1zz, x2', x3, x4zz, x5zz, Or.inr ⟨czz, mzz, x6, x7⟩⟩
    have G7 : gA o7 3 = Gzz := (w7zz.2.2.1 3 (by decide)).trans ((f9zz.gA 3).trans hG)
    rcases hmid with ⟨e0zz, wzz, b1, b2, b3, b4⟩ | ⟨rd', oc', o', k1', k2', h1, q4zz, hX', r1zz, cf1zz, cd1, ck1, hsum⟩
    · have qzz := bad135 b2 b1
      exact Or.inl ⟨e0zz, qzz.1, qzz.2.1.trans b3, qzz.2.2.trans (b4.trans G7)⟩
    · unfold bk_X6_readClause_94 at h1
      obtain ⟨-, h1⟩ := z_gd h1
      obtain ⟨o12, g12, h1⟩ := z_lt h1
      have h1 := z_f h1 (hX'.2.2.2.2.2.2.2.2.2.1 rfl).1
      unfold bk_X9_readLaw_135 at q4zz
      obtain ⟨-, q4zz⟩ := z_gd q4zz
      obtain ⟨o9, g9, q4zz⟩ := z_lt q4zz
      obtain ⟨-, q4zz⟩ := z_gd q4zz
      obtain ⟨o11, g11, q4zz⟩ := z_lt q4zz
      rw [ix8 (kzz := 4) tx2 hn (by decide) (by decide)] at g9
      rw [ix8 (kzz := 5) tx2 hn (by decide) (by decide)] at g11
      rw [ivzz] at g12
      have y9 : RW 22 (8 * n) o' o9 := by rw [g9]; exact RW.tA ⟨by omega, by omega⟩
      have y11 : RW 22 (8 * n) o9 o11 := by rw [g11]; exact RW.tA ⟨by omega, by omega⟩
      have hX11 : XS false rd' o12 o11 k1' k2' := hX'.rw' (y9.tr y11) (by decide) (by rw [g12]; rfl)
      have G11 : gA o11 3 = Gzz := ((y9.tr y11).2.2.1 3 (by decide)).trans ((r1zz.2.1 3 (by decide) (by decide) (by decide) (by decide)).trans G7)
      rcases ph_test (Kzz := bk_X9_readLaw_185 x2zz) hX11 h1 q4zz with ⟨e0zz, wzz, b1, b2, b3, b4⟩ | ⟨rd'', oc'', o'', k1'', k2'', h1, q4zz, hX'', r2, cf2, cd2, ck2, htst⟩
      · have qzz := bad185 b1
        exact Or.inl ⟨e0zz, qzz.1.trans b2, qzz.2.1.trans b3, qzz.2.2.trans (b4.trans G11)⟩
      · unfold bk_X6_readClause_200 at h1
        obtain ⟨-, h1⟩ := z_gd h1
        obtain ⟨o15, g15, h1⟩ := z_lt h1
        obtain ⟨o16, g16, h1⟩ := z_lt h1
        unfold bk_X9_readLaw_185 at q4zz
        obtain ⟨-, q4zz⟩ := z_gd q4zz
        obtain ⟨o13, g13, q4zz⟩ := z_lt q4zz
        rw [ivzz] at g15
        rw [ix8 (kzz := 6) tx2 hn (by decide) (by decide)] at g13
        rw [← Option.some.inj h1, ← Option.some.inj q4zz]
        refine Or.inr ⟨rfl, k1'', k2'', ?_⟩
        show ClS false Gzz rd'' o16 o13 k1'' k2'' (n + 1)
        have y13 : RW 22 (8 * n) o'' o13 := by rw [g13]; exact RW.tA ⟨by omega, by omega⟩
        have hXf : XS false rd'' o16 o13 k1'' k2'' := hX''.rw' y13 (by decide) (by rw [g16, g15]; rfl)
        have A16 : ∀ izz, gA o16 izz = gA o15 izz := fun izz => by rw [g16]; rfl
        have A2 : ∀ izz, izz < 5 → gA oc'' izz = gA o12 izz := fun izz hizz => cf2.2.2.2 izz (by omega) (by omega)
        have A1 : ∀ izz, izz < 5 → gA oc' izz = gA o10 izz := fun izz hizz => cf1zz.2.2.2 izz (by omega) (by omega)
        have v8 : gI o8zz 8 = gI oc 8 := by rw [g8, g6]; rfl
        have AA : ∀ izz mzz, izz < 5 → gA o16 izz mzz = if izz = 4 ∧ mzz = n then gI oc'' 8 else if izz = 3 ∧ mzz = n then gI oc' 8 else if izz = 2 ∧ mzz = n then gI oc 8 else if izz = 1 ∧ mzz = n then 1 else if izz = 0 ∧ mzz = n then z1 else gA oc izz mzz := fun izz mzz hizz => by
          rw [A16 izz, g15, tA_gA, A2 izz hizz, g12, tA_gA, A1 izz hizz, g10, tA_gA, v8, g8, tA_gA, g6, tA_gA]
        have R'' : gA o'' 22 = gA o11 22 := r2.2.1 22 (by decide) (by decide) (by decide) (by decide)
        have R' : gA o' 22 = gA o7 22 := r1zz.2.1 22 (by decide) (by decide) (by decide) (by decide)
        have v9 : gI o9 23 = gI o' 23 := y9.1 23 (by decide)
        have BB : ∀ xzz, gA o13 22 xzz = if xzz = 8 * n + 6 then gI o'' 23 else if xzz = 8 * n + 5 then gI o' 23 else if xzz = 8 * n + 4 then gI o' 23 else gA o7 22 xzz := fun xzz => by rw [g13, upd_at, R'', g11, upd_at, v9, g9, upd_at, R']
        have l1 : k1zz ≤ k1' ∧ k2zz ≤ k2' := by
          rcases hsum with ⟨-, azz, bzz⟩ | ⟨-, mzz, -, s⟩
          · exact ⟨by omega, by omega⟩
          · have := s.lt; exact ⟨by omega, by omega⟩
        have l2 : k1' ≤ k1'' ∧ k2' ≤ k2'' := by
          rcases htst with ⟨azz, bzz⟩ | ⟨mzz, -, s⟩
          · exact ⟨by omega, by omega⟩
          · have := s.lt; exact ⟨by omega, by omega⟩
        have e16zz : ∀ izz, izz = 5 ∨ izz = 6 → gA o16 izz = gA oc'' izz := fun izz hizz => by rw [g16, g15]; rcases hizz with ezz | ezz <;> rw [ezz] <;> rfl
        have e12zz : ∀ izz, izz = 5 ∨ izz = 6 → gA o12 izz = gA oc' izz := fun izz hizz => by rw [g12]; rcases hizz with ezz | ezz <;> rw [ezz] <;> rfl
        have e10zz : ∀ izz, izz = 5 ∨ izz = 6 → gA o10 izz = gA oc izz := fun izz hizz => by rw [g10, g8, g6]; rcases hizz with ezz | ezz <;> rw [ezz] <;> rfl
        have m24 : ∀ izz, izz = 24 ∨ izz = 25 → gA o13 izz = gA o'' izz := fun izz hizz => y13.2.2.1 izz (by omega)
        have n24zz : ∀ izz, izz = 24 ∨ izz = 25 → gA o11 izz = gA o' izz := fun izz hizz => (y9.tr y11).2.2.1 izz (by omega)
        have p24 : ∀ izz, izz = 24 ∨ izz = 25 → gA o7 izz = gA o izz := fun izz hizz => (w7zz.2.2.1 izz (by omega)).trans (f9zz.gA izz)
        refine ⟨hXf, ?_, ?_, ?_, (y13.2.2.1 3 (by decide)).trans ((r2.2.1 3 (by decide) (by decide) (by decide) (by decide)).trans G11), fun mzz hmzz => ?_⟩
        · have uzz : gI o13 21 = gI o 21 + 1 := by
            rw [show gI o13 21 = gI o'' 21 by rw [g13]; rfl, r2.1 21 (by decide) (by decide) (by decide) (by decide) (by decide) (by decide) (by decide) (by decide) (by decide), show gI o11 21 = gI o' 21 by rw [g11, g9]; rfl, r1zz.1 21 (by decide) (by decide) (by decide) (by decide) (by decide) (by decide) (by decide) (by decide) (by decide), c21, k21]
          rw [uzz]; exact Eq.trans (i32_add e21zz (by decide : (1 : Int32).toInt = 1) (by omega) (by omega)) (by omega)
        · have uzz : gI o16 7 = v1zz + 1 := by rw [g16]; rfl
          rw [uzz]; exact Eq.trans (i32_add evzz (by decide : (1 : Int32).toInt = 1) (by omega) (by omega)) (by omega)
        · exact hH.eq (y13.2.2.2.1.trans (r2.2.2.trans ((y9.tr y11).2.2.2.1.trans (r1zz.2.2.trans (w7zz.2.2.2.1.trans (congrArg Prod.snd f9zz.2.2))))))
        · by_cases ezz : mzz = n
          · rw [ezz]
            have a0zz : gA o16 0 n = z1 := by rw [AA 0 n (by decide), if_neg (by omega), if_neg (by omega), if_neg (by omega), if_neg (by omega), if_pos ⟨rfl, rfl⟩]
            have a2 : gA o16 2 n = gI oc 8 := by rw [AA 2 n (by decide), if_neg (by omega), if_neg (by omega), if_pos ⟨rfl, rfl⟩]
            have a3 : gA o16 3 n = gI oc' 8 := by rw [AA 3 n (by decide), if_neg (by omega), if_pos ⟨rfl, rfl⟩]
            have a4 : gA o16 4 n = gI oc'' 8 := by rw [AA 4 n (by decide), if_pos ⟨rfl, rfl⟩]
            have b0 : gA o13 22 (8 * n) = z1 := by rw [BB, if_neg (by omega), if_neg (by omega), if_neg (by omega)]; exact c0zz
            have b3 : gA o13 22 (8 * n + 3) = gI zm 23 := by rw [BB, if_neg (by omega), if_neg (by omega), if_neg (by omega)]; exact c3zz
            have b4 : gA o13 22 (8 * n + 4) = gI o' 23 := by rw [BB, if_neg (by omega), if_neg (by omega), if_pos rfl]
            have b5 : gA o13 22 (8 * n + 5) = gI o' 23 := by rw [BB, if_neg (by omega), if_pos rfl]
            have b6 : gA o13 22 (8 * n + 6) = gI o'' 23 := by rw [BB, if_pos rfl]
            refine ⟨k1zz, k1', k1'', k2zz, k2', k2', k2'', ?_, ?_, ?_, ?_, ?_, ?_, ?_, ?_, ?_, ⟨l1.1, l2.1, Nat.le_refl _, l2.2, Nat.le_refl _⟩, ?_, ?_, fun qzz => by cases qzz⟩
            · show gA o16 0 n = gA o13 22 (8 * n); rw [a0zz, b0]
            · rw [a0zz]; exact q1zz
            · rw [a2]; exact hX.2.2.2.2.1
            · rw [a3]; exact hX'.2.2.2.2.1
            · rw [a4]; exact hX''.2.2.2.2.1
            · show (gA o13 22 (8 * n + 3)).toInt = _; rw [b3]; exact hX4.2.2.2.2.2.1
            · show (gA o13 22 (8 * n + 4)).toInt = _; rw [b4]; exact hX'.2.2.2.2.2.1
            · show (gA o13 22 (8 * n + 5)).toInt = _; rw [b5]; exact hX'.2.2.2.2.2.1
            · show (gA o13 22 (8 * n + 6)).toInt = _; rw [b6]; exact hX''.2.2.2.2.2.1
            · rw [a0zz]
              rcases hsum with ⟨azz, bzz, czz⟩ | ⟨azz, m', bzz, czz⟩
              · exact Or.inl ⟨azz, bzz.symm, czz.symm⟩
              · refine Or.inr ⟨azz, m', bzz, l2.2, czz.eq (fun jzz i1zz i2zz => ?_) (fun jzz i1zz i2zz => ?_)⟩
                · rw [e16zz 5 (Or.inl rfl), e16zz 6 (Or.inr rfl), (cd2 jzz i2zz).1, (cd2 jzz i2zz).2, e12zz 5 (Or.inl rfl), e12zz 6 (Or.inr rfl)]; exact ⟨rfl, rfl⟩
                · rw [m24 24 (Or.inl rfl), m24 25 (Or.inr rfl), (ck2 jzz i2zz).1, (ck2 jzz i2zz).2, n24zz 24 (Or.inl rfl), n24zz 25 (Or.inr rfl)]; exact ⟨rfl, rfl⟩
            · rcases htst with ⟨azz, bzz⟩ | ⟨m', azz, bzz⟩
              · exact Or.inl ⟨azz.symm, bzz.symm⟩
              · refine Or.inr ⟨m', azz, bzz.eq (fun jzz i1zz i2zz => ?_) (fun jzz i1zz i2zz => ?_)⟩
                · rw [e16zz 5 (Or.inl rfl), e16zz 6 (Or.inr rfl)]; exact ⟨rfl, rfl⟩
                · rw [m24 24 (Or.inl rfl), m24 25 (Or.inr rfl)]; exact ⟨rfl, rfl⟩
          · have hmn : mzz < n := by omega
            refine (hcl mzz hmn).mv (fun izz hizz => ?_) (fun jzz hj => ?_) (fun izz hizz => ?_) (fun jzz hj => ?_) (by omega) (by omega)
            · rw [AA izz mzz hizz, if_neg (fun qzz => ezz qzz.2), if_neg (fun qzz => ezz qzz.2), if_neg (fun qzz => ezz qzz.2), if_neg (fun qzz => ezz qzz.2), if_neg (fun qzz => ezz qzz.2)]
            · rw [e16zz 5 (Or.inl rfl), e16zz 6 (Or.inr rfl), (cd2 jzz (by omega)).1, (cd2 jzz (by omega)).2, e12zz 5 (Or.inl rfl), e12zz 6 (Or.inr rfl), (cd1 jzz hj).1, (cd1 jzz hj).2, e10zz 5 (Or.inl rfl), e10zz 6 (Or.inr rfl)]; exact ⟨rfl, rfl⟩
            · show gA o13 22 (8 * mzz + izz) = gA o 22 (8 * mzz + izz)
              rw [BB, if_neg (by omega), if_neg (by omega), if_neg (by omega), w7zz.2.2.2.2 (8 * mzz + izz) (Or.inl (by omega)), f9zz.gA 22]
            · rw [m24 24 (Or.inl rfl), m24 25 (Or.inr rfl), (ck2 jzz (by omega)).1, (ck2 jzz (by omega)).2, n24zz 24 (Or.inl rfl), n24zz 25 (Or.inr rfl), (ck1 jzz hj).1, (ck1 jzz hj).2, p24 24 (Or.inl rfl), p24 25 (Or.inr rfl)]; exact ⟨rfl, rfl⟩
def dTx : DD := ([14, 15, 16, 18, 19, 20, 21, 23, 26, 29, 30], [17], [22, 24, 25, 27, 28, 55], [], [])
def TxO (od : Bool) (Gzz : Nat → Int32) (o0zz : Ob) (zzz : Int32 × Ob × Ob) (Kzz : Ob → Option (Int32 × Ob)) (yzz : Int32 × Ob) : Prop := ∃ wzz : Ob, Kzz wzz = some yzz ∧ (gA wzz 3 = Gzz ∧ FrX dTx o0zz wzz) ∧ ((zzz.1 = 0 ∧ ((gI wzz 19 = 1 ∧ gI wzz 18 = gI zzz.2.1 3) ∨ (gI wzz 19 = 0 ∧ ¬ gI wzz 16 = 0 ∧ gI wzz 14 = gI zzz.2.1 3))) ∨ (zzz.1 = 1 ∧ gI wzz 19 = 0 ∧ gI wzz 16 = 0 ∧ ∃ k1zz k2zz n : Nat, 1 ≤ n ∧ n ≤ 12 ∧ ClS od Gzz zzz.2.1 zzz.2.2 wzz k1zz k2zz n))
def TbW (o : Ob) : Prop := (∀ kzz, kzz < 9 → (gM o 31 kzz).toInt = codR (tx7.getD kzz [])) ∧ (∀ kzz, kzz < 7 → (gM o 32 kzz).toInt = codR (tx8.getD kzz []))
set_option maxHeartbeats 200000 in
theorem text_L {yzz : Int32 × Ob} {zzz : Int32 × Ob × Ob} {Gzz : Nat → Int32} {o0zz : Ob} : ∀ (N1 N2 : Nat) (v2 : Int32) (rd oc o z3 : Ob) (k1zz k2zz n : Nat), FrX dTx o0zz o → ClS false Gzz rd oc o k1zz k2zz n → n ≤ 12 → v2.toInt = (n : Int) → lp_X6_readText_33 12 400 N1 (v2, rd, oc) = some zzz → f_X9_readLaw o = some z3 → lp_X9_law_37 N2 z3 = some yzz → TxO false Gzz o0zz zzz bk_X9_law_64 yzz := by
  intro N1
  induction N1 with
  | zero => intro N2 v2 rd oc o z3 k1zz k2zz n _ _ _ _ hzz; cases hzz
  | succ N1 ihzz =>
    intro N2 v2 rd oc o z3 k1zz k2zz n hF hC hn evzz h1 hr hy
    have hF3 : FrX dTx o0zz z3 := hF.tr ((fr_f_X9_readLaw hr).mono rfl)
    cases N2 with
    | zero => cases hy
    | succ N2 =>
    have h1 : lb_X6_readText_33 12 400 (lp_X6_readText_33 12 400 N1) v2 rd oc = some zzz := h1
    have hy : lb_X9_law_37 (lp_X9_law_37 N2) z3 = some yzz := hy
    unfold lb_X6_readText_33 at h1
    unfold lb_X9_law_37 at hy
    have hTzz := hC.1.1
    by_cases czz : (12 : Int32) ≤ v2
    · have d := cv_le (a := 12) (b := (n : Int)) (by decide) evzz czz
      obtain ⟨zs, ezs, h1⟩ := z_bd (z_t h1 czz)
      obtain ⟨-, h1⟩ := z_gd h1
      obtain ⟨s1zz, s2zz⟩ := stop8 ezs
      have qzz := too_manyL hTzz hC.1.2.1 hC.2.2.2.1.1 (by rw [hC.2.1]; omega) hr
      refine ⟨z3, z_f hy (by rw [qzz.1]; decide), ⟨qzz.2.2.trans hC.2.2.2.2.1, hF3⟩, Or.inl ⟨by rw [← Option.some.inj h1]; exact s1zz, Or.inl ⟨qzz.1, ?_⟩⟩⟩
      rw [← Option.some.inj h1]
      show gI z3 18 = gI zs.2 3
      rw [qzz.2.1, s2zz]
      show gI o 14 = gI rd 7
      exact hTzz.2.2.1.symm
    · have d := cv_nle (a := 12) (b := (n : Int)) (by decide) evzz czz
      obtain ⟨z10, ez10, h1⟩ := z_bd (z_f h1 czz)
      rcases clause_L hC (by omega) evzz ez10 hr with ⟨a1zz, a2, a3, a4⟩ | ⟨a1zz, k1', k2', hC'⟩
      · have h1 := Option.some.inj (z_t h1 a1zz)
        exact ⟨z3, z_f hy (by rw [a2]; decide), ⟨a4, hF3⟩, Or.inl ⟨by rw [← h1], Or.inl ⟨a2, by rw [← h1]; exact a3⟩⟩⟩
      · have h1 := z_f h1 (by rw [a1zz]; decide)
        have hT' := hC'.1.1
        obtain ⟨zi, ezi, hy⟩ := z_bd (z_t hy hC'.1.2.1)
        by_cases c6zz : gI z10.2.1 6 = 0
        · have h1 := Option.some.inj (z_t h1 c6zz)
          have k16 : gI z3 16 = 0 := hT'.2.1.symm.trans c6zz
          have hizz : zi = 0 := by
            rcases s9 hT' ezi with ⟨uzz, -⟩ | ⟨-, uzz⟩
            · exact uzz
            · exact absurd (k16.symm.trans uzz.1) (by decide)
          refine ⟨z3, z_t hy hizz, ⟨hC'.2.2.2.2.1, hF3⟩, Or.inr ⟨by rw [← h1], hC'.1.2.1, k16, k1', k2', n + 1, by omega, by omega, ?_⟩⟩
          rw [← h1]; exact hC'
        · obtain ⟨z11, ez11, h1⟩ := z_bd (z_f h1 c6zz)
          rcases s8 hT' ez11 with ⟨u1zz, u2zz⟩ | ⟨u1zz, u2zz⟩ <;> rcases s9 hT' ezi with ⟨w1zz, w2zz⟩ | ⟨w1zz, w2zz⟩
          · obtain ⟨zs, ezs, h1⟩ := z_bd (z_t h1 u1zz)
            obtain ⟨-, h1⟩ := z_gd h1
            obtain ⟨s1zz, s2zz⟩ := stop8 ezs
            refine ⟨z3, z_t hy w1zz, ⟨hC'.2.2.2.2.1, hF3⟩, Or.inl ⟨by rw [← Option.some.inj h1]; exact s1zz, Or.inr ⟨hC'.1.2.1, fun qzz => c6zz (hT'.2.1.trans qzz), ?_⟩⟩⟩
            rw [← Option.some.inj h1]
            show gI z3 14 = gI zs.2 3
            rw [s2zz]
            show gI z3 14 = gI z10.2.1 7
            exact hT'.2.2.1.symm
          · exact absurd w2zz u2zz
          · exact absurd u2zz w2zz
          · obtain ⟨z12, ez12, h1⟩ := z_bd (z_f h1 u1zz)
            obtain ⟨x13, g13, h1⟩ := z_lt h1
            obtain ⟨z23, ez23, hy⟩ := z_bd (z_f hy w1zz)
            obtain ⟨z24, ez24, hy⟩ := z_bd hy
            obtain ⟨hX, f6zz, f9zz⟩ := hC'.1.step ez12 ez23
            have t13 : x13.toInt = ((n + 1 : Nat) : Int) := by rw [g13]; exact Eq.trans (i32_add evzz (by decide : (1 : Int32).toInt = 1) (by omega) (by omega)) (by omega)
            refine ihzz N2 x13 z12 z10.2.2 z23 z24 k1' k2' (n + 1) (hF3.tr ((fr_f_X9_next ez23).mono rfl)) ⟨hX, ?_, hC'.2.2.1, hC'.2.2.2.1.eq (congrArg Prod.snd f9zz.2.2), (f9zz.gA 3).trans hC'.2.2.2.2.1, fun mzz hmzz => ?_⟩ (by omega) t13 h1 ez24 hy
            · rw [f9zz.1 21 (by decide) (by decide) (by decide)]; exact hC'.2.1
            · have qzz := hC'.2.2.2.2.2 mzz hmzz
              rw [f9zz.gA (rwF false), f9zz.gA 24, f9zz.gA 25]; exact qzz
set_option maxHeartbeats 200000 in
theorem parse_L {rd oc o z2 z3 : Ob} {yzz : Int32 × Ob} {zzz : Int32 × Ob × Ob} {Nzz : Nat} (hz : TZ rd o) (ht : TbW o) (hH : HDs o) (h1 : f_X6_readText 12 400 rd oc 1 = some zzz) (h2 : f_X9_beginText o 0 = some z2) (hr : f_X9_readLaw z2 = some z3) (hy : lp_X9_law_37 Nzz z3 = some yzz) : TxO false (gA o 3) o zzz bk_X9_law_64 yzz := by
  have hF0 : FrX dTx o z2 := (fr_f_X9_beginText h2).mono rfl
  unfold f_X6_readText at h1
  obtain ⟨-, h1⟩ := z_gd h1
  obtain ⟨o2, g2, h1⟩ := z_lt h1
  obtain ⟨c3zz, ez3, h1⟩ := z_bd h1
  obtain ⟨o4zz, g4, h1⟩ := z_lt h1
  obtain ⟨o5zz, g5zz, h1⟩ := z_lt h1
  obtain ⟨o6, g6, h1⟩ := z_lt h1
  obtain ⟨z7, ez7, h1⟩ := z_bd h1
  unfold f_X0_clear at ez3
  obtain ⟨c1zz, gc1, ez3⟩ := z_lt ez3
  obtain ⟨c2zz, gc2, ez3⟩ := z_lt ez3
  have ez3 := Option.some.inj ez3
  unfold f_X9_beginText at h2
  obtain ⟨-, h2⟩ := z_gd h2
  obtain ⟨p2zz, gp2, h2⟩ := z_lt h2
  obtain ⟨p3zz, ep3, h2⟩ := z_bd h2
  obtain ⟨p4zz, gp4, h2⟩ := z_lt h2
  obtain ⟨p5zz, gp5, h2⟩ := z_lt h2
  obtain ⟨p6zz, gp6, h2⟩ := z_lt h2
  have h2 := Option.some.inj h2
  unfold f_X9_begin at ep3
  obtain ⟨b1, gb1, ep3⟩ := z_lt ep3
  obtain ⟨b2, gb2, ep3⟩ := z_lt ep3
  obtain ⟨b3, gb3, ep3⟩ := z_lt ep3
  obtain ⟨b4, eb4, ep3⟩ := z_bd ep3
  have ep3 := Option.some.inj ep3
  have z0 : (0 : Int32).toInt = 0 := by decide
  have r13 : gI b3 13 = gI o 13 := by rw [gb3, gb2, gb1, gp2]; rfl
  have r15 : gI b3 15 = 0 := by rw [gb3, gb2, gb1]; rfl
  have hz6 : TZ o6 b3 := by
    refine ⟨?_, ?_, by rw [r13]; exact hz.2.2.1, by rw [r13]; exact hz.2.2.2⟩
    · rw [r13, g6, g5zz, g4, g2]; exact hz.1
    · have uzz : gA b3 12 = gA o 12 := by rw [gb3, gb2, gb1, gp2]; rfl
      rw [uzz, g6, g5zz, g4, g2]; exact hz.2.1
  obtain ⟨T1, T2, T3, T4⟩ := tk_eq hz6 (by rw [r15, g6]; rfl) (by rw [r15, z0]; exact Int.le_refl _) (by rw [r15, r13, z0]; exact hz.2.2.1) ez7 eb4
  have eo : z2 = sI (sI (sI b4 21 0) 23 0) 26 0 := by rw [← h2, gp6, gp5, gp4, ep3]
  have ek : gI c3zz 8 = 0 := by rw [← ez3, gc2]; rfl
  have ek7 : gI c3zz 7 = 0 := by rw [← ez3, gc2, gc1]; rfl
  have em : z2.2.2.2 = o.2.2.2 := by
    have uzz : z2.2.2.2 = b4.2.2.2 := by rw [eo]; rfl
    have u2zz : b3.2.2.2 = o.2.2.2 := by rw [gb3, gb2, gb1, gp2]; rfl
    exact uzz.trans ((congrArg Prod.snd T3.2.2).trans u2zz)
  have eMzz : ∀ izz, gM z2 izz = gM o izz := fun izz => congrFun (congrArg Prod.fst em) izz
  have hT2 : TT z7 z2 := T1.cg rfl rfl rfl rfl rfl rfl (by rw [eo]; rfl) (by rw [eo]; rfl) (by rw [eo]; rfl) (by rw [eo]; rfl) (by rw [eo]; rfl) (by rw [eo]; rfl)
  obtain ⟨azz, bzz, ea, -⟩ := hT2.2.2.2.2
  have k4zz : gI z7 4 = 1 := by rw [T2.1 4 (by decide) (by decide) (by decide) (by decide), g6, g5zz, g4, g2]; rfl
  have k20 : gI z2 20 = 0 := by
    have uzz : gI z2 20 = gI b4 20 := by rw [eo]; rfl
    rw [uzz, T3.1 20 (by decide) (by decide) (by decide), gb3, gb2, gb1, gp2]; rfl
  have hX : XS false z7 c3zz z2 0 0 := by
    refine ⟨hT2, ?_, ?_, ?_, by rw [ek]; decide, ?_, by omega, by decide, ⟨fun qzz => ?_, fun qzz => ?_, fun kzz hk => by rw [eMzz 31]; exact ht.1 kzz hk, fun kzz hk => by rw [eMzz 32]; exact ht.2 kzz hk⟩⟩
    · have uzz : gI z2 19 = gI b4 19 := by rw [eo]; rfl
      rw [uzz, T3.1 19 (by decide) (by decide) (by decide), gb3, gb2]; rfl
    · rw [T2.1 5 (by decide) (by decide) (by decide) (by decide), eo, g6, g5zz, g4]; rfl
    · have uzz : gI z2 26 = 0 := by rw [eo]; rfl
      rw [uzz]; decide
    · have uzz : gI z2 23 = 0 := by rw [eo]; rfl
      rw [uzz]; decide
    · cases qzz
    · exact ⟨by rw [k4zz]; decide, k20⟩
  have k21 : gI z2 21 = 0 := by rw [eo]; rfl
  have e3zz : gA z2 3 = gA o 3 := by
    have uzz : gA z2 3 = gA b4 3 := by rw [eo]; rfl
    have u2zz : gA b3 3 = gA o 3 := by rw [gb3, gb2, gb1, gp2]; rfl
    exact uzz.trans ((T3.gA 3).trans u2zz)
  exact text_L zfu Nzz 0 z7 c3zz z2 z3 0 0 0 hF0 ⟨hX, by rw [k21]; decide, by rw [ek7]; decide, hH.eq em, e3zz, fun mzz hmzz => absurd hmzz (Nat.not_lt_zero _)⟩ (by decide) (by decide) h1 hr hy
set_option maxHeartbeats 200000 in
theorem clr_O {yzz : Ob} {v1zz v2 : Int32} {n : Nat} (e2zz : v2.toInt = 8 * (n : Int)) (hn : n < 12) : ∀ (Nzz : Nat) (v3 : Int32) (o : Ob) (izz : Nat), v3.toInt = (izz : Int) → izz ≤ 8 → (∀ kzz, kzz < izz → gA o 55 (8 * n + kzz) = 0) → lp_X9_readOrder_85 Nzz (v1zz, v2, v3, o) = some yzz →
    ∃ o5zz : Ob, RW 55 (8 * n) o o5zz ∧ gI o5zz 21 = gI o 21 ∧ gA o5zz 55 (8 * n) = v1zz ∧ (∀ kzz, 1 ≤ kzz → kzz < 8 → gA o5zz 55 (8 * n + kzz) = 0) ∧ (if v1zz = (3 : Int32) then (bk_X9_readOrder_125 v2 o5zz) else ((f_X9_readSum o5zz (v2 + (1 : Int32))).bind fun z20 => bk_X9_readOrder_125 v2 z20)) = some yzz := by
  intro Nzz
  induction Nzz with
  | zero => intro v3 o izz _ _ _ hzz; cases hzz
  | succ Nzz ihzz =>
    intro v3 o izz e3zz hizz hk hz
    have hz : lb_X9_readOrder_85 (lp_X9_readOrder_85 Nzz) v1zz v2 v3 o = some yzz := hz
    unfold lb_X9_readOrder_85 at hz
    have i0zz : v2.toNatClampNeg = 8 * n := tnc_eq (by omega)
    by_cases czz : (8 : Int32) ≤ v3
    · have d := cv_le (a := 8) (b := (izz : Int)) (by decide) e3zz czz
      obtain ⟨-, hz⟩ := z_gd (z_t hz czz)
      obtain ⟨o5zz, g5zz, hz⟩ := z_lt hz
      rw [i0zz] at g5zz
      refine ⟨o5zz, by rw [g5zz]; exact RW.tA ⟨by omega, by omega⟩, by rw [g5zz]; rfl, by rw [g5zz, upd_at, if_pos rfl], fun kzz h1 h2 => ?_, hz⟩
      rw [g5zz, upd_at, if_neg (by omega)]; exact hk kzz (by omega)
    · have d := cv_nle (a := 8) (b := (izz : Int)) (by decide) e3zz czz
      obtain ⟨-, hz⟩ := z_gd (z_f hz czz)
      obtain ⟨o19, g19, hz⟩ := z_lt hz
      obtain ⟨x20, gx, hz⟩ := z_lt hz
      have t3zz : (v2 + v3).toInt = 8 * (n : Int) + (izz : Int) := i32_add e2zz e3zz (by omega) (by omega)
      have i3zz : (v2 + v3).toNatClampNeg = 8 * n + izz := tnc_eq (by omega)
      have tx : x20.toInt = (izz : Int) + 1 := by rw [gx]; exact i32_add e3zz (by decide) (by omega) (by omega)
      rw [i3zz] at g19
      have w19 : RW 55 (8 * n) o o19 := by rw [g19]; exact RW.tA ⟨by omega, by omega⟩
      have hk' : ∀ kzz, kzz < izz + 1 → gA o19 55 (8 * n + kzz) = 0 := fun kzz hzz => by
        rw [g19, upd_at]
        by_cases qzz : kzz = izz
        · rw [if_pos (by omega)]
        · rw [if_neg (by omega)]; exact hk kzz (by omega)
      obtain ⟨o5zz, q1zz, q2zz, q3zz, q4zz, q5zz⟩ := ihzz x20 o19 (izz + 1) (by omega) (by omega) hk' hz
      have uzz : gI o19 21 = gI o 21 := by rw [g19]; rfl
      exact ⟨o5zz, w19.tr q1zz, by rw [q2zz, uzz], q3zz, q4zz, q5zz⟩
set_option maxHeartbeats 200000 in
theorem bad211 {v2 : Int32} {wzz yzz : Ob} (hzz : bk_X9_readOrder_211 v2 wzz = some yzz) : gI yzz 19 = gI wzz 19 ∧ gI yzz 18 = gI wzz 18 ∧ gA yzz 3 = gA wzz 3 := by
  unfold bk_X9_readOrder_211 at hzz
  obtain ⟨-, hzz⟩ := z_gd hzz
  obtain ⟨o13, gzz, hzz⟩ := z_lt hzz
  rw [← Option.some.inj hzz, gzz]
  exact ⟨rfl, rfl, rfl⟩
set_option maxHeartbeats 200000 in
theorem bad173 {v2 : Int32} {wzz yzz : Ob} (h19 : gI wzz 19 = 1) (hzz : bk_X9_readOrder_173 v2 wzz = some yzz) : gI yzz 19 = 1 ∧ gI yzz 18 = gI wzz 18 ∧ gA yzz 3 = gA wzz 3 := by
  unfold bk_X9_readOrder_173 at hzz
  obtain ⟨-, hzz⟩ := z_gd hzz
  obtain ⟨o9, g9, hzz⟩ := z_lt hzz
  have e19zz : gI o9 19 = 1 := by rw [g9]; exact h19
  have e18zz : gI o9 18 = gI wzz 18 := by rw [g9]; rfl
  have qzz := bad211 (z_f hzz (by rw [e19zz]; decide))
  exact ⟨qzz.1.trans e19zz, qzz.2.1.trans e18zz, qzz.2.2.trans (by rw [g9]; rfl)⟩
set_option maxHeartbeats 200000 in
theorem bad125 {v2 : Int32} {wzz yzz : Ob} (h19 : gI wzz 19 = 1) (hzz : bk_X9_readOrder_125 v2 wzz = some yzz) : gI yzz 19 = 1 ∧ gI yzz 18 = gI wzz 18 ∧ gA yzz 3 = gA wzz 3 := by
  unfold bk_X9_readOrder_125 at hzz
  obtain ⟨-, hzz⟩ := z_gd hzz
  obtain ⟨o7, g7, hzz⟩ := z_lt hzz
  have e19zz : gI o7 19 = 1 := by rw [g7]; exact h19
  have e18zz : gI o7 18 = gI wzz 18 := by rw [g7]; rfl
  have qzz := bad173 e19zz (z_f hzz (by rw [e19zz]; decide))
  exact ⟨qzz.1, qzz.2.1.trans e18zz, qzz.2.2.trans (by rw [g7]; rfl)⟩
set_option maxHeartbeats 200000 in
theorem ph_times {rd oc o yzz : Ob} {k1zz k2zz n : Nat} {v1zz x2zz : Int32} {zzz : Int32 × Ob × Ob} (hzz : XS true rd oc o k1zz k2zz) (hn : n < 12) (ivzz : v1zz.toNatClampNeg = n) (tx2 : x2zz.toInt = 8 * (n : Int)) (ho : gA oc 1 n = 1)
    (h1 : ((f_X6_isWord rd 2).bind fun z19 => if z19 = (0 : Int32) then (bk_X6_readClause_177 12 400 v1zz rd oc) else ((f_X6_step rd).bind fun z20 => if (gI z20 6) = (2 : Int32) then (if (gI z20 9) < (1 : Int32) then (bk_X6_readClause_155 12 400 z20 oc) else (if (gI z20 9) ≤ (20 : Int32) then (zgd (zin v1zz 12) <| zlt (tA oc 1 v1zz.toNatClampNeg (gI z20 9)) fun o24 => (f_X6_step z20).bind fun z25 => bk_X6_readClause_177 12 400 v1zz z25 o24) else (bk_X6_readClause_155 12 400 z20 oc))) else (bk_X6_readClause_155 12 400 z20 oc))) = some zzz)
    (h2 : bk_X9_readOrder_125 x2zz o = some yzz) :
    (zzz.1 = 0 ∧ ∃ wzz, bk_X9_readOrder_173 x2zz wzz = some yzz ∧ gI wzz 19 = 1 ∧ gI wzz 18 = gI zzz.2.1 3 ∧ gA wzz 3 = gA o 3) ∨
    (∃ (rd' oc' o' : Ob), bk_X6_readClause_177 12 400 v1zz rd' oc' = some zzz ∧ bk_X9_readOrder_173 x2zz o' = some yzz ∧ XS true rd' oc' o' k1zz k2zz ∧ gI oc' 7 = gI oc 7 ∧ gI oc' 8 = gI oc 8 ∧ (∀ izz xzz, (izz ≠ 1 ∨ xzz ≠ n) → gA oc' izz xzz = gA oc izz xzz) ∧ gI o' 21 = gI o 21 ∧ o'.2.2.2 = o.2.2.2 ∧ (∀ izz, izz ≠ 55 → gA o' izz = gA o izz) ∧ (∀ xzz, xzz ≠ 8 * n + 7 → gA o' 55 xzz = gA o 55 xzz) ∧ gA oc' 1 n = gA o' 55 (8 * n + 7) ∧ 1 ≤ (gA oc' 1 n).toInt ∧ (gA oc' 1 n).toInt ≤ 20) := by
  unfold bk_X9_readOrder_125 at h2
  obtain ⟨-, h2⟩ := z_gd h2
  obtain ⟨o7, g7, h2⟩ := z_lt h2
  have i7zz := ix8 (czz := 7) (kzz := 7) tx2 hn (by decide) (by decide)
  rw [i7zz] at g7
  have y7 : RW 55 (8 * n) o o7 := by rw [g7]; exact RW.tA ⟨by omega, by omega⟩
  have hX7 : XS true rd oc o7 k1zz k2zz := hzz.rw' y7 (by decide) rfl
  have r7 : ∀ xzz, xzz ≠ 8 * n + 7 → gA o7 55 xzz = gA o 55 xzz := fun xzz hx => by rw [g7, upd_at, if_neg hx]
  have s7 : gA o7 55 (8 * n + 7) = 1 := by rw [g7, upd_at, if_pos rfl]
  have m7zz : gI o7 21 = gI o 21 := by rw [g7]; rfl
  obtain ⟨z15, ez15, h2⟩ := z_bd (z_t h2 hX7.2.1)
  obtain ⟨z19, ez19, h1⟩ := z_bd h1
  rcases iw8 (R := [19, 5, 13, 9, 20]) hX7.1 (by decide) tx2_ok ez19 with ⟨q1zz, q2zz⟩ | ⟨q1zz, q2zz⟩ <;> rcases w9 (R := [19, 5, 13, 9, 20]) hX7.1 (all_dig (by decide)) (by decide) (by decide) ez15 with ⟨u1zz, u2zz⟩ | ⟨u1zz, u2zz⟩
  · exact Or.inr ⟨rd, oc, o7, z_t h1 q1zz, z_t h2 u1zz, hX7, rfl, rfl, fun _ _ _ => rfl, m7zz, y7.2.2.2.1, fun izz hizz => y7.2.2.1 izz hizz, r7, by rw [ho, s7], by rw [ho]; decide, by rw [ho]; decide⟩
  · exact absurd u2zz q2zz
  · exact absurd q2zz u2zz
  · obtain ⟨z20, ez20, h1⟩ := z_bd (z_f h1 q1zz)
    obtain ⟨z16, ez16, h2⟩ := z_bd (z_f h2 u1zz)
    obtain ⟨z17, ez17, h2⟩ := z_bd h2
    obtain ⟨-, h2⟩ := z_gd h2
    obtain ⟨o19, g19, h2⟩ := z_lt h2
    rw [i7zz] at g19
    obtain ⟨hX, f6zz, f9zz⟩ := hX7.step ez20 ez16
    have hTzz := hX.1
    unfold f_X9_number at ez17
    obtain ⟨x1zz, gx1, ez17⟩ := z_lt ez17
    have hbad : bk_X6_readClause_155 12 400 z20 oc = some zzz → bk_X9_number_32 x1zz z16 = some z17 → (zzz.1 = 0 ∧ ∃ wzz, bk_X9_readOrder_173 x2zz wzz = some yzz ∧ gI wzz 19 = 1 ∧ gI wzz 18 = gI zzz.2.1 3 ∧ gA wzz 3 = gA o 3) := by
      intro k1zz k2zz
      unfold bk_X6_readClause_155 at k1zz
      obtain ⟨zs, ezs, k1zz⟩ := z_bd k1zz
      obtain ⟨-, k1zz⟩ := z_gd k1zz
      obtain ⟨s1zz, s2zz⟩ := stop8 ezs
      unfold bk_X9_number_32 bk_X9_number_33 at k2zz
      obtain ⟨zm, ezm, k2zz⟩ := z_bd k2zz
      have em := mu_no hX.2.1 ezm
      have e17zz : z17.2 = zm := by rw [← Option.some.inj k2zz]
      have e19zz : gI o19 19 = 1 := by rw [g19, e17zz, em]; rfl
      have e18zz : gI o19 18 = gI z16 14 := by rw [g19, e17zz, em]; rfl
      have e3zz : gA o19 3 = gA z16 3 := by rw [g19, e17zz, em]; rfl
      refine ⟨by rw [← Option.some.inj k1zz]; exact s1zz, o19, h2, e19zz, ?_, e3zz.trans ((f9zz.gA 3).trans (y7.2.2.1 3 (by decide)))⟩
      rw [e18zz, ← Option.some.inj k1zz]
      show gI z16 14 = gI zs.2 3
      rw [s2zz]
      show gI z16 14 = gI z20 7
      exact hTzz.2.2.1.symm
    obtain ⟨azz, bzz, ea, eb, hab, hbzz, hx⟩ := hTzz.2.2.2.2
    by_cases c2zz : gI z16 16 = 2
    · have nv : NV (gI z20 9) (gL z16 17) := by
        rcases hx with ⟨uzz, -⟩ | ⟨uzz, -⟩ | ⟨-, -, uzz⟩ | ⟨uzz, -⟩
        · exact absurd (uzz.symm.trans c2zz) (by decide)
        · exact absurd (uzz.symm.trans c2zz) (by decide)
        · exact uzz
        · exact absurd (uzz.symm.trans c2zz) (by decide)
      obtain ⟨n0zz, n1zz, n2zz⟩ := nv
      have h1 := z_t h1 (hTzz.2.1.trans c2zz)
      obtain ⟨z3, ez3, ez17⟩ := z_bd (z_t ez17 c2zz)
      have c1' : (1 : Int64).toInt = 1 := by decide
      have c20' : (20 : Int64).toInt = 20 := by decide
      rcases in_iff _ _ _ _ ez3 with ⟨i1zz, i2zz⟩ | ⟨i1zz, i2zz, i3zz⟩
      · refine Or.inl (hbad ?_ (z_t ez17 i1zz))
        rw [c1', c20'] at i2zz
        by_cases d1zz : gI z20 9 < (1 : Int32)
        · exact z_t h1 d1zz
        · have d1' := cv_nlt (a := (gI z20 9).toInt) (b := 1) rfl (by decide) d1zz
          refine z_f (z_f h1 d1zz) (fun czz => ?_)
          have czz := cv_le (a := (gI z20 9).toInt) (b := 20) rfl (by decide) czz
          rcases n2zz with ⟨n2zz, n3zz⟩ | ⟨n2zz, n3zz⟩
          · exact i2zz ⟨by omega, by omega⟩
          · omega
      · rw [c1'] at i2zz
        rw [c20'] at i3zz
        have n3zz : (gI z20 9).toInt = (gL z16 17).toInt := by
          rcases n2zz with ⟨n2zz, n3zz⟩ | ⟨n2zz, n3zz⟩
          · exact n3zz
          · omega
        have h1 := z_f h1 (fun czz => by have czz := cv_lt (a := (gI z20 9).toInt) (b := 1) rfl (by decide) czz; omega)
        have h1 := z_t h1 (Int32.le_iff_toInt_le.mpr (by have : (20 : Int32).toInt = 20 := (by decide); omega))
        obtain ⟨-, h1⟩ := z_gd h1
        obtain ⟨o24, g24, h1⟩ := z_lt h1
        obtain ⟨z25, ez25, h1⟩ := z_bd h1
        rw [ivzz] at g24
        have ez17 := z_f ez17 i1zz
        unfold bk_X9_number_33 at ez17
        obtain ⟨zm, ezm, ez17⟩ := z_bd ez17
        have ezm := mu_ok hX.2.1 (by decide) ezm
        have e17zz := Option.some.inj ez17
        obtain ⟨hX2, f6', f9'⟩ := hX.step ez25 ezm
        have evzz : x1zz = gI z20 9 := Int32.toInt_inj.mp (by rw [gx1, l32 (by omega) n1zz]; exact n3zz.symm)
        have g19' : o19 = tA zm 55 (8 * n + 7) (gI z20 9) := by rw [g19, ← e17zz, evzz]
        have y19 : RW 55 (8 * n) zm o19 := by rw [g19']; exact RW.tA ⟨by omega, by omega⟩
        have hX3 : XS true z25 o24 o19 k1zz k2zz := hX2.rw' y19 (by decide) (by rw [g24]; rfl)
        have a24 : gA o24 1 n = gI z20 9 := by rw [g24, upd_at, if_pos rfl]
        refine Or.inr ⟨z25, o24, o19, h1, h2, hX3, by rw [g24]; rfl, by rw [g24]; rfl, fun izz xzz hix => ?_, ?_, ?_, fun izz hizz => ?_, fun xzz hx' => ?_, ?_, by rw [a24]; omega, by rw [a24]; omega⟩
        · rw [g24, tA_gA, if_neg (fun qzz => by rcases hix with wzz | wzz; exact wzz qzz.1; exact wzz qzz.2)]
        · have w1zz : gI o19 21 = gI zm 21 := by rw [g19']; rfl
          rw [w1zz, f9'.1 21 (by decide) (by decide) (by decide), f9zz.1 21 (by decide) (by decide) (by decide), m7zz]
        · exact y19.2.2.2.1.trans ((congrArg Prod.snd f9'.2.2).trans ((congrArg Prod.snd f9zz.2.2).trans y7.2.2.2.1))
        · exact (y19.2.2.1 izz hizz).trans ((f9'.gA izz).trans ((f9zz.gA izz).trans (y7.2.2.1 izz hizz)))
        · rw [g19', upd_at, if_neg hx', f9'.gA 55, f9zz.gA 55]; exact r7 xzz hx'
        · rw [a24, g19', upd_at, if_pos rfl]
    · exact Or.inl (hbad (z_f h1 (fun qzz => c2zz (hTzz.2.1.symm.trans qzz))) (z_f ez17 c2zz))
set_option maxHeartbeats 200000 in
theorem clause_O {rd oc o yzz : Ob} {k1zz k2zz n : Nat} {v1zz : Int32} {zzz : Int32 × Ob × Ob} {Gzz : Nat → Int32} (hC : ClS true Gzz rd oc o k1zz k2zz n) (hn : n < 12) (evzz : v1zz.toInt = (n : Int)) (h1 : f_X6_readClause 12 400 rd oc v1zz = some zzz) (hy : f_X9_readOrder o = some yzz) : (zzz.1 = 0 ∧ gI yzz 19 = 1 ∧ gI yzz 18 = gI zzz.2.1 3 ∧ gA yzz 3 = Gzz) ∨ (zzz.1 = 1 ∧ ∃ k1' k2' : Nat, ClS true Gzz zzz.2.1 zzz.2.2 yzz k1' k2' (n + 1)) := by
  obtain ⟨hX, e21zz, e7zz, hH, hG, hcl⟩ := hC
  have hTzz := hX.1
  have hMzz := hX.2.2.2.2.2.2.2.2
  have ivzz : v1zz.toNatClampNeg = n := tnc_eq evzz
  unfold f_X6_readClause at h1
  have h1 := z_t h1 (hMzz.1 rfl).1
  unfold bk_X6_readClause_15 at h1
  obtain ⟨z1, ez1, h1⟩ := z_bd h1
  rcases head_eqO hTzz hH.2 ez1 hy with ⟨q1zz, q2zz⟩ | ⟨q1zz, q3zz, q4zz⟩
  · refine Or.inl ?_
    have h1 := z_t h1 q1zz
    unfold bk_X6_readClause_34 at h1
    obtain ⟨zs, ezs, h1⟩ := z_bd h1
    obtain ⟨-, h1⟩ := z_gd h1
    obtain ⟨s1zz, s2zz⟩ := stop8 ezs
    unfold bk_X9_readOrder_54 at q2zz
    obtain ⟨zm, ezm, q2zz⟩ := z_bd q2zz
    have em := mu_no hX.2.1 ezm
    have k19 : gI zm 19 = 1 := by rw [em]; rfl
    rw [← Option.some.inj (z_f q2zz (by rw [k19]; decide)), ← Option.some.inj h1]
    refine ⟨s1zz, k19, ?_, Eq.trans (by rw [em]; rfl) hG⟩
    show gI zm 18 = gI zs.2 3
    rw [s2zz, em]
    show gI o 14 = gI rd 7
    exact hTzz.2.2.1.symm
  · have h1 := z_f h1 (fun czz => by have czz := cv_eq (a := z1.toInt) (b := -1) rfl (by decide) czz; omega)
    have h1 := z_f h1 (fun czz => by have czz := cv_lt (a := (n : Int)) (b := 0) evzz (by decide) czz; omega)
    have h1 := z_t h1 (Int32.lt_iff_toInt_lt.mpr (by have : (12 : Int32).toInt = 12 := (by decide); omega))
    obtain ⟨z4, ez4, h1⟩ := z_bd h1
    obtain ⟨-, h1⟩ := z_gd h1
    obtain ⟨o6, g6, h1⟩ := z_lt h1
    obtain ⟨-, h1⟩ := z_gd h1
    obtain ⟨o8zz, g8, h1⟩ := z_lt h1
    obtain ⟨-, h1⟩ := z_gd h1
    obtain ⟨o10, g10, h1⟩ := z_lt h1
    rw [ivzz] at g6 g8 g10
    have q4zz := q4zz (by omega)
    unfold bk_X9_readOrder_54 at q4zz
    obtain ⟨zm, ezm, q4zz⟩ := z_bd q4zz
    have ezm := mu_ok hX.2.1 (by decide) ezm
    obtain ⟨hX4, f6zz, f9zz⟩ := hX.step ez4 ezm
    obtain ⟨x2zz, gx2, q4zz⟩ := z_lt (z_t q4zz hX4.2.1)
    obtain ⟨o3zz, g3zz, q4zz⟩ := z_lt q4zz
    have k21 : gI zm 21 = gI o 21 := f9zz.1 21 (by decide) (by decide) (by decide)
    have tx2 : x2zz.toInt = 8 * (n : Int) := by rw [gx2, k21]; exact i32_mul (by decide) e21zz (by omega) (by omega)
    have w3zz : RW 55 (8 * n) zm o3zz := by rw [g3zz]; exact RW.s21
    obtain ⟨o5zz, w5, c21, c0zz, c3zz, q4zz⟩ := clr_O tx2 hn zfu 0 o3zz 0 (by decide) (by decide) (fun kzz hk => absurd hk (Nat.not_lt_zero _)) q4zz
    have d21zz : gI o5zz 21 = gI o 21 + 1 := by rw [c21, g3zz]; show gI zm 21 + 1 = _; rw [k21]
    have w7zz := w3zz.tr w5
    have k8zz : gI o10 8 = gI oc 8 := by rw [g10, g8, g6]; rfl
    have hX7 : XS true z4 o10 o5zz k1zz k2zz := hX4.rw' w7zz (by decide) k8zz
    have hmid : (zzz.1 = 0 ∧ ∃ wzz, bk_X9_readOrder_125 x2zz wzz = some yzz ∧ gI wzz 19 = 1 ∧ gI wzz 18 = gI zzz.2.1 3 ∧ gA wzz 3 = gA o5zz 3) ∨ (∃ (rd' oc' o' : Ob) (k1' k2' a2 b2 : Nat), bk_X6_readClause_94 12 400 v1zz rd' oc' = some zzz ∧ bk_X9_readOrder_125 x2zz o' = some yzz ∧ XS true rd' oc' o' k1' k2' ∧ CF z4 o10 rd' oc' ∧ (∀ jzz, jzz < k1zz → gA oc' 5 jzz = gA o10 5 jzz ∧ gA oc' 6 jzz = gA o10 6 jzz) ∧ ckp k2zz o5zz o' ∧ gA o' 3 = gA o5zz 3 ∧ gI o' 21 = gI o5zz 21 ∧ o'.2.2.2 = o5zz.2.2.2 ∧ (∀ xzz, xzz ≤ 8 * n → gA o' 55 xzz = gA o5zz 55 xzz) ∧ (gA o' 55 (8 * n + 1)).toInt = (a2 : Int) ∧ (gA o' 55 (8 * n + 2)).toInt = (b2 : Int) ∧ ((z1 = 3 ∧ k1' = k1zz ∧ k2' = k2zz ∧ a2 = b2) ∨ (¬ z1 = 3 ∧ a2 = k2zz ∧ b2 = k2' ∧ ∃ mzz, mzz ≤ 50 ∧ Sx true (gA oc' 5) (gA oc' 6) (gA o' 24) (gA o' 25) false k1zz k1' k2zz k2' mzz))) := by
      by_cases czz : z1 = 3
      · exact Or.inr ⟨z4, o10, o5zz, k1zz, k2zz, 0, 0, z_t h1 czz, z_t q4zz czz, hX7, CF.rf, fun _ _ => ⟨rfl, rfl⟩, ckp.rf, rfl, rfl, rfl, fun _ _ => rfl, by rw [c3zz 1 (by decide) (by decide)]; decide, by rw [c3zz 2 (by decide) (by decide)]; decide, Or.inl ⟨czz, rfl, rfl, rfl⟩⟩
      · obtain ⟨z26, ez26, h1⟩ := z_bd (z_f h1 czz)
        obtain ⟨z17, ez17, q4zz⟩ := z_bd (z_f q4zz czz)
        unfold f_X9_readSum at ez17
        obtain ⟨-, ez17⟩ := z_gd ez17
        obtain ⟨s2zz, gs2, ez17⟩ := z_lt ez17
        rw [ix8 (czz := 1) (kzz := 1) tx2 hn (by decide) (by decide)] at gs2
        have ys2 : RW 55 (8 * n) o5zz s2zz := by rw [gs2]; exact RW.tA ⟨by omega, by omega⟩
        have hXs : XS true z4 o10 s2zz k1zz k2zz := hX7.rw' ys2 (by decide) rfl
        obtain ⟨z5, ez5, ez17⟩ := z_bd (z_t ez17 hXs.2.1)
        unfold bk_X9_readSum_22 at ez17
        obtain ⟨-, ez17⟩ := z_gd ez17
        obtain ⟨s4zz, gs4, ez17⟩ := z_lt ez17
        have i22 : ((x2zz + (1 : Int32)) + (1 : Int32)).toNatClampNeg = 8 * n + 2 := tnc_eq (by rw [i32_add (a := 8 * (n : Int) + 1) (b := 1) (i32_add tx2 (by decide) (by omega) (by omega)) (by decide) (by omega) (by omega)]; omega)
        rw [i22] at gs4
        have e17zz := Option.some.inj ez17
        rcases x_sum hXs ez26 ez5 with gb | ⟨e1zz, k1', k2', mzz, x1zz, x2', x3, x4zz, x5zz, x6, x7⟩
        · have h1 := Option.some.inj (z_t h1 gb.1)
          refine Or.inl ⟨by rw [← h1], z17, q4zz, ?_, ?_, ?_⟩
          · rw [← e17zz, gs4]; exact gb.2.1
          · rw [← e17zz, gs4, ← h1]; exact gb.2.2.1
          · have u3 : gA z17 3 = gA z5 3 := by rw [← e17zz, gs4]; rfl
            exact u3.trans ((gb.2.2.2.1.2.1 3 (by decide) (by decide) (by decide) (by decide)).trans (ys2.2.2.1 3 (by decide)))
        · have ys4 : RW 55 (8 * n) z5 s4zz := by rw [gs4]; exact RW.tA ⟨by omega, by omega⟩
          rw [← e17zz] at q4zz
          have R5 : gA z5 55 = gA s2zz 55 := x2'.2.1 55 (by decide) (by decide) (by decide) (by decide)
          refine Or.inr ⟨z26.2.1, z26.2.2, s4zz, k1', k2', k2zz, k2', z_f h1 (by rw [e1zz]; decide), q4zz, x1zz.rw' ys4 (by decide) rfl, x3, x4zz, fun jzz hj => ?_, (ys4.2.2.1 3 (by decide)).trans ((x2'.2.1 3 (by decide) (by decide) (by decide) (by decide)).trans (ys2.2.2.1 3 (by decide))), ?_, ?_, fun xzz hx => ?_, ?_, ?_, Or.inr ⟨czz, rfl, rfl, mzz, x6, ?_⟩⟩
          · rw [ys4.2.2.1 24 (by decide), ys4.2.2.1 25 (by decide), (x5zz jzz hj).1, (x5zz jzz hj).2, ys2.2.2.1 24 (by decide), ys2.2.2.1 25 (by decide)]; exact ⟨rfl, rfl⟩
          · have u1zz : gI s4zz 21 = gI z5 21 := by rw [gs4]; rfl
            have u2zz : gI s2zz 21 = gI o5zz 21 := by rw [gs2]; rfl
            rw [u1zz, x2'.1 21 (by decide) (by decide) (by decide) (by decide) (by decide) (by decide) (by decide) (by decide) (by decide), u2zz]
          · exact ys4.2.2.2.1.trans (x2'.2.2.trans ys2.2.2.2.1)
          · rw [gs4, upd_at, if_neg (by omega), R5, gs2, upd_at, if_neg (by omega)]
          · rw [gs4, upd_at, if_neg (by omega), R5, gs2, upd_at, if_pos rfl]; exact hX7.2.2.2.2.2.1
          · rw [gs4, upd_at, if_pos rfl]; exact x1zz.2.2.2.2.2.1
          · rw [ys4.2.2.1 24 (by decide), ys4.2.2.1 25 (by decide)]; exact x7
    have G5 : gA o5zz 3 = Gzz := (w7zz.2.2.1 3 (by decide)).trans ((f9zz.gA 3).trans hG)
    rcases hmid with ⟨e0zz, wzz, b1, b2, b3, b4⟩ | ⟨rd', oc', o', k1', k2', a2, b2, h1, q4zz, hX', cf1zz, cd1, ck1, m3zz, m21, mM, mR, ea2, eb2, hsum⟩
    · have qzz := bad125 b2 b1
      exact Or.inl ⟨e0zz, qzz.1, qzz.2.1.trans b3, qzz.2.2.trans (b4.trans G5)⟩
    · unfold bk_X6_readClause_94 at h1
      obtain ⟨-, h1⟩ := z_gd h1
      obtain ⟨o12, g12, h1⟩ := z_lt h1
      rw [ivzz] at g12
      have h1 := z_t h1 (hX'.2.2.2.2.2.2.2.2.1 rfl).1
      have hX12 : XS true rd' o12 o' k1' k2' := hX'.rw' (RW.rf : RW 55 0 o' o') (by decide) (by rw [g12]; rfl)
      have A1 : ∀ izz, izz < 5 → gA oc' izz = gA o10 izz := fun izz hizz => cf1zz.2.2.2 izz (by omega) (by omega)
      have ho : gA o12 1 n = 1 := by rw [g12, tA_gA, if_neg (by omega), A1 1 (by decide), g10, tA_gA, if_neg (by omega), g8, upd_at, if_pos rfl]
      rcases ph_times hX12 hn ivzz tx2 ho h1 q4zz with ⟨e0zz, wzz, b1, b2', b3, b4⟩ | ⟨rdt, oct, ot, h1, q4zz, hXt, v7, v8, vA, n21zz, nM, nA, nR, nE, nL, nU⟩
      · have qzz := bad173 b2' b1
        exact Or.inl ⟨e0zz, qzz.1, qzz.2.1.trans b3, qzz.2.2.trans (b4.trans (m3zz.trans G5))⟩
      · unfold bk_X9_readOrder_173 at q4zz
        obtain ⟨-, q4zz⟩ := z_gd q4zz
        obtain ⟨o9, g9, q4zz⟩ := z_lt q4zz
        rw [ix8 (kzz := 5) tx2 hn (by decide) (by decide)] at g9
        have y9 : RW 55 (8 * n) ot o9 := by rw [g9]; exact RW.tA ⟨by omega, by omega⟩
        have hX11 : XS true rdt oct o9 k1' k2' := hXt.rw' y9 (by decide) rfl
        have G9 : gA o9 3 = Gzz := (y9.2.2.1 3 (by decide)).trans ((nA 3 (by decide)).trans (m3zz.trans G5))
        rcases ph_test (Kzz := bk_X9_readOrder_211 x2zz) hX11 h1 q4zz with ⟨e0zz, wzz, b1, b2', b3, b4⟩ | ⟨rd'', oc'', o'', k1'', k2'', h1, q4zz, hX'', r2, cf2, cd2, ck2, htst⟩
        · have qzz := bad211 b1
          exact Or.inl ⟨e0zz, qzz.1.trans b2', qzz.2.1.trans b3, qzz.2.2.trans (b4.trans G9)⟩
        · unfold bk_X6_readClause_200 at h1
          obtain ⟨-, h1⟩ := z_gd h1
          obtain ⟨o15, g15, h1⟩ := z_lt h1
          obtain ⟨o16, g16, h1⟩ := z_lt h1
          unfold bk_X9_readOrder_211 at q4zz
          obtain ⟨-, q4zz⟩ := z_gd q4zz
          obtain ⟨o13, g13, q4zz⟩ := z_lt q4zz
          rw [ivzz] at g15
          rw [ix8 (kzz := 6) tx2 hn (by decide) (by decide)] at g13
          rw [← Option.some.inj h1, ← Option.some.inj q4zz]
          refine Or.inr ⟨rfl, k1'', k2'', ?_⟩
          show ClS true Gzz rd'' o16 o13 k1'' k2'' (n + 1)
          have y13 : RW 55 (8 * n) o'' o13 := by rw [g13]; exact RW.tA ⟨by omega, by omega⟩
          have hXf : XS true rd'' o16 o13 k1'' k2'' := hX''.rw' y13 (by decide) (by rw [g16, g15]; rfl)
          have A16 : ∀ izz, gA o16 izz = gA o15 izz := fun izz => by rw [g16]; rfl
          have A2 : ∀ izz, izz < 5 → gA oc'' izz = gA oct izz := fun izz hizz => cf2.2.2.2 izz (by omega) (by omega)
          have vo8 : gI o8zz 8 = gI oc 8 := by rw [g8, g6]; rfl
          have AA : ∀ izz mzz, izz < 5 → (izz ≠ 1 ∨ mzz ≠ n) → gA o16 izz mzz = if izz = 4 ∧ mzz = n then gI oc'' 8 else if izz = 3 ∧ mzz = n then gI oc' 8 else if izz = 2 ∧ mzz = n then gI oc 8 else if izz = 1 ∧ mzz = n then 1 else if izz = 0 ∧ mzz = n then z1 else gA oc izz mzz := fun izz mzz hizz hx => by
            rw [A16 izz, g15, tA_gA, A2 izz hizz, vA izz mzz hx, g12, tA_gA, A1 izz hizz, g10, tA_gA, vo8, g8, tA_gA, g6, tA_gA]
          have a1zz : gA o16 1 n = gA oct 1 n := by rw [A16 1, g15, tA_gA, if_neg (by omega), A2 1 (by decide)]
          have R'' : gA o'' 55 = gA o9 55 := r2.2.1 55 (by decide) (by decide) (by decide) (by decide)
          have BB : ∀ xzz, gA o13 55 xzz = if xzz = 8 * n + 6 then gI o'' 23 else if xzz = 8 * n + 5 then gI ot 23 else gA ot 55 xzz := fun xzz => by rw [g13, upd_at, R'', g9, upd_at]
          have l1 : k1zz ≤ k1' ∧ k2zz ≤ k2' := by
            rcases hsum with ⟨-, azz, bzz, -⟩ | ⟨-, -, -, mzz, -, s⟩
            · exact ⟨by omega, by omega⟩
            · have := s.lt; exact ⟨by omega, by omega⟩
          have l2 : k1' ≤ k1'' ∧ k2' ≤ k2'' := by
            rcases htst with ⟨azz, bzz⟩ | ⟨mzz, -, s⟩
            · exact ⟨by omega, by omega⟩
            · have := s.lt; exact ⟨by omega, by omega⟩
          have e16zz : ∀ izz, izz = 5 ∨ izz = 6 → gA o16 izz = gA oc'' izz := fun izz hizz => by rw [g16, g15]; rcases hizz with ezz | ezz <;> rw [ezz] <;> rfl
          have et : ∀ izz jzz, izz = 5 ∨ izz = 6 → gA oct izz jzz = gA o12 izz jzz := fun izz jzz hizz => vA izz jzz (Or.inl (by omega))
          have e12zz : ∀ izz, izz = 5 ∨ izz = 6 → gA o12 izz = gA oc' izz := fun izz hizz => by rw [g12]; rcases hizz with ezz | ezz <;> rw [ezz] <;> rfl
          have e10zz : ∀ izz, izz = 5 ∨ izz = 6 → gA o10 izz = gA oc izz := fun izz hizz => by rw [g10, g8, g6]; rcases hizz with ezz | ezz <;> rw [ezz] <;> rfl
          have m24 : ∀ izz, izz = 24 ∨ izz = 25 → gA o13 izz = gA o'' izz := fun izz hizz => y13.2.2.1 izz (by omega)
          have n24zz : ∀ izz, izz = 24 ∨ izz = 25 → gA o9 izz = gA o' izz := fun izz hizz => (y9.2.2.1 izz (by omega)).trans (nA izz (by omega))
          have p24 : ∀ izz, izz = 24 ∨ izz = 25 → gA o5zz izz = gA o izz := fun izz hizz => (w7zz.2.2.1 izz (by omega)).trans (f9zz.gA izz)
          refine ⟨hXf, ?_, ?_, ?_, (y13.2.2.1 3 (by decide)).trans ((r2.2.1 3 (by decide) (by decide) (by decide) (by decide)).trans G9), fun mzz hmzz => ?_⟩
          · have uzz : gI o13 21 = gI o 21 + 1 := by
              rw [show gI o13 21 = gI o'' 21 by rw [g13]; rfl, r2.1 21 (by decide) (by decide) (by decide) (by decide) (by decide) (by decide) (by decide) (by decide) (by decide), show gI o9 21 = gI ot 21 by rw [g9]; rfl, n21zz, m21, d21zz]
            rw [uzz]; exact Eq.trans (i32_add e21zz (by decide : (1 : Int32).toInt = 1) (by omega) (by omega)) (by omega)
          · have uzz : gI o16 7 = v1zz + 1 := by rw [g16]; rfl
            rw [uzz]; exact Eq.trans (i32_add evzz (by decide : (1 : Int32).toInt = 1) (by omega) (by omega)) (by omega)
          · exact hH.eq (y13.2.2.2.1.trans (r2.2.2.trans (y9.2.2.2.1.trans (nM.trans (mM.trans (w7zz.2.2.2.1.trans (congrArg Prod.snd f9zz.2.2)))))))
          · by_cases ezz : mzz = n
            · rw [ezz]
              have a0zz : gA o16 0 n = z1 := by rw [AA 0 n (by decide) (Or.inl (by decide)), if_neg (by omega), if_neg (by omega), if_neg (by omega), if_neg (by omega), if_pos ⟨rfl, rfl⟩]
              have a2' : gA o16 2 n = gI oc 8 := by rw [AA 2 n (by decide) (Or.inl (by decide)), if_neg (by omega), if_neg (by omega), if_pos ⟨rfl, rfl⟩]
              have a3 : gA o16 3 n = gI oc' 8 := by rw [AA 3 n (by decide) (Or.inl (by decide)), if_neg (by omega), if_pos ⟨rfl, rfl⟩]
              have a4 : gA o16 4 n = gI oc'' 8 := by rw [AA 4 n (by decide) (Or.inl (by decide)), if_pos ⟨rfl, rfl⟩]
              have b0 : gA o13 55 (8 * n) = z1 := by rw [BB, if_neg (by omega), if_neg (by omega), nR _ (by omega), mR _ (by omega)]; exact c0zz
              have b1 : gA o13 55 (8 * n + 1) = gA o' 55 (8 * n + 1) := by rw [BB, if_neg (by omega), if_neg (by omega), nR _ (by omega)]
              have b2' : gA o13 55 (8 * n + 2) = gA o' 55 (8 * n + 2) := by rw [BB, if_neg (by omega), if_neg (by omega), nR _ (by omega)]
              have b5 : gA o13 55 (8 * n + 5) = gI ot 23 := by rw [BB, if_neg (by omega), if_pos rfl]
              have b6 : gA o13 55 (8 * n + 6) = gI o'' 23 := by rw [BB, if_pos rfl]
              have b7 : gA o13 55 (8 * n + 7) = gA ot 55 (8 * n + 7) := by rw [BB, if_neg (by omega), if_neg (by omega)]
              refine ⟨k1zz, k1', k1'', a2, b2, k2', k2'', ?_, ?_, ?_, ?_, ?_, ?_, ?_, ?_, ?_, ⟨l1.1, l2.1, Nat.le_refl _, l2.2, Nat.le_refl _⟩, ?_, ?_, fun _ => ?_⟩
              · show gA o16 0 n = gA o13 55 (8 * n); rw [a0zz, b0]
              · rw [a0zz]; exact q1zz
              · rw [a2']; exact hX.2.2.2.2.1
              · rw [a3]; exact hX'.2.2.2.2.1
              · rw [a4]; exact hX''.2.2.2.2.1
              · show (gA o13 55 (8 * n + 1)).toInt = _; rw [b1]; exact ea2
              · show (gA o13 55 (8 * n + 2)).toInt = _; rw [b2']; exact eb2
              · show (gA o13 55 (8 * n + 5)).toInt = _; rw [b5]; exact hXt.2.2.2.2.2.1
              · show (gA o13 55 (8 * n + 6)).toInt = _; rw [b6]; exact hX''.2.2.2.2.2.1
              · rw [a0zz]
                rcases hsum with ⟨azz, bzz, czz, d⟩ | ⟨azz, bzz, czz, m', d, s⟩
                · exact Or.inl ⟨azz, bzz.symm, d⟩
                · refine Or.inr ⟨azz, m', d, by omega, ?_⟩
                  rw [bzz, czz]
                  refine s.eq (fun jzz i1zz i2zz => ?_) (fun jzz i1zz i2zz => ?_)
                  · rw [e16zz 5 (Or.inl rfl), e16zz 6 (Or.inr rfl), (cd2 jzz i2zz).1, (cd2 jzz i2zz).2, et 5 jzz (Or.inl rfl), et 6 jzz (Or.inr rfl), e12zz 5 (Or.inl rfl), e12zz 6 (Or.inr rfl)]; exact ⟨rfl, rfl⟩
                  · rw [m24 24 (Or.inl rfl), m24 25 (Or.inr rfl), (ck2 jzz i2zz).1, (ck2 jzz i2zz).2, n24zz 24 (Or.inl rfl), n24zz 25 (Or.inr rfl)]; exact ⟨rfl, rfl⟩
              · rcases htst with ⟨azz, bzz⟩ | ⟨m', azz, bzz⟩
                · exact Or.inl ⟨azz.symm, bzz.symm⟩
                · refine Or.inr ⟨m', azz, bzz.eq (fun jzz i1zz i2zz => ?_) (fun jzz i1zz i2zz => ?_)⟩
                  · rw [e16zz 5 (Or.inl rfl), e16zz 6 (Or.inr rfl)]; exact ⟨rfl, rfl⟩
                  · rw [m24 24 (Or.inl rfl), m24 25 (Or.inr rfl)]; exact ⟨rfl, rfl⟩
              · show gA o16 1 n = gA o13 55 (8 * n + 7) ∧ _
                rw [a1zz, b7]; exact ⟨nE, nL, nU⟩
            · have hmn : mzz < n := by omega
              refine (hcl mzz hmn).mv (fun izz hizz => ?_) (fun jzz hj => ?_) (fun izz hizz => ?_) (fun jzz hj => ?_) (by omega) (by omega)
              · rw [AA izz mzz hizz (Or.inr ezz), if_neg (fun qzz => ezz qzz.2), if_neg (fun qzz => ezz qzz.2), if_neg (fun qzz => ezz qzz.2), if_neg (fun qzz => ezz qzz.2), if_neg (fun qzz => ezz qzz.2)]
              · rw [e16zz 5 (Or.inl rfl), e16zz 6 (Or.inr rfl), (cd2 jzz (by omega)).1, (cd2 jzz (by omega)).2, et 5 jzz (Or.inl rfl), et 6 jzz (Or.inr rfl), e12zz 5 (Or.inl rfl), e12zz 6 (Or.inr rfl), (cd1 jzz hj).1, (cd1 jzz hj).2, e10zz 5 (Or.inl rfl), e10zz 6 (Or.inr rfl)]; exact ⟨rfl, rfl⟩
              · show gA o13 55 (8 * mzz + izz) = gA o 55 (8 * mzz + izz)
                rw [BB, if_neg (by omega), if_neg (by omega), nR _ (by omega), mR _ (by omega), w7zz.2.2.2.2 (8 * mzz + izz) (Or.inl (by omega)), f9zz.gA 55]
              · rw [m24 24 (Or.inl rfl), m24 25 (Or.inr rfl), (ck2 jzz (by omega)).1, (ck2 jzz (by omega)).2, n24zz 24 (Or.inl rfl), n24zz 25 (Or.inr rfl), (ck1 jzz hj).1, (ck1 jzz hj).2, p24 24 (Or.inl rfl), p24 25 (Or.inr rfl)]; exact ⟨rfl, rfl⟩
set_option maxHeartbeats 200000 in
theorem text_O {yzz : Int32 × Ob} {zzz : Int32 × Ob × Ob} {Gzz : Nat → Int32} {o0zz : Ob} : ∀ (N1 N2 : Nat) (v2 : Int32) (rd oc o z3 : Ob) (k1zz k2zz n : Nat), FrX dTx o0zz o → ClS true Gzz rd oc o k1zz k2zz n → n ≤ 12 → v2.toInt = (n : Int) → lp_X6_readText_33 12 400 N1 (v2, rd, oc) = some zzz → f_X9_readOrder o = some z3 → lp_X9_orders_19 N2 z3 = some yzz → TxO true Gzz o0zz zzz bk_X9_orders_46 yzz := by
  intro N1
  induction N1 with
  | zero => intro N2 v2 rd oc o z3 k1zz k2zz n _ _ _ _ hzz; cases hzz
  | succ N1 ihzz =>
    intro N2 v2 rd oc o z3 k1zz k2zz n hF hC hn evzz h1 hr hy
    have hF3 : FrX dTx o0zz z3 := hF.tr ((fr_f_X9_readOrder hr).mono rfl)
    cases N2 with
    | zero => cases hy
    | succ N2 =>
    have h1 : lb_X6_readText_33 12 400 (lp_X6_readText_33 12 400 N1) v2 rd oc = some zzz := h1
    have hy : lb_X9_orders_19 (lp_X9_orders_19 N2) z3 = some yzz := hy
    unfold lb_X6_readText_33 at h1
    unfold lb_X9_orders_19 at hy
    have hTzz := hC.1.1
    by_cases czz : (12 : Int32) ≤ v2
    · have d := cv_le (a := 12) (b := (n : Int)) (by decide) evzz czz
      obtain ⟨zs, ezs, h1⟩ := z_bd (z_t h1 czz)
      obtain ⟨-, h1⟩ := z_gd h1
      obtain ⟨s1zz, s2zz⟩ := stop8 ezs
      have qzz := too_manyO hTzz hC.1.2.1 hC.2.2.2.1.2 (by rw [hC.2.1]; omega) hr
      refine ⟨z3, z_f hy (by rw [qzz.1]; decide), ⟨qzz.2.2.trans hC.2.2.2.2.1, hF3⟩, Or.inl ⟨by rw [← Option.some.inj h1]; exact s1zz, Or.inl ⟨qzz.1, ?_⟩⟩⟩
      rw [← Option.some.inj h1]
      show gI z3 18 = gI zs.2 3
      rw [qzz.2.1, s2zz]
      show gI o 14 = gI rd 7
      exact hTzz.2.2.1.symm
    · have d := cv_nle (a := 12) (b := (n : Int)) (by decide) evzz czz
      obtain ⟨z10, ez10, h1⟩ := z_bd (z_f h1 czz)
      rcases clause_O hC (by omega) evzz ez10 hr with ⟨a1zz, a2, a3, a4⟩ | ⟨a1zz, k1', k2', hC'⟩
      · have h1 := Option.some.inj (z_t h1 a1zz)
        exact ⟨z3, z_f hy (by rw [a2]; decide), ⟨a4, hF3⟩, Or.inl ⟨by rw [← h1], Or.inl ⟨a2, by rw [← h1]; exact a3⟩⟩⟩
      · have h1 := z_f h1 (by rw [a1zz]; decide)
        have hT' := hC'.1.1
        obtain ⟨zi, ezi, hy⟩ := z_bd (z_t hy hC'.1.2.1)
        by_cases c6zz : gI z10.2.1 6 = 0
        · have h1 := Option.some.inj (z_t h1 c6zz)
          have k16 : gI z3 16 = 0 := hT'.2.1.symm.trans c6zz
          have hizz : zi = 0 := by
            rcases s9 hT' ezi with ⟨uzz, -⟩ | ⟨-, uzz⟩
            · exact uzz
            · exact absurd (k16.symm.trans uzz.1) (by decide)
          refine ⟨z3, z_t hy hizz, ⟨hC'.2.2.2.2.1, hF3⟩, Or.inr ⟨by rw [← h1], hC'.1.2.1, k16, k1', k2', n + 1, by omega, by omega, ?_⟩⟩
          rw [← h1]; exact hC'
        · obtain ⟨z11, ez11, h1⟩ := z_bd (z_f h1 c6zz)
          rcases s8 hT' ez11 with ⟨u1zz, u2zz⟩ | ⟨u1zz, u2zz⟩ <;> rcases s9 hT' ezi with ⟨w1zz, w2zz⟩ | ⟨w1zz, w2zz⟩
          · obtain ⟨zs, ezs, h1⟩ := z_bd (z_t h1 u1zz)
            obtain ⟨-, h1⟩ := z_gd h1
            obtain ⟨s1zz, s2zz⟩ := stop8 ezs
            refine ⟨z3, z_t hy w1zz, ⟨hC'.2.2.2.2.1, hF3⟩, Or.inl ⟨by rw [← Option.some.inj h1]; exact s1zz, Or.inr ⟨hC'.1.2.1, fun qzz => c6zz (hT'.2.1.trans qzz), ?_⟩⟩⟩
            rw [← Option.some.inj h1]
            show gI z3 14 = gI zs.2 3
            rw [s2zz]
            show gI z3 14 = gI z10.2.1 7
            exact hT'.2.2.1.symm
          · exact absurd w2zz u2zz
          · exact absurd u2zz w2zz
          · obtain ⟨z12, ez12, h1⟩ := z_bd (z_f h1 u1zz)
            obtain ⟨x13, g13, h1⟩ := z_lt h1
            obtain ⟨z23, ez23, hy⟩ := z_bd (z_f hy w1zz)
            obtain ⟨z24, ez24, hy⟩ := z_bd hy
            obtain ⟨hX, f6zz, f9zz⟩ := hC'.1.step ez12 ez23
            have t13 : x13.toInt = ((n + 1 : Nat) : Int) := by rw [g13]; exact Eq.trans (i32_add evzz (by decide : (1 : Int32).toInt = 1) (by omega) (by omega)) (by omega)
            refine ihzz N2 x13 z12 z10.2.2 z23 z24 k1' k2' (n + 1) (hF3.tr ((fr_f_X9_next ez23).mono rfl)) ⟨hX, ?_, hC'.2.2.1, hC'.2.2.2.1.eq (congrArg Prod.snd f9zz.2.2), (f9zz.gA 3).trans hC'.2.2.2.2.1, fun mzz hmzz => ?_⟩ (by omega) t13 h1 ez24 hy
            · rw [f9zz.1 21 (by decide) (by decide) (by decide)]; exact hC'.2.1
            · have qzz := hC'.2.2.2.2.2 mzz hmzz
              rw [f9zz.gA (rwF true), f9zz.gA 24, f9zz.gA 25]; exact qzz
set_option maxHeartbeats 200000 in
theorem parse_O {rd oc o z2 z3 : Ob} {yzz : Int32 × Ob} {zzz : Int32 × Ob × Ob} {Nzz : Nat} (hz : TZ rd o) (ht : TbW o) (hH : HDs o) (h1 : f_X6_readText 12 400 rd oc 0 = some zzz) (h2 : f_X9_beginText o 1 = some z2) (hr : f_X9_readOrder z2 = some z3) (hy : lp_X9_orders_19 Nzz z3 = some yzz) : TxO true (gA o 3) o zzz bk_X9_orders_46 yzz := by
  have hF0 : FrX dTx o z2 := (fr_f_X9_beginText h2).mono rfl
  unfold f_X6_readText at h1
  obtain ⟨-, h1⟩ := z_gd h1
  obtain ⟨o2, g2, h1⟩ := z_lt h1
  obtain ⟨c3zz, ez3, h1⟩ := z_bd h1
  obtain ⟨o4zz, g4, h1⟩ := z_lt h1
  obtain ⟨o5zz, g5zz, h1⟩ := z_lt h1
  obtain ⟨o6, g6, h1⟩ := z_lt h1
  obtain ⟨z7, ez7, h1⟩ := z_bd h1
  unfold f_X0_clear at ez3
  obtain ⟨c1zz, gc1, ez3⟩ := z_lt ez3
  obtain ⟨c2zz, gc2, ez3⟩ := z_lt ez3
  have ez3 := Option.some.inj ez3
  unfold f_X9_beginText at h2
  obtain ⟨-, h2⟩ := z_gd h2
  obtain ⟨p2zz, gp2, h2⟩ := z_lt h2
  obtain ⟨p3zz, ep3, h2⟩ := z_bd h2
  obtain ⟨p4zz, gp4, h2⟩ := z_lt h2
  obtain ⟨p5zz, gp5, h2⟩ := z_lt h2
  obtain ⟨p6zz, gp6, h2⟩ := z_lt h2
  have h2 := Option.some.inj h2
  unfold f_X9_begin at ep3
  obtain ⟨b1, gb1, ep3⟩ := z_lt ep3
  obtain ⟨b2, gb2, ep3⟩ := z_lt ep3
  obtain ⟨b3, gb3, ep3⟩ := z_lt ep3
  obtain ⟨b4, eb4, ep3⟩ := z_bd ep3
  have ep3 := Option.some.inj ep3
  have z0 : (0 : Int32).toInt = 0 := by decide
  have r13 : gI b3 13 = gI o 13 := by rw [gb3, gb2, gb1, gp2]; rfl
  have r15 : gI b3 15 = 0 := by rw [gb3, gb2, gb1]; rfl
  have hz6 : TZ o6 b3 := by
    refine ⟨?_, ?_, by rw [r13]; exact hz.2.2.1, by rw [r13]; exact hz.2.2.2⟩
    · rw [r13, g6, g5zz, g4, g2]; exact hz.1
    · have uzz : gA b3 12 = gA o 12 := by rw [gb3, gb2, gb1, gp2]; rfl
      rw [uzz, g6, g5zz, g4, g2]; exact hz.2.1
  obtain ⟨T1, T2, T3, T4⟩ := tk_eq hz6 (by rw [r15, g6]; rfl) (by rw [r15, z0]; exact Int.le_refl _) (by rw [r15, r13, z0]; exact hz.2.2.1) ez7 eb4
  have eo : z2 = sI (sI (sI b4 21 0) 23 0) 26 0 := by rw [← h2, gp6, gp5, gp4, ep3]
  have ek : gI c3zz 8 = 0 := by rw [← ez3, gc2]; rfl
  have ek7 : gI c3zz 7 = 0 := by rw [← ez3, gc2, gc1]; rfl
  have em : z2.2.2.2 = o.2.2.2 := by
    have uzz : z2.2.2.2 = b4.2.2.2 := by rw [eo]; rfl
    have u2zz : b3.2.2.2 = o.2.2.2 := by rw [gb3, gb2, gb1, gp2]; rfl
    exact uzz.trans ((congrArg Prod.snd T3.2.2).trans u2zz)
  have eMzz : ∀ izz, gM z2 izz = gM o izz := fun izz => congrFun (congrArg Prod.fst em) izz
  have hT2 : TT z7 z2 := T1.cg rfl rfl rfl rfl rfl rfl (by rw [eo]; rfl) (by rw [eo]; rfl) (by rw [eo]; rfl) (by rw [eo]; rfl) (by rw [eo]; rfl) (by rw [eo]; rfl)
  obtain ⟨azz, bzz, ea, -⟩ := hT2.2.2.2.2
  have k4zz : gI z7 4 = 0 := by rw [T2.1 4 (by decide) (by decide) (by decide) (by decide), g6, g5zz, g4, g2]; rfl
  have k20 : gI z2 20 = 1 := by
    have uzz : gI z2 20 = gI b4 20 := by rw [eo]; rfl
    rw [uzz, T3.1 20 (by decide) (by decide) (by decide), gb3, gb2, gb1, gp2]; rfl
  have hX : XS true z7 c3zz z2 0 0 := by
    refine ⟨hT2, ?_, ?_, ?_, by rw [ek]; decide, ?_, by omega, by decide, ⟨fun qzz => ?_, fun qzz => ?_, fun kzz hk => by rw [eMzz 31]; exact ht.1 kzz hk, fun kzz hk => by rw [eMzz 32]; exact ht.2 kzz hk⟩⟩
    · have uzz : gI z2 19 = gI b4 19 := by rw [eo]; rfl
      rw [uzz, T3.1 19 (by decide) (by decide) (by decide), gb3, gb2]; rfl
    · rw [T2.1 5 (by decide) (by decide) (by decide) (by decide), eo, g6, g5zz, g4]; rfl
    · have uzz : gI z2 26 = 0 := by rw [eo]; rfl
      rw [uzz]; decide
    · have uzz : gI z2 23 = 0 := by rw [eo]; rfl
      rw [uzz]; decide
    · exact ⟨k4zz, by rw [k20]; decide⟩
    · cases qzz
  have k21 : gI z2 21 = 0 := by rw [eo]; rfl
  have e3zz : gA z2 3 = gA o 3 := by
    have uzz : gA z2 3 = gA b4 3 := by rw [eo]; rfl
    have u2zz : gA b3 3 = gA o 3 := by rw [gb3, gb2, gb1, gp2]; rfl
    exact uzz.trans ((T3.gA 3).trans u2zz)
  exact text_O zfu Nzz 0 z7 c3zz z2 z3 0 0 0 hF0 ⟨hX, by rw [k21]; decide, by rw [ek7]; decide, hH.eq em, e3zz, fun mzz hmzz => absurd hmzz (Nat.not_lt_zero _)⟩ (by decide) (by decide) h1 hr hy
set_option maxHeartbeats 200000 in
theorem tell_18 {o : Ob} {pzz : Int32} {yzz : Int32 × Ob} (hzz : f_X9_tell o pzz = some yzz) : gI yzz.2 18 = gI o 18 := by
  have hbzz : ∀ s, bk_X9_tell_10 pzz s o = some yzz → gI yzz.2 18 = gI o 18 := by
    intro s hzz
    unfold bk_X9_tell_10 at hzz
    obtain ⟨o1, eo1, hzz⟩ := z_lt hzz
    by_cases czz : (0 : Int32) ≤ pzz
    · rw [← Option.some.inj (z_t hzz czz), eo1]; rfl
    · have hzz := z_f hzz czz
      obtain ⟨x2zz, -, hzz⟩ := z_lt hzz
      obtain ⟨-, hzz⟩ := z_gd hzz
      obtain ⟨-, hzz⟩ := z_gd hzz
      obtain ⟨o5zz, eo5, hzz⟩ := z_lt hzz
      rw [← Option.some.inj hzz, eo5, eo1]; rfl
  unfold f_X9_tell at hzz
  by_cases czz : (0 : Int32) ≤ pzz
  · exact hbzz _ (z_t hzz czz)
  · exact hbzz _ (z_f hzz czz)
set_option maxHeartbeats 200000 in
theorem w145 {yzz : Int32 × Ob} {v1zz : Int32} {azz Kzz : Nat} (e1zz : v1zz.toInt = (azz : Int)) (hazz : 84 ≤ azz) (ha' : azz + 900 ≤ 5484) (hKzz : Kzz ≤ 400) : ∀ (Nzz : Nat) (v2 : Int32) (o : Ob) (izz : Nat), v2.toInt = (izz : Int) → izz ≤ Kzz → (gI o 23).toInt = (Kzz : Int) → lp_X9_law_145 Nzz (v1zz, v2, o) = some yzz →
    yzz.1 = (gA o 3 2 + 1) - 1 ∧ gA yzz.2 3 2 = gA o 3 2 + 1 ∧ gI yzz.2 18 = gI o 18 ∧ (∀ jzz, jzz ≠ 2 → (jzz < azz + 98 + 2 * izz ∨ azz + 98 + 2 * Kzz ≤ jzz) → gA yzz.2 3 jzz = gA o 3 jzz) ∧ (∀ kzz, izz ≤ kzz → kzz < Kzz → gA yzz.2 3 (azz + 98 + 2 * kzz) = gA o 24 kzz ∧ gA yzz.2 3 (azz + 98 + 2 * kzz + 1) = gA o 25 kzz) := by
  intro Nzz
  induction Nzz with
  | zero => intro v2 o izz _ _ _ hzz; cases hzz
  | succ Nzz ihzz =>
    intro v2 o izz e2zz hizz eK hzz
    have hzz : lb_X9_law_145 (lp_X9_law_145 Nzz) v1zz v2 o = some yzz := hzz
    unfold lb_X9_law_145 at hzz
    have n2zz : (2 : Int32).toNatClampNeg = 2 := by decide
    by_cases czz : gI o 23 ≤ v2
    · have d := cv_le (a := (Kzz : Int)) (b := (izz : Int)) eK e2zz czz
      obtain ⟨o8zz, e8, hzz⟩ := z_lt (z_t hzz czz)
      obtain ⟨zzz, ez, hzz⟩ := z_bd hzz
      rw [n2zz] at e8 ez
      have uzz : gA o8zz 3 2 = gA o 3 2 + 1 := by rw [e8, upd_at, if_pos rfl]
      have t := tell_3 ez
      rw [← Option.some.inj hzz]
      refine ⟨?_, ?_, ?_, fun jzz hj _ => ?_, fun kzz h1 h2 => by omega⟩
      · show zzz.1 = _; rw [t.1, uzz]
      · show gA zzz.2 3 2 = _; rw [t.2.1, uzz]
      · show gI zzz.2 18 = _; rw [tell_18 ez, e8]; rfl
      · show gA zzz.2 3 jzz = _; rw [t.2.1, e8, upd_at, if_neg hj]
    · have d := cv_nle (a := (Kzz : Int)) (b := (izz : Int)) eK e2zz czz
      obtain ⟨-, hzz⟩ := z_gd (z_f hzz czz)
      obtain ⟨-, hzz⟩ := z_gd hzz
      obtain ⟨o12, e12zz, hzz⟩ := z_lt hzz
      obtain ⟨-, hzz⟩ := z_gd hzz
      obtain ⟨-, hzz⟩ := z_gd hzz
      obtain ⟨o15, e15zz, hzz⟩ := z_lt hzz
      obtain ⟨x16, exzz, hzz⟩ := z_lt hzz
      have s1zz : (v1zz + (98 : Int32)).toInt = (azz : Int) + 98 := i32_add e1zz (by decide) (by omega) (by omega)
      have s2zz : ((2 : Int32) * v2).toInt = 2 * (izz : Int) := i32_mul (by decide) e2zz (by omega) (by omega)
      have s3zz : ((v1zz + (98 : Int32)) + ((2 : Int32) * v2)).toInt = (azz : Int) + 98 + 2 * (izz : Int) := i32_add s1zz s2zz (by omega) (by omega)
      have i3zz : ((v1zz + (98 : Int32)) + ((2 : Int32) * v2)).toNatClampNeg = azz + 98 + 2 * izz := tnc_eq (by rw [s3zz]; omega)
      have i4zz : (((v1zz + (98 : Int32)) + ((2 : Int32) * v2)) + (1 : Int32)).toNatClampNeg = azz + 98 + 2 * izz + 1 := tnc_eq (by rw [i32_add s3zz (by decide : (1 : Int32).toInt = 1) (by omega) (by omega)]; omega)
      have ivzz : v2.toNatClampNeg = izz := tnc_eq e2zz
      have tx : x16.toInt = ((izz + 1 : Nat) : Int) := by rw [exzz]; exact Eq.trans (i32_add e2zz (by decide : (1 : Int32).toInt = 1) (by omega) (by omega)) (by omega)
      rw [i3zz, ivzz] at e12zz
      rw [i4zz, ivzz] at e15zz
      have k23 : (gI o15 23).toInt = (Kzz : Int) := by rw [e15zz, e12zz]; exact eK
      have r24 : gA o15 24 = gA o 24 := by rw [e15zz, e12zz]; rfl
      have r25 : gA o15 25 = gA o 25 := by rw [e15zz, e12zz]; rfl
      have p25zz : gA o12 25 izz = gA o 25 izz := by rw [e12zz]; rfl
      have r3 : ∀ jzz, jzz ≠ azz + 98 + 2 * izz → jzz ≠ azz + 98 + 2 * izz + 1 → gA o15 3 jzz = gA o 3 jzz := fun jzz q1zz q2zz => by rw [e15zz, upd_at, if_neg q2zz, e12zz, upd_at, if_neg q1zz]
      have q0 : gA o15 3 (azz + 98 + 2 * izz) = gA o 24 izz := by rw [e15zz, upd_at, if_neg (by omega), e12zz, upd_at, if_pos rfl]
      have q1zz : gA o15 3 (azz + 98 + 2 * izz + 1) = gA o 25 izz := by rw [e15zz, upd_at, if_pos rfl]; exact p25zz
      have k18 : gI o15 18 = gI o 18 := by rw [e15zz, e12zz]; rfl
      obtain ⟨x1zz, x2zz, x3, x4zz, x5zz⟩ := ihzz x16 o15 (izz + 1) tx (by omega) k23 hzz
      have c2zz : gA o15 3 2 = gA o 3 2 := r3 2 (by omega) (by omega)
      refine ⟨by rw [x1zz, c2zz], by rw [x2zz, c2zz], by rw [x3, k18], fun jzz hj hr => ?_, fun kzz h1 h2 => ?_⟩
      · rw [x4zz jzz hj (by omega)]; exact r3 jzz (by omega) (by omega)
      · by_cases ezz : kzz = izz
        · rw [ezz, x4zz (azz + 98 + 2 * izz) (by omega) (Or.inl (by omega)), x4zz (azz + 98 + 2 * izz + 1) (by omega) (Or.inl (by omega)), q0, q1zz]; exact ⟨rfl, rfl⟩
        · rw [← r24, ← r25]; exact x5zz kzz (by omega) h2
set_option maxHeartbeats 200000 in
theorem w110 {yzz : Int32 × Ob} {v1zz : Int32} {azz Kzz n : Nat} (e1zz : v1zz.toInt = (azz : Int)) (hazz : 84 ≤ azz) (ha' : azz + 900 ≤ 5484) (hKzz : Kzz ≤ 400) (hn : n ≤ 12) : ∀ (Nzz : Nat) (v2 : Int32) (o : Ob) (izz : Nat), v2.toInt = (izz : Int) → izz ≤ 8 * n → (gI o 23).toInt = (Kzz : Int) → (gI o 21).toInt = (n : Int) → lp_X9_law_110 Nzz (v1zz, v2, o) = some yzz →
    yzz.1 = (gA o 3 2 + 1) - 1 ∧ gA yzz.2 3 2 = gA o 3 2 + 1 ∧ gI yzz.2 18 = gI o 18 ∧ (∀ jzz, jzz ≠ 2 → (jzz < azz + 2 + izz ∨ azz + 98 + 2 * Kzz ≤ jzz) → gA yzz.2 3 jzz = gA o 3 jzz) ∧ (∀ kzz, izz ≤ kzz → kzz < 8 * n → gA yzz.2 3 (azz + 2 + kzz) = gA o 22 kzz) ∧ (∀ kzz, kzz < Kzz → gA yzz.2 3 (azz + 98 + 2 * kzz) = gA o 24 kzz ∧ gA yzz.2 3 (azz + 98 + 2 * kzz + 1) = gA o 25 kzz) := by
  intro Nzz
  induction Nzz with
  | zero => intro v2 o izz _ _ _ _ hzz; cases hzz
  | succ Nzz ihzz =>
    intro v2 o izz e2zz hizz eK en hzz
    have hzz : lb_X9_law_110 (lp_X9_law_110 Nzz) v1zz v2 o = some yzz := hzz
    unfold lb_X9_law_110 at hzz
    have t8 : ((8 : Int32) * gI o 21).toInt = 8 * (n : Int) := i32_mul (by decide) en (by omega) (by omega)
    by_cases czz : (8 : Int32) * gI o 21 ≤ v2
    · have d := cv_le (a := 8 * (n : Int)) (b := (izz : Int)) t8 e2zz czz
      obtain ⟨x1zz, x2zz, x3, x4zz, x5zz⟩ := w145 e1zz hazz ha' hKzz zfu 0 o 0 (by decide) (Nat.zero_le _) eK (z_t hzz czz)
      exact ⟨x1zz, x2zz, x3, fun jzz hj hr => x4zz jzz hj (by omega), fun kzz h1 h2 => by omega, fun kzz hk => x5zz kzz (Nat.zero_le _) hk⟩
    · have d := cv_nle (a := 8 * (n : Int)) (b := (izz : Int)) t8 e2zz czz
      obtain ⟨-, hzz⟩ := z_gd (z_f hzz czz)
      obtain ⟨-, hzz⟩ := z_gd hzz
      obtain ⟨o19, e19zz, hzz⟩ := z_lt hzz
      obtain ⟨x20, exzz, hzz⟩ := z_lt hzz
      have s1zz : (v1zz + (2 : Int32)).toInt = (azz : Int) + 2 := i32_add e1zz (by decide) (by omega) (by omega)
      have i3zz : ((v1zz + (2 : Int32)) + v2).toNatClampNeg = azz + 2 + izz := tnc_eq (by rw [i32_add s1zz e2zz (by omega) (by omega)]; omega)
      have ivzz : v2.toNatClampNeg = izz := tnc_eq e2zz
      have tx : x20.toInt = ((izz + 1 : Nat) : Int) := by rw [exzz]; exact Eq.trans (i32_add e2zz (by decide : (1 : Int32).toInt = 1) (by omega) (by omega)) (by omega)
      rw [i3zz, ivzz] at e19zz
      have k23 : (gI o19 23).toInt = (Kzz : Int) := by rw [e19zz]; exact eK
      have k21 : (gI o19 21).toInt = (n : Int) := by rw [e19zz]; exact en
      have r22 : gA o19 22 = gA o 22 := by rw [e19zz]; rfl
      have r24 : gA o19 24 = gA o 24 := by rw [e19zz]; rfl
      have r25 : gA o19 25 = gA o 25 := by rw [e19zz]; rfl
      have r3 : ∀ jzz, jzz ≠ azz + 2 + izz → gA o19 3 jzz = gA o 3 jzz := fun jzz qzz => by rw [e19zz, upd_at, if_neg qzz]
      have q0 : gA o19 3 (azz + 2 + izz) = gA o 22 izz := by rw [e19zz, upd_at, if_pos rfl]
      have k18 : gI o19 18 = gI o 18 := by rw [e19zz]; rfl
      obtain ⟨x1zz, x2zz, x3, x4zz, x5zz, x6⟩ := ihzz x20 o19 (izz + 1) tx (by omega) k23 k21 hzz
      have c2zz : gA o19 3 2 = gA o 3 2 := r3 2 (by omega)
      refine ⟨by rw [x1zz, c2zz], by rw [x2zz, c2zz], by rw [x3, k18], fun jzz hj hr => ?_, fun kzz h1 h2 => ?_, fun kzz hk => ?_⟩
      · rw [x4zz jzz hj (by omega)]; exact r3 jzz (by omega)
      · by_cases ezz : kzz = izz
        · rw [ezz, x4zz (azz + 2 + izz) (by omega) (Or.inl (by omega)), q0]
        · rw [← r22]; exact x5zz kzz (by omega) h2
      · rw [← r24, ← r25]; exact x6 kzz hk
set_option maxHeartbeats 200000 in
theorem law9_eq {rd oc o : Ob} {yzz : Int32 × Ob} {zzz : Int32 × Ob × Ob} {l : Nat} (el : (gA o 3 2).toInt = (l : Int)) (hl : l < 6) (hz : TZ rd o) (ht : TbW o) (hH : HDs o) (h1 : f_X6_readText 12 400 rd oc 1 = some zzz) (hy : f_X9_law o = some yzz) :
    (zzz.1 = 0 ∧ yzz.1 = -6 ∧ gA yzz.2 3 = gA o 3 ∧ gI yzz.2 18 = gI zzz.2.1 3) ∨
    (zzz.1 = 1 ∧ yzz.1 = gA o 3 2 ∧ gA yzz.2 3 2 = gA o 3 2 + 1 ∧ (∀ jzz, jzz ≠ 2 → (jzz < 84 + 900 * l ∨ 84 + 900 * l + 900 ≤ jzz) → gA yzz.2 3 jzz = gA o 3 jzz) ∧ ∃ (wzz : Ob) (k1zz k2zz n : Nat), gI yzz.2 18 = gI wzz 18 ∧ 1 ≤ n ∧ n ≤ 12 ∧ ClS false (gA o 3) zzz.2.1 zzz.2.2 wzz k1zz k2zz n ∧ (gA yzz.2 3 (84 + 900 * l + 1)).toInt = (n : Int) ∧ (∀ kzz, kzz < 8 * n → gA yzz.2 3 (84 + 900 * l + 2 + kzz) = gA wzz 22 kzz) ∧ (∀ kzz, kzz < k2zz → gA yzz.2 3 (84 + 900 * l + 98 + 2 * kzz) = gA wzz 24 kzz ∧ gA yzz.2 3 (84 + 900 * l + 98 + 2 * kzz + 1) = gA wzz 25 kzz)) := by
  have n2zz : (2 : Int32).toNatClampNeg = 2 := by decide
  unfold f_X9_law at hy
  obtain ⟨o1, g1, hy⟩ := z_lt hy
  rw [n2zz] at hy
  have u3 : gA o1 3 = gA o 3 := by rw [g1]; rfl
  have hy := z_f hy (fun czz => by rw [u3] at czz; have czz := cv_eq (a := (l : Int)) (b := 6) el (by decide) czz; omega)
  obtain ⟨z2, ez2, hy⟩ := z_bd hy
  obtain ⟨z3, ez3, hy⟩ := z_bd hy
  have hz1 : TZ rd o1 := by rw [g1]; exact hz
  have ht1 : TbW o1 := by rw [g1]; exact ht
  have hH1 : HDs o1 := by rw [g1]; exact hH
  obtain ⟨wzz, hw, ⟨w3zz, wF⟩, hx⟩ := parse_L hz1 ht1 hH1 h1 ez2 ez3 hy
  rw [u3] at w3zz hx
  unfold bk_X9_law_64 at hw
  obtain ⟨z4, ez4, hw⟩ := z_bd hw
  unfold f_X9_endText at ez4
  rcases hx with ⟨a1zz, hbzz⟩ | ⟨a1zz, a2, a3, k1zz, k2zz, n, hn1, hn2, hC⟩
  · refine Or.inl ⟨a1zz, ?_⟩
    have h4 : gI z4 19 = 1 ∧ gI z4 18 = gI zzz.2.1 3 ∧ gA z4 3 = gA wzz 3 := by
      rcases hbzz with ⟨b1, b2⟩ | ⟨b1, b2, b3⟩
      · have ez4 := z_f ez4 (by rw [b1]; decide)
        unfold bk_X9_endText_19 at ez4
        obtain ⟨p1zz, gp1, ez4⟩ := z_lt ez4
        obtain ⟨p2zz, gp2, ez4⟩ := z_lt ez4
        rw [← Option.some.inj ez4, gp2, gp1]
        exact ⟨b1, b2, rfl⟩
      · obtain ⟨zm, ezm, ez4⟩ := z_bd (z_f (z_t ez4 b1) b2)
        have em := mu_no b1 ezm
        unfold bk_X9_endText_19 at ez4
        obtain ⟨p1zz, gp1, ez4⟩ := z_lt ez4
        obtain ⟨p2zz, gp2, ez4⟩ := z_lt ez4
        rw [← Option.some.inj ez4, gp2, gp1, em]
        exact ⟨rfl, b3, rfl⟩
    obtain ⟨zt, ezt, hw⟩ := z_bd (z_f hw (by rw [h4.1]; decide))
    have t := tell_3 ezt
    rw [← Option.some.inj hw]
    refine ⟨t.1, ?_, ?_⟩
    · show gA zt.2 3 = _; rw [t.2.1, h4.2.2, w3zz]
    · show gI zt.2 18 = _; rw [tell_18 ezt, h4.2.1]
  · have ez4 := z_t (z_t ez4 a2) a3
    unfold bk_X9_endText_19 at ez4
    obtain ⟨p1zz, gp1, ez4⟩ := z_lt ez4
    obtain ⟨p2zz, gp2, ez4⟩ := z_lt ez4
    have e4zz : z4 = sI (sI wzz 20 0) 13 0 := by rw [← Option.some.inj ez4, gp2, gp1]
    have k19 : gI z4 19 = 0 := by rw [e4zz]; exact a2
    obtain ⟨x5zz, gx5, hw⟩ := z_lt (z_t hw k19)
    obtain ⟨-, hw⟩ := z_gd hw
    obtain ⟨o7, g7, hw⟩ := z_lt hw
    rw [n2zz] at gx5
    have v3 : gA z4 3 = gA o 3 := by rw [e4zz]; exact w3zz
    have t9 : ((900 : Int32) * gA z4 3 2).toInt = 900 * (l : Int) := by rw [v3]; exact i32_mul (by decide) el (by omega) (by omega)
    have tx : x5zz.toInt = ((84 + 900 * l : Nat) : Int) := by rw [gx5]; exact Eq.trans (i32_add (by decide : (84 : Int32).toInt = 84) t9 (by omega) (by omega)) (by omega)
    have i1zz : (x5zz + (1 : Int32)).toNatClampNeg = 84 + 900 * l + 1 := tnc_eq (by rw [i32_add tx (by decide : (1 : Int32).toInt = 1) (by omega) (by omega)]; omega)
    rw [i1zz] at g7
    have k23 : (gI o7 23).toInt = (k2zz : Int) := by rw [g7, e4zz]; exact hC.1.2.2.2.2.2.1
    have k21 : (gI o7 21).toInt = (n : Int) := by rw [g7, e4zz]; exact hC.2.1
    obtain ⟨x1zz, x2zz, x3, x4zz, x5', x6⟩ := w110 tx (by omega) (by omega) hC.1.2.2.2.2.2.2.2.1 hn2 zfu 0 o7 0 (by decide) (Nat.zero_le _) k23 k21 hw
    have c2zz : gA o7 3 2 = gA o 3 2 := by rw [g7, upd_at, if_neg (by omega), v3]
    have c1zz : gA o7 3 (84 + 900 * l + 1) = gI wzz 21 := by rw [g7, upd_at, if_pos rfl, e4zz]; rfl
    have cj : ∀ jzz, jzz ≠ 84 + 900 * l + 1 → gA o7 3 jzz = gA o 3 jzz := fun jzz hj => by rw [g7, upd_at, if_neg hj, v3]
    have k18 : gI o7 18 = gI wzz 18 := by rw [g7, e4zz]; rfl
    have r22 : gA o7 22 = gA wzz 22 := by rw [g7, e4zz]; rfl
    have r24 : gA o7 24 = gA wzz 24 := by rw [g7, e4zz]; rfl
    have r25 : gA o7 25 = gA wzz 25 := by rw [g7, e4zz]; rfl
    have hk2 := hC.1.2.2.2.2.2.2.2.1
    refine Or.inr ⟨a1zz, ?_, by rw [x2zz, c2zz], fun jzz hj hr => ?_, wzz, k1zz, k2zz, n, by rw [x3, k18], hn1, hn2, hC, ?_, fun kzz hk => ?_, fun kzz hk => ?_⟩
    · rw [x1zz, c2zz]
      have s1zz : (gA o 3 2 + (1 : Int32)).toInt = (l : Int) + 1 := i32_add el (by decide) (by omega) (by omega)
      exact Int32.toInt_inj.mp (by rw [i32_sub s1zz (by decide : (1 : Int32).toInt = 1) (by omega) (by omega), el]; omega)
    · rw [x4zz jzz hj (by omega)]; exact cj jzz (by omega)
    · rw [x4zz (84 + 900 * l + 1) (by omega) (Or.inl (by omega)), c1zz]; exact hC.2.1
    · rw [x5' kzz (Nat.zero_le _) hk, r22]
    · rw [← r24, ← r25]; exact x6 kzz hk
def RSt (Gzz : Nat → Int32) (Wzz : Nat → Int64) (l : Nat) (o : Ob) : Prop := gI o 20 = 0 ∧ gA o 3 = Gzz ∧ (gI o 34).toInt = 84 + 900 * (l : Int) ∧ gM o 35 = Wzz
set_option maxHeartbeats 200000 in
theorem RSt.fr {Gzz : Nat → Int32} {Wzz : Nat → Int64} {l : Nat} {o o' : Ob} (hzz : RSt Gzz Wzz l o) (fzz : FrX d_X9_isSo_me o o') : RSt Gzz Wzz l o' := ⟨(fzz.I 20 rfl).trans hzz.1, (fzz.A 3 rfl).trans hzz.2.1, by rw [fzz.I 34 rfl]; exact hzz.2.2.1, (fzz.M 35 rfl).trans hzz.2.2.2⟩
def opL (Gzz : Nat → Int32) (l : Nat) : Nat → Int32 := fun kzz => Gzz (84 + 900 * l + 98 + 2 * kzz)
def argL (Gzz : Nat → Int32) (l : Nat) : Nat → Int32 := fun kzz => Gzz (84 + 900 * l + 98 + 2 * kzz + 1)
def clL (Gzz : Nat → Int32) (l : Nat) : Nat → Int32 := fun kzz => Gzz (84 + 900 * l + 2 + kzz)
set_option maxHeartbeats 200000 in
theorem RSt.rd {Gzz : Nat → Int32} {Wzz : Nat → Int64} {l : Nat} {o : Ob} (hzz : RSt Gzz Wzz l o) (hl : l < 6) : RD (opL Gzz l) (argL Gzz l) o := Or.inl ⟨hzz.1, l, hl, hzz.2.2.1, fun kzz => by rw [hzz.2.1]; exact ⟨rfl, rfl⟩⟩
set_option maxHeartbeats 200000 in
theorem RSt.ew {Gzz : Nat → Int32} {Wzz : Nat → Int64} {l : Nat} {mezz o : Ob} (hzz : RSt Gzz Wzz l o) (hG : 0 ≤ (Gzz 0).toInt ∧ (Gzz 0).toInt ≤ 7) (hW : ∀ kzz, kzz < 9 → (gA mezz 0 kzz).toInt64 = Wzz (kzz + 1)) : EWo false mezz o := ⟨by rw [hzz.2.1]; exact hG, fun _ => ⟨hzz.1, fun kzz hk => by rw [hzz.2.2.2]; exact hW kzz hk⟩, fun qzz => by cases qzz⟩
set_option maxHeartbeats 200000 in
theorem worth_nil {nc ns : Nat} {mezz oc : Ob} {pzz qzz : Int32} {yzz : Int64 × Ob} (hzz : f_X3_worth_O nc ns mezz oc pzz qzz = some yzz) (hpq : qzz.toInt ≤ pzz.toInt) : yzz = (1, mezz) := by
  unfold f_X3_worth_O at hzz
  have hzz := z_f hzz (fun czz => by have czz := cv_lt (a := pzz.toInt) (b := qzz.toInt) rfl rfl czz; omega)
  exact (Option.some.inj hzz).symm
set_option maxHeartbeats 200000 in
theorem ixp {p0zz czz : Int32} {l mzz kzz : Nat} (hzz : p0zz.toInt = 84 + 900 * (l : Int) + 2 + 8 * (mzz : Int)) (hl : l < 6) (hmzz : mzz < 12) (hczz : czz.toInt = (kzz : Int)) (hk : kzz < 8) : (p0zz + czz).toNatClampNeg = 84 + 900 * l + 2 + (8 * mzz + kzz) := tnc_eq (by rw [i32_add hzz hczz (by omega) (by omega)]; omega)
set_option maxHeartbeats 200000 in
theorem ixp0 {p0zz : Int32} {l mzz : Nat} (hzz : p0zz.toInt = 84 + 900 * (l : Int) + 2 + 8 * (mzz : Int)) : p0zz.toNatClampNeg = 84 + 900 * l + 2 + 8 * mzz := tnc_eq (by rw [hzz]; omega)
set_option maxHeartbeats 200000 in
theorem so59 {Gzz : Nat → Int32} {Wzz : Nat → Int64} {l mzz : Nat} {o : Ob} {p0zz : Int32} {zzz : Int32 × Ob} (hs : RSt Gzz Wzz l o) (hl : l < 6) (hmzz : mzz < 12) (hp : p0zz.toInt = 84 + 900 * (l : Int) + 2 + 8 * (mzz : Int)) (hzz : bk_X9_isSo_59 p0zz o = some zzz) :
    (clL Gzz l (8 * mzz) = 3 ∧ zzz.1 = 1) ∨ (¬ clL Gzz l (8 * mzz) = 3 ∧ ∃ wzz, f_X9_reckonAll o (clL Gzz l (8 * mzz + 3)) (clL Gzz l (8 * mzz + 4)) = some wzz ∧ ((gI wzz 38 = 0 ∧ zzz.1 = 1 ∧ gL zzz.2 40 = gL wzz 39) ∨ (¬ gI wzz 38 = 0 ∧ zzz.1 = 0))) := by
  unfold bk_X9_isSo_59 at hzz
  have hzz := (z_gd hzz).2
  have i0zz := ixp0 hp
  have i3zz := ixp (czz := 3) (kzz := 3) hp hl hmzz (by decide) (by decide)
  have i4zz := ixp (czz := 4) (kzz := 4) hp hl hmzz (by decide) (by decide)
  rw [i0zz, i3zz, i4zz, hs.2.1] at hzz
  rcases z_if hzz with ⟨czz, hzz⟩ | ⟨czz, hzz⟩
  · have hzz := Option.some.inj hzz
    exact Or.inl ⟨czz, by rw [← hzz]⟩
  · have hzz := (z_gd (z_gd hzz).2).2
    obtain ⟨wzz, ezz, hzz⟩ := z_bd hzz
    obtain ⟨o7, e7zz, hzz⟩ := z_lt hzz
    refine Or.inr ⟨czz, wzz, ezz, ?_⟩
    rcases z_if hzz with ⟨c2zz, hzz⟩ | ⟨c2zz, hzz⟩
    · have hzz := Option.some.inj hzz
      rw [e7zz] at c2zz
      exact Or.inl ⟨c2zz, by rw [← hzz], by rw [← hzz, e7zz]; rfl⟩
    · have hzz := Option.some.inj hzz
      rw [e7zz] at c2zz
      exact Or.inr ⟨c2zz, by rw [← hzz]⟩
set_option maxHeartbeats 200000 in
theorem so_all {Gzz : Nat → Int32} {Wzz : Nat → Int64} {l mzz : Nat} {o : Ob} {p0zz : Int32} {zzz : Int32 × Ob} (hs : RSt Gzz Wzz l o) (hl : l < 6) (hmzz : mzz < 12) (hp : p0zz.toInt = 84 + 900 * (l : Int) + 2 + 8 * (mzz : Int)) (hzz : f_X9_isSo o p0zz = some zzz) :
    ((clL Gzz l (8 * mzz + 6)).toInt ≤ (clL Gzz l (8 * mzz + 5)).toInt ∧ bk_X9_isSo_59 p0zz o = some zzz) ∨
    ((clL Gzz l (8 * mzz + 5)).toInt < (clL Gzz l (8 * mzz + 6)).toInt ∧ ∃ wzz, f_X9_reckonAll o (clL Gzz l (8 * mzz + 5)) (clL Gzz l (8 * mzz + 6)) = some wzz ∧ ((gI wzz 38 = 0 ∧ ((gL wzz 39 = 0 ∧ zzz.1 = 0) ∨ (¬ gL wzz 39 = 0 ∧ bk_X9_isSo_59 p0zz wzz = some zzz))) ∨ (¬ gI wzz 38 = 0 ∧ zzz.1 = 0))) := by
  unfold f_X9_isSo at hzz
  have hzz := (z_gd (z_gd hzz).2).2
  have i5zz := ixp (czz := 5) (kzz := 5) hp hl hmzz (by decide) (by decide)
  have i6zz := ixp (czz := 6) (kzz := 6) hp hl hmzz (by decide) (by decide)
  rw [i5zz, i6zz, hs.2.1] at hzz
  rcases z_if hzz with ⟨czz, hzz⟩ | ⟨czz, hzz⟩
  · exact Or.inl ⟨cv_le rfl rfl czz, hzz⟩
  · have hzz := (z_gd (z_gd hzz).2).2
    obtain ⟨wzz, ezz, hzz⟩ := z_bd hzz
    refine Or.inr ⟨cv_nle rfl rfl czz, wzz, ezz, ?_⟩
    rcases z_if hzz with ⟨c2zz, hzz⟩ | ⟨c2zz, hzz⟩
    · refine Or.inl ⟨c2zz, ?_⟩
      rcases z_if hzz with ⟨c3zz, hzz⟩ | ⟨c3zz, hzz⟩
      · have hzz := Option.some.inj hzz
        exact Or.inl ⟨(lg_cmp_eq _ _).mp c3zz, by rw [← hzz]⟩
      · exact Or.inr ⟨fun qzz => c3zz ((lg_cmp_eq _ _).mpr qzz), hzz⟩
    · have hzz := Option.some.inj hzz
      exact Or.inr ⟨c2zz, by rw [← hzz]⟩
def RNo (Gzz : Nat → Int32) (Wzz : Nat → Int64) (l mzz : Nat) : Prop := ∀ (o : Ob) (p0zz : Int32) (zzz : Int32 × Ob), RSt Gzz Wzz l o → p0zz.toInt = 84 + 900 * (l : Int) + 2 + 8 * (mzz : Int) → f_X9_isSo o p0zz = some zzz → zzz.1 = 0
def RYes (Gzz : Nat → Int32) (Wzz : Nat → Int64) (l mzz : Nat) (vzz : Int64) : Prop := ∀ (o : Ob) (p0zz : Int32) (zzz : Int32 × Ob), RSt Gzz Wzz l o → p0zz.toInt = 84 + 900 * (l : Int) + 2 + 8 * (mzz : Int) → f_X9_isSo o p0zz = some zzz → ¬ zzz.1 = 0 ∧ (¬ clL Gzz l (8 * mzz) = 3 → gL zzz.2 40 = vzz)
set_option maxHeartbeats 200000 in
theorem reck_fr {o wzz : Ob} {azz bzz : Int32} (ezz : f_X9_reckonAll o azz bzz = some wzz) : FrX d_X9_isSo_me o wzz := (fr_f_X9_reckonAll ezz).mono rfl
set_option maxHeartbeats 200000 in
theorem so_one {nc ns : Nat} {oc mezz : Ob} {Gzz : Nat → Int32} {Wzz : Nat → Int64} {l mzz K1 K2 : Nat} {y1 : Int64 × Ob} (hl : l < 6) (hmzz : mzz < 12) (hK8 : (gI oc 8).toInt = (K1 : Int)) (hK1 : K1 ≤ 400) (hK2 : K2 ≤ 400) (hczz : ClE false oc (clL Gzz l) (opL Gzz l) (argL Gzz l) mzz K1 K2) (hG : 0 ≤ (Gzz 0).toInt ∧ (Gzz 0).toInt ≤ 7) (hW : ∀ kzz, kzz < 9 → (gA mezz 0 kzz).toInt64 = Wzz (kzz + 1))
    (h1 : f_X3_worth_O nc ns mezz oc (gA oc 3 mzz) (gA oc 4 mzz) = some y1) :
    (¬ y1.1 = 1 → RNo Gzz Wzz l mzz) ∧ (y1.1 = 1 → ∀ y3, f_X3_worth_O nc ns y1.2 oc (gA oc 2 mzz) (gA oc 3 mzz) = some y3 → (y3.1 = -9000000000000000000 → RNo Gzz Wzz l mzz) ∧ (¬ y3.1 = -9000000000000000000 → RYes Gzz Wzz l mzz y3.1)) := by
  obtain ⟨a1zz, b1, c1zz, a2, b2, c2zz, d2zz, k0zz, kr, ea1, eb1, ec1, ea2, eb2, ec2, ed2, ⟨l1, l2, l3, l4, l5⟩, hsum, htst, -⟩ := hczz
  have sf : sfo false = 3 := rfl
  rw [sf] at ea2 eb2
  have k0' : gA oc 0 mzz = clL Gzz l (8 * mzz) := k0zz
  have e4zz : clL Gzz l (8 * mzz + (3 + 1)) = clL Gzz l (8 * mzz + 4) := rfl
  rw [e4zz] at eb2
  have tst : ∀ (o : Ob) (p0zz : Int32) (zzz : Int32 × Ob), RSt Gzz Wzz l o → p0zz.toInt = 84 + 900 * (l : Int) + 2 + 8 * (mzz : Int) → f_X9_isSo o p0zz = some zzz → (¬ y1.1 = 1 ∧ zzz.1 = 0) ∨ (y1.1 = 1 ∧ ∃ o', RSt Gzz Wzz l o' ∧ bk_X9_isSo_59 p0zz o' = some zzz) := by
    intro o p0zz zzz hs hp hz
    rcases so_all hs hl hmzz hp hz with ⟨qzz, hz⟩ | ⟨qzz, wzz, ew, hz⟩
    · rcases htst with ⟨t1zz, t2zz⟩ | ⟨n, hn, hx⟩
      · have uzz := worth_nil h1 (by omega)
        exact Or.inr ⟨by rw [uzz], o, hs, hz⟩
      · have := hx.lt; omega
    · rcases htst with ⟨t1zz, t2zz⟩ | ⟨n, hn, hx⟩
      · omega
      · have hs' := hs.fr (reck_fr ew)
        rcases ev_all hx hn (by omega) (by omega) (by omega) eb1 ec1 ec2 ed2 (hs.ew hG hW) (hs.rd hl) h1 ew with ⟨u1zz, u2zz⟩ | ⟨u1zz, u2zz, -, u4zz⟩
        · have nb : ¬ y1.1 = 1 := by rw [u1zz]; decide
          rcases hz with ⟨gzz, -⟩ | ⟨-, gzz⟩
          · rw [u2zz] at gzz; exact absurd gzz (by decide)
          · exact Or.inl ⟨nb, gzz⟩
        · rcases hz with ⟨-, gzz⟩ | ⟨gzz, -⟩
          · rcases gzz with ⟨g1, g2⟩ | ⟨g1, g2⟩
            · exact Or.inl ⟨by rw [u2zz, g1]; decide, g2⟩
            · refine Or.inr ⟨?_, wzz, hs', g2⟩
              rcases u4zz rfl with uzz | uzz
              · exact absurd (u2zz.symm.trans uzz) g1
              · exact uzz
          · exact absurd u1zz gzz
  refine ⟨fun ny o p0zz zzz hs hp hz => ?_, fun yy y3 h3 => ?_⟩
  · rcases tst o p0zz zzz hs hp hz with ⟨-, gzz⟩ | ⟨gzz, -⟩
    · exact gzz
    · exact absurd gzz ny
  · have hW3 : ∀ kzz, kzz < 9 → (gA y1.2 0 kzz).toInt64 = Wzz (kzz + 1) := by
      intro kzz hk
      rw [(fr_f_X3_worth_O h1).A 0 rfl]; exact hW kzz hk
    refine ⟨fun hbzz o p0zz zzz hs hp hz => ?_, fun hbzz o p0zz zzz hs hp hz => ?_⟩
    · rcases tst o p0zz zzz hs hp hz with ⟨gzz, -⟩ | ⟨-, o', hs', hz'⟩
      · exact absurd yy gzz
      · rcases so59 hs' hl hmzz hp hz' with ⟨gzz, -⟩ | ⟨gzz, wzz, ew, hw⟩
        · rcases hsum with ⟨s1zz, s2zz, s3zz⟩ | ⟨s1zz, -⟩
          · have uzz := worth_nil h3 (by omega)
            have hb' : (1 : Int64) = -9000000000000000000 := by rw [uzz] at hbzz; exact hbzz
            exact absurd hb' (by decide)
          · exact absurd (k0'.trans gzz) s1zz
        · rcases hsum with ⟨s1zz, -⟩ | ⟨s1zz, n, hn, hb2, hx⟩
          · exact absurd (k0'.symm.trans s1zz) gzz
          · rcases ev_all hx hn (by omega) (by omega) (by omega) ea1 eb1 ea2 eb2 (hs'.ew hG hW3) (hs'.rd hl) h3 ew with ⟨u1zz, u2zz⟩ | ⟨u1zz, u2zz, u3, -⟩
            · rcases hw with ⟨qzz, -⟩ | ⟨-, qzz⟩
              · rw [u2zz] at qzz; exact absurd qzz (by decide)
              · exact qzz
            · rw [hbzz] at u3
              exact absurd u3 (by decide)
    · rcases tst o p0zz zzz hs hp hz with ⟨gzz, -⟩ | ⟨-, o', hs', hz'⟩
      · exact absurd yy gzz
      · rcases so59 hs' hl hmzz hp hz' with ⟨gzz, g2⟩ | ⟨gzz, wzz, ew, hw⟩
        · exact ⟨by rw [g2]; decide, fun qzz => absurd gzz qzz⟩
        · rcases hsum with ⟨s1zz, -⟩ | ⟨s1zz, n, hn, hb2, hx⟩
          · exact absurd (k0'.symm.trans s1zz) gzz
          · rcases ev_all hx hn (by omega) (by omega) (by omega) ea1 eb1 ea2 eb2 (hs'.ew hG hW3) (hs'.rd hl) h3 ew with ⟨u1zz, u2zz⟩ | ⟨u1zz, u2zz, u3, -⟩
            · exact absurd u1zz hbzz
            · rcases hw with ⟨-, q1zz, q2zz⟩ | ⟨qzz, -⟩
              · exact ⟨by rw [q1zz]; decide, fun _ => q2zz.trans u2zz.symm⟩
              · exact absurd u1zz qzz
def TCe (Gzz : Nat → Int32) (Wzz : Nat → Int64) (oc : Ob) (l : Nat) (Kzz : Int32) (n : Nat) (yzz : Int64) : Prop :=
  (yzz = -9000000000000000000 ∧ ∀ mzz, mzz < n → gA oc 0 mzz = Kzz → RNo Gzz Wzz l mzz) ∨ (¬ yzz = -9000000000000000000 ∧ ∃ mzz, mzz < n ∧ gA oc 0 mzz = Kzz ∧ RYes Gzz Wzz l mzz yzz ∧ ∀ m', mzz < m' → m' < n → gA oc 0 m' = Kzz → RNo Gzz Wzz l m')
set_option maxHeartbeats 200000 in
theorem tol_lp {nc ns : Nat} {azz bzz czz oc : Ob} {Gzz : Nat → Int32} {Wzz : Nat → Int64} {l n K1 K2 : Nat} {Kzz : Int32} {yzz : Int64 × Ob} (hl : l < 6) (hn : n ≤ 12) (hK8 : (gI oc 8).toInt = (K1 : Int)) (hK1 : K1 ≤ 400) (hK2 : K2 ≤ 400) (hczz : ∀ mzz, mzz < n → ClE false oc (clL Gzz l) (opL Gzz l) (argL Gzz l) mzz K1 K2) (hG : 0 ≤ (Gzz 0).toInt ∧ (Gzz 0).toInt ≤ 7) :
    ∀ (Nzz : Nat) (v6 : Int32) (mezz : Ob) (izz : Nat), v6.toInt = (izz : Int) - 1 → izz ≤ n → (∀ kzz, kzz < 9 → (gA mezz 0 kzz).toInt64 = Wzz (kzz + 1)) → lp_X1_told_O_51 nc ns azz bzz czz oc Nzz (Kzz, v6, mezz) = some yzz → TCe Gzz Wzz oc l Kzz izz yzz.1 := by
  intro Nzz
  induction Nzz with
  | zero => intro v6 mezz izz _ _ _ hzz; cases hzz
  | succ Nzz ihzz =>
    intro v6 mezz izz e6zz hizz hW hzz
    have hzz : lb_X1_told_O_51 nc ns azz bzz czz oc (lp_X1_told_O_51 nc ns azz bzz czz oc Nzz) Kzz v6 mezz = some yzz := hzz
    unfold lb_X1_told_O_51 at hzz
    rcases z_if hzz with ⟨c0zz, hzz⟩ | ⟨c0zz, hzz⟩
    · have hzz := Option.some.inj hzz
      have c0zz := cv_lt (a := (izz : Int) - 1) (b := 0) e6zz (by decide) c0zz
      have ei : izz = 0 := by omega
      subst ei
      exact Or.inl ⟨by rw [← hzz], fun mzz hmzz => absurd hmzz (by omega)⟩
    · have c0zz := cv_nlt (a := (izz : Int) - 1) (b := 0) e6zz (by decide) c0zz
      have hzz := (z_gd hzz).2
      obtain ⟨jzz, ej⟩ : ∃ jzz, izz = jzz + 1 := ⟨izz - 1, by omega⟩
      subst ej
      have i6zz : v6.toNatClampNeg = jzz := tnc_eq (by rw [e6zz]; omega)
      rw [i6zz] at hzz
      have t7 : (v6 + (-1 : Int32)).toInt = (jzz : Int) - 1 := Eq.trans (i32_add e6zz (by decide : (-1 : Int32).toInt = -1) (by omega) (by omega)) (by omega)
      have lowzz : ∀ (me' : Ob), (∀ kzz, kzz < 9 → (gA me' 0 kzz).toInt64 = Wzz (kzz + 1)) → bk_X1_told_O_130 nc ns azz bzz czz oc (lp_X1_told_O_51 nc ns azz bzz czz oc Nzz) Kzz v6 me' = some yzz → (gA oc 0 jzz = Kzz → RNo Gzz Wzz l jzz) → TCe Gzz Wzz oc l Kzz (jzz + 1) yzz.1 := by
        intro me' hW' hbzz hno
        unfold bk_X1_told_O_130 at hbzz
        obtain ⟨x6, exzz, hbzz⟩ := z_lt hbzz
        rw [← exzz] at t7
        rcases ihzz x6 me' jzz t7 (by omega) hW' hbzz with ⟨g1, g2⟩ | ⟨g1, mzz, g2, g3zz, g4, g5zz⟩
        · refine Or.inl ⟨g1, fun mzz hmzz hk => ?_⟩
          by_cases qzz : mzz = jzz
          · subst qzz; exact hno hk
          · exact g2 mzz (by omega) hk
        · refine Or.inr ⟨g1, mzz, by omega, g3zz, g4, fun m' h1 h2 hk => ?_⟩
          by_cases qzz : m' = jzz
          · subst qzz; exact hno hk
          · exact g5zz m' h1 (by omega) hk
      rcases z_if hzz with ⟨c1zz, hzz⟩ | ⟨c1zz, hzz⟩
      · have hzz := (z_gd (z_gd hzz).2).2
        obtain ⟨z9, e9zz, hzz⟩ := z_bd hzz
        have so := so_one hl (by omega) hK8 hK1 hK2 (hczz jzz (by omega)) hG hW e9zz
        have hW9 : ∀ kzz, kzz < 9 → (gA z9.2 0 kzz).toInt64 = Wzz (kzz + 1) := fun kzz hk => by rw [(fr_f_X3_worth_O e9zz).A 0 rfl]; exact hW kzz hk
        rcases z_if hzz with ⟨c2zz, hzz⟩ | ⟨c2zz, hzz⟩
        · have c2zz := (lg_cmp_eq _ _).mp c2zz
          have hzz := (z_gd (z_gd hzz).2).2
          obtain ⟨z12, e12zz, hzz⟩ := z_bd hzz
          have so := so.2 c2zz z12 e12zz
          have hW12 : ∀ kzz, kzz < 9 → (gA z12.2 0 kzz).toInt64 = Wzz (kzz + 1) := fun kzz hk => by rw [(fr_f_X3_worth_O e12zz).A 0 rfl]; exact hW9 kzz hk
          rcases z_if hzz with ⟨c3zz, hzz⟩ | ⟨c3zz, hzz⟩
          · exact lowzz z12.2 hW12 hzz (fun _ => so.1 ((lg_cmp_eq _ _).mp c3zz))
          · have hzz := Option.some.inj hzz
            have nb : ¬ z12.1 = -9000000000000000000 := fun qzz => c3zz ((lg_cmp_eq _ _).mpr qzz)
            rw [← hzz]
            exact Or.inr ⟨nb, jzz, by omega, c1zz, so.2 nb, fun m' h1 h2 => absurd h1 (by omega)⟩
        · exact lowzz z9.2 hW9 hzz (fun _ => so.1 (fun qzz => c2zz ((lg_cmp_eq _ _).mpr qzz)))
      · exact lowzz mezz hW hzz (fun qzz => absurd qzz c1zz)
set_option maxHeartbeats 200000 in
theorem tel_lp {oc : Ob} {Gzz : Nat → Int32} {Wzz : Nat → Int64} {l n K1 K2 : Nat} {Kzz : Int32} {vzz wo : Int64} {yzz : Int64 × Ob} (hl : l < 6) (hn : n ≤ 12) (hn1 : (Gzz (84 + 900 * l + 1)).toInt = (n : Int)) (hczz : ∀ mzz, mzz < n → ClE false oc (clL Gzz l) (opL Gzz l) (argL Gzz l) mzz K1 K2) (hv : TCe Gzz Wzz oc l Kzz n vzz) :
    ∀ (Nzz : Nat) (v7 : Int64) (v9 : Int32) (o : Ob) (izz : Nat), v9.toInt = (izz : Int) → izz ≤ n → RSt Gzz Wzz l o → ((vzz = -9000000000000000000 → v7 = wo) ∧ (¬ vzz = -9000000000000000000 → (∃ mzz, mzz < izz ∧ mzz < n ∧ gA oc 0 mzz = Kzz ∧ RYes Gzz Wzz l mzz vzz ∧ ∀ m', mzz < m' → m' < n → gA oc 0 m' = Kzz → RNo Gzz Wzz l m') → v7 = if Kzz = 3 then 1 else vzz)) →
      lp_X9_tells_159 Nzz (Kzz, v7, v9, o) = some yzz → (vzz = -9000000000000000000 ∧ yzz.1 = wo) ∨ (¬ vzz = -9000000000000000000 ∧ yzz.1 = if Kzz = 3 then 1 else vzz) := by
  intro Nzz
  induction Nzz with
  | zero => intro v7 v9 o izz _ _ _ _ hzz; cases hzz
  | succ Nzz ihzz =>
    intro v7 v9 o izz e9zz hizz hs hI hzz
    have hzz : lb_X9_tells_159 (lp_X9_tells_159 Nzz) Kzz v7 v9 o = some yzz := hzz
    unfold lb_X9_tells_159 at hzz
    have hzz := (z_gd hzz).2
    have i1zz : (gI o 34 + (1 : Int32)).toNatClampNeg = 84 + 900 * l + 1 := tnc_eq (by rw [i32_add hs.2.2.1 (by decide : (1 : Int32).toInt = 1) (by omega) (by omega)]; omega)
    rw [i1zz, hs.2.1] at hzz
    rcases z_if hzz with ⟨c0zz, hzz⟩ | ⟨c0zz, hzz⟩
    · have c0zz := cv_le (a := (n : Int)) (b := (izz : Int)) hn1 e9zz c0zz
      have hzz := Option.some.inj hzz
      rw [← hzz]
      by_cases qzz : vzz = -9000000000000000000
      · exact Or.inl ⟨qzz, hI.1 qzz⟩
      · refine Or.inr ⟨qzz, hI.2 qzz ?_⟩
        rcases hv with ⟨gzz, -⟩ | ⟨-, mzz, g2, g3zz, g4, g5zz⟩
        · exact absurd gzz qzz
        · exact ⟨mzz, by omega, g2, g3zz, g4, g5zz⟩
    · have c0zz := cv_nle (a := (n : Int)) (b := (izz : Int)) hn1 e9zz c0zz
      obtain ⟨x15, exzz, hzz⟩ := z_lt hzz
      have hzz := (z_gd hzz).2
      have tx : x15.toInt = 84 + 900 * (l : Int) + 2 + 8 * (izz : Int) := by
        rw [exzz]
        exact i32_add (i32_add hs.2.2.1 (by decide : (2 : Int32).toInt = 2) (by omega) (by omega)) (i32_mul (by decide : (8 : Int32).toInt = 8) e9zz (by omega) (by omega)) (by omega) (by omega)
      have ix := ixp0 tx
      rw [ix] at hzz
      have t10 : (v9 + (1 : Int32)).toInt = ((izz + 1 : Nat) : Int) := Eq.trans (i32_add e9zz (by decide : (1 : Int32).toInt = 1) (by omega) (by omega)) (by omega)
      have kk : gA oc 0 izz = clL Gzz l (8 * izz) := by
        obtain ⟨_, _, _, _, _, _, _, k0zz, -⟩ := hczz izz (by omega)
        exact k0zz
      have nxtzz : ∀ (w7zz : Int64) (o' : Ob), RSt Gzz Wzz l o' → ((vzz = -9000000000000000000 → w7zz = wo) ∧ (¬ vzz = -9000000000000000000 → (∃ mzz, mzz < izz + 1 ∧ mzz < n ∧ gA oc 0 mzz = Kzz ∧ RYes Gzz Wzz l mzz vzz ∧ ∀ m', mzz < m' → m' < n → gA oc 0 m' = Kzz → RNo Gzz Wzz l m') → w7zz = if Kzz = 3 then 1 else vzz)) → bk_X9_tells_224 (lp_X9_tells_159 Nzz) Kzz w7zz v9 o' = some yzz → (vzz = -9000000000000000000 ∧ yzz.1 = wo) ∨ (¬ vzz = -9000000000000000000 ∧ yzz.1 = if Kzz = 3 then 1 else vzz) := by
        intro w7zz o' hs' hI' hbzz
        unfold bk_X9_tells_224 at hbzz
        obtain ⟨x17, e17zz, hbzz⟩ := z_lt hbzz
        rw [← e17zz] at t10
        exact ihzz w7zz x17 o' (izz + 1) t10 (by omega) hs' hI' hbzz
      have keepzz : (∀ (mzz : Nat), mzz = izz → gA oc 0 mzz = Kzz → RYes Gzz Wzz l mzz vzz → False) → ((vzz = -9000000000000000000 → v7 = wo) ∧ (¬ vzz = -9000000000000000000 → (∃ mzz, mzz < izz + 1 ∧ mzz < n ∧ gA oc 0 mzz = Kzz ∧ RYes Gzz Wzz l mzz vzz ∧ ∀ m', mzz < m' → m' < n → gA oc 0 m' = Kzz → RNo Gzz Wzz l m') → v7 = if Kzz = 3 then 1 else vzz)) := by
        intro hno
        refine ⟨hI.1, fun qzz ⟨mzz, m1zz, m2zz, m3zz, m4zz, m5zz⟩ => hI.2 qzz ⟨mzz, ?_, m2zz, m3zz, m4zz, m5zz⟩⟩
        by_cases qq : mzz = izz
        · exact absurd m4zz (fun zzz => hno mzz qq m3zz zzz)
        · omega
      rcases z_if hzz with ⟨c1zz, hzz⟩ | ⟨c1zz, hzz⟩
      · obtain ⟨z18, e18zz, hzz⟩ := z_bd hzz
        have hs8 : RSt Gzz Wzz l z18.2 := hs.fr (fr_f_X9_isSo e18zz)
        have kK : gA oc 0 izz = Kzz := kk.trans c1zz
        rcases z_if hzz with ⟨c2zz, hzz⟩ | ⟨c2zz, hzz⟩
        · exact nxtzz v7 z18.2 hs8 (keepzz (fun mzz em _ hy => by subst em; exact (hy o x15 z18 hs tx e18zz).1 c2zz)) hzz
        ·
          have hval : ¬ vzz = -9000000000000000000 → (∃ mzz, mzz < izz + 1 ∧ mzz < n ∧ gA oc 0 mzz = Kzz ∧ RYes Gzz Wzz l mzz vzz ∧ ∀ m', mzz < m' → m' < n → gA oc 0 m' = Kzz → RNo Gzz Wzz l m') → (Kzz = 3 ∨ gL z18.2 40 = vzz) := by
            intro qzz ⟨mzz, m1zz, m2zz, m3zz, m4zz, m5zz⟩
            by_cases qq : mzz = izz
            · subst qq
              by_cases q3zz : Kzz = 3
              · exact Or.inl q3zz
              · exact Or.inr ((m4zz o x15 z18 hs tx e18zz).2 (fun zzz => q3zz (kK.symm.trans (kk.trans zzz))))
            · exact absurd (m5zz izz (by omega) (by omega) kK o x15 z18 hs tx e18zz) c2zz
          have hbrk : ¬ vzz = -9000000000000000000 := by
            intro qzz
            rcases hv with ⟨-, gzz⟩ | ⟨gzz, -⟩
            · exact c2zz (gzz izz (by omega) kK o x15 z18 hs tx e18zz)
            · exact gzz qzz
          rcases z_if hzz with ⟨c3zz, hzz⟩ | ⟨c3zz, hzz⟩
          · unfold bk_X9_tells_222 at hzz
            exact nxtzz 1 z18.2 hs8 ⟨fun qzz => absurd qzz hbrk, fun _ _ => by rw [if_pos c3zz]⟩ hzz
          · unfold bk_X9_tells_222 at hzz
            refine nxtzz (gL z18.2 40) z18.2 hs8 ⟨fun qzz => absurd qzz hbrk, fun qzz wzz => ?_⟩ hzz
            rw [if_neg c3zz]
            rcases hval qzz wzz with uzz | uzz
            · exact absurd uzz c3zz
            · exact uzz
      · exact nxtzz v7 o hs (keepzz (fun mzz em hk _ => by subst em; exact c1zz (kk.symm.trans hk))) hzz
