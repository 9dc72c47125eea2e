-- a whole expression within a clause
def XS (od : Bool) (rd oc o : Ob) (k1zz k2zz : Nat) : Prop := TT rd o ∧ gI o 19 = 0 ∧ gI rd 5 = gI o 26 ∧ (0 ≤ (gI o 26).toInt ∧ (gI o 26).toInt ≤ 50) ∧ (gI oc 8).toInt = (k1zz : Int) ∧ (gI o 23).toInt = (k2zz : Int) ∧ (k1zz : Int) ≤ (gI o 14).toInt ∧ k2zz ≤ 400 ∧ MD od rd o
def XOut (t : Bool) (od : Bool) (rd oc o : Ob) (zzz : Int32 × Ob × Ob) (yzz : Ob) (k1zz k2zz : Nat) : Prop := Bad rd oc o zzz yzz ∨ (zzz.1 = 1 ∧ ∃ (k1' k2' n : Nat), XS od zzz.2.1 zzz.2.2 yzz k1' k2' ∧ RF o yzz ∧ CF rd oc zzz.2.1 zzz.2.2 ∧ (∀ jzz, jzz < k1zz → gA zzz.2.2 5 jzz = gA oc 5 jzz ∧ gA zzz.2.2 6 jzz = gA oc 6 jzz) ∧ ckp k2zz o yzz ∧ n ≤ 50 ∧ Sx od (gA zzz.2.2 5) (gA zzz.2.2 6) (gA yzz 24) (gA yzz 25) t k1zz k1' k2zz k2' n)
set_option maxHeartbeats 200000 in
theorem x_fin {od t : Bool} {o rd' oc' o' yzz : Ob} {k1zz k2zz k1' k2' b' n : Nat} {L : Int} (hL : 1 ≤ L) (h1 : PSt od rd' oc' o' k1' k2' 0 b') (h3 : RF o o') (h10 : (gI o' 26).toInt = (gI o 26).toInt + (n : Int)) (h0n : 0 ≤ (gI o 26).toInt)
    (h11 : PEs L o' 0 (fun o3zz => ∃ k3zz : Nat, (gI o3zz 23).toInt = (k3zz : Int) ∧ k3zz ≤ 400 ∧ ckp k2zz o o3zz ∧ Sx od (gA oc' 5) (gA oc' 6) (gA o3zz 24) (gA o3zz 25) t k1zz k1' k2zz k3zz n)) (ezz : f_X9_settle o' 1 = some yzz) :
    ∃ k3zz : Nat, XS od rd' oc' yzz k1' k3zz ∧ RF o yzz ∧ ckp k2zz o yzz ∧ n ≤ 50 ∧ Sx od (gA oc' 5) (gA oc' 6) (gA yzz 24) (gA yzz 25) t k1zz k1' k2zz k3zz n := by
  obtain ⟨hTzz, h19, e5zz, hr, ek1, ek2, hp, eb, hb', hk2, hMzz⟩ := h1
  have hone : (1 : Int32).toInt = 1 := by decide
  obtain ⟨s1zz, s2zz, k3zz, s3zz, s4zz, s5, s6zz⟩ := h11.done FR9.rf (Nat.zero_le _) (by decide) (by rw [hone]; exact hL) (Or.inl rfl) ezz
  refine ⟨k3zz, ⟨hTzz.cg rfl rfl rfl rfl rfl rfl (s2zz.1 13 (by decide) (by decide)) (s2zz.2.2.1 12 (by decide) (by decide)) (s2zz.1 14 (by decide) (by decide)) (s2zz.1 15 (by decide) (by decide)) (s2zz.1 16 (by decide) (by decide)) (congrFun s2zz.2.1 17), (s2zz.1 19 (by decide) (by decide)).trans h19, ?_, ?_, ek1, s3zz, ?_, s4zz, hMzz.fr (CF.rf (oc := oc')) s2zz.rr⟩, h3.tr s2zz.rr, s5, by omega, s6zz⟩
  · rw [s2zz.1 26 (by decide) (by decide)]; exact e5zz
  · rw [s2zz.1 26 (by decide) (by decide)]; exact hr
  · rw [s2zz.1 14 (by decide) (by decide)]; omega
set_option maxHeartbeats 200000 in
theorem x_begin {od : Bool} {rd oc o o2 : Ob} {k1zz k2zz : Nat} (hzz : XS od rd oc o k1zz k2zz) (gzz : o2 = sI (sI o 29 0) 30 0) : PSt od rd oc o2 k1zz k2zz 0 0 ∧ RF o o2 ∧ ckp k2zz o o2 ∧ gI o2 30 = 0 ∧ gI o2 26 = gI o 26 := by
  obtain ⟨hTzz, h19, e5zz, hr, ek1, ek2, hp, hk2, hMzz⟩ := hzz
  have i2zz : ∀ izz, izz ≠ 29 → izz ≠ 30 → gI o2 izz = gI o izz := fun izz azz bzz => by rw [gzz]; exact (fset_ne bzz).trans (fset_ne azz)
  have A2 : ∀ izz, gA o2 izz = gA o izz := fun izz => by rw [gzz]; rfl
  have r2 : RF o o2 := ⟨fun izz _ _ _ _ _ _ _ azz bzz => i2zz izz azz bzz, fun izz _ _ _ _ => A2 izz, by rw [gzz]; rfl⟩
  have hT2 : TT rd o2 := hTzz.cg rfl rfl rfl rfl rfl rfl (i2zz 13 (by decide) (by decide)) (A2 12) (i2zz 14 (by decide) (by decide)) (i2zz 15 (by decide) (by decide)) (i2zz 16 (by decide) (by decide)) (by rw [gzz]; rfl)
  have k29 : gI o2 29 = 0 := by rw [gzz]; rfl
  have k30 : gI o2 30 = 0 := by rw [gzz]; rfl
  refine ⟨⟨hT2, (i2zz 19 (by decide) (by decide)).trans h19, e5zz.trans (i2zz 26 (by decide) (by decide)).symm, ?_, ek1, ?_, ?_, ?_, Nat.zero_le _, hk2, hMzz.fr (CF.rf (oc := oc)) r2⟩, r2, fun jzz hj => ⟨by rw [A2 24], by rw [A2 25]⟩, k30, i2zz 26 (by decide) (by decide)⟩
  · rw [i2zz 26 (by decide) (by decide)]; exact hr
  · rw [i2zz 23 (by decide) (by decide)]; exact ek2
  · rw [i2zz 14 (by decide) (by decide)]; omega
  · rw [k29]; decide
set_option maxHeartbeats 200000 in
theorem x_sum {od : Bool} {rd oc o yzz : Ob} {k1zz k2zz : Nat} {zzz : Int32 × Ob × Ob} (hzz : XS od rd oc o k1zz k2zz) (h1 : fx_X6_readSum 12 400 10 rd oc 0 = some zzz) (hy : f_X9_readExpression o 0 = some yzz) : XOut false od rd oc o zzz yzz k1zz k2zz := by
  unfold f_X9_readExpression at hy
  obtain ⟨o1, g1, hy⟩ := z_lt hy
  obtain ⟨o2, g2, hy⟩ := z_lt hy
  have hy := z_t hy rfl
  unfold bk_X9_readExpression_19 at hy
  obtain ⟨Pzz, r2, ck, k30, k26⟩ := x_begin hzz (g2.trans (by rw [g1]))
  rcases sums_all 10 od rd oc o2 yzz k1zz k2zz 0 0 zfu 0 0 zzz Pzz k30 (by decide) (by decide) (Or.inl rfl) h1 hy with gb | ⟨z1, Nzz, o', n, k1', hy, ⟨k2', b', q0, q1zz, q2zz, q3zz, q4zz, q5zz, q6zz, q7zz, q8zz, q9zz, q10zz, q11zz⟩, hno⟩
  · exact Or.inl (gb.tr r2 CF.rf)
  · obtain ⟨N', zr, hbs, hy⟩ := ex_sum q1zz.2.1 hy
    obtain ⟨op, hb71, hop⟩ := bs_norm q1zz.1 hbs
    have eop := hno.op hop
    rw [eop] at hb71
    unfold bk_X9_behindSum_71 at hb71
    obtain ⟨z6, ez6, hb71⟩ := z_bd (z_t hb71 rfl)
    have e6zz : z6 = -1 := inn_no q1zz.2.2.2.2.2.2.2.1 q1zz.2.2.2.2.2.2.2.2.1 (fun jzz hj => by have := q6zz jzz (Nat.zero_le _) hj; omega) zfu 0 0 (by decide) (Nat.zero_le _) ez6
    have hb71 := z_t (z_t (z_f hb71 (by rw [e6zz]; decide)) e6zz) rfl
    rw [← Option.some.inj hb71] at hy
    have es := ex_over q1zz.2.1 hy
    obtain ⟨k3zz, x1zz, x2zz, x3, x4zz, x5zz⟩ := x_fin (by decide) q1zz q3zz q10zz (by rw [k26]; exact hzz.2.2.2.1.1) q11zz es
    exact Or.inr ⟨z1, k1', k3zz, n, x1zz, r2.tr x2zz, q4zz, q8zz, ck.tr x3, x4zz, x5zz⟩
set_option maxHeartbeats 200000 in
theorem x_test {od : Bool} {rd oc o yzz : Ob} {k1zz k2zz : Nat} {zzz : Int32 × Ob × Ob} (hzz : XS od rd oc o k1zz k2zz) (h1 : fx_X6_readTest 12 400 10 rd oc 0 = some zzz) (hy : f_X9_readExpression o 1 = some yzz) : XOut true od rd oc o zzz yzz k1zz k2zz := by
  unfold f_X9_readExpression at hy
  obtain ⟨o1, g1, hy⟩ := z_lt hy
  obtain ⟨o2, g2, hy⟩ := z_lt hy
  have hy := z_f hy (by decide)
  unfold bk_X9_readExpression_19 at hy
  obtain ⟨Pzz, r2, ck, k30, k26⟩ := x_begin hzz (g2.trans (by rw [g1]))
  rcases tests_all 10 od rd oc o2 yzz k1zz k2zz 0 0 zfu 1 0 zzz Pzz k30 (by decide) (by decide) (by decide) (Or.inl rfl) h1 hy with gb | ⟨z1, Nzz, o', n, k1', hy, ⟨k2', b', q0, q1zz, q2zz, q3zz, q4zz, q5zz, q6zz, q7zz, q8zz, q9zz, q10zz, q11zz⟩, hno⟩
  · exact Or.inl (gb.tr r2 CF.rf)
  · obtain ⟨N', zr, hbt, hy⟩ := ex_test q1zz.2.1 hy
    unfold f_X9_behindTest at hbt
    obtain ⟨zw1, ew1, hbt⟩ := z_bd hbt
    have ua : zw1 = 0 := by
      rcases w9 (R := [4, 14, 1]) q1zz.1 (all_dig (by decide)) (by decide) (by decide) ew1 with ⟨uzz, -⟩ | ⟨-, uzz⟩
      · exact uzz
      · exact absurd uzz hno.1
    obtain ⟨zw2, ew2, hbt⟩ := z_bd (z_t hbt ua)
    have uc : zw2 = 0 := by
      rcases w9 (R := [18, 15]) q1zz.1 (all_dig (by decide)) (by decide) (by decide) ew2 with ⟨uzz, -⟩ | ⟨-, uzz⟩
      · exact uzz
      · exact absurd uzz hno.2
    obtain ⟨z7, ez7, hbt⟩ := z_bd (z_t hbt uc)
    have e7zz : z7 = -1 := inn_no q1zz.2.2.2.2.2.2.2.1 q1zz.2.2.2.2.2.2.2.2.1 (fun jzz hj => by have := q6zz jzz (Nat.zero_le _) hj; omega) zfu 0 0 (by decide) (Nat.zero_le _) ez7
    have hbt := z_t hbt e7zz
    rw [← Option.some.inj hbt] at hy
    have es := ex_over q1zz.2.1 hy
    obtain ⟨k3zz, x1zz, x2zz, x3, x4zz, x5zz⟩ := x_fin (by decide) q1zz q3zz q10zz (by rw [k26]; exact hzz.2.2.2.1.1) q11zz es
    exact Or.inr ⟨z1, k1', k3zz, n, x1zz, r2.tr x2zz, q4zz, q8zz, ck.tr x3, x4zz, x5zz⟩
-- one row of the reference changes, within eight places
def RW (Fzz azz : Nat) (o o' : Ob) : Prop := (∀ izz, izz ≠ 21 → gI o' izz = gI o izz) ∧ (∀ izz, gL o' izz = gL o izz) ∧ (∀ izz, izz ≠ Fzz → gA o' izz = gA o izz) ∧ o'.2.2.2 = o.2.2.2 ∧ (∀ jzz, (jzz < azz ∨ azz + 8 ≤ jzz) → gA o' Fzz jzz = gA o Fzz jzz)
set_option maxHeartbeats 200000 in
theorem RW.rf {Fzz azz : Nat} {o : Ob} : RW Fzz azz o o := ⟨fun _ _ => rfl, fun _ => rfl, fun _ _ => rfl, rfl, fun _ _ => rfl⟩
set_option maxHeartbeats 200000 in
theorem RW.tr {Fzz azz : Nat} {o o' o'' : Ob} (hzz : RW Fzz azz o o') (h' : RW Fzz azz o' o'') : RW Fzz azz o o'' := ⟨fun izz czz => (h'.1 izz czz).trans (hzz.1 izz czz), fun izz => (h'.2.1 izz).trans (hzz.2.1 izz), fun izz czz => (h'.2.2.1 izz czz).trans (hzz.2.2.1 izz czz), h'.2.2.2.1.trans hzz.2.2.2.1, fun jzz czz => (h'.2.2.2.2 jzz czz).trans (hzz.2.2.2.2 jzz czz)⟩
set_option maxHeartbeats 200000 in
theorem RW.tA {Fzz azz jzz : Nat} {o : Ob} {vzz : Int32} (hzz : azz ≤ jzz ∧ jzz < azz + 8) : RW Fzz azz o (tA o Fzz jzz vzz) := ⟨fun _ _ => rfl, fun _ => rfl, fun izz czz => fset_ne (f := fun izz => gA o izz) czz, rfl, fun izz czz => by rw [upd_at, if_neg (by omega)]⟩
set_option maxHeartbeats 200000 in
theorem RW.s21 {Fzz azz : Nat} {o : Ob} {vzz : Int32} : RW Fzz azz o (sI o 21 vzz) := ⟨fun _ czz => fset_ne czz, fun _ => rfl, fun _ _ => rfl, rfl, fun _ _ => rfl⟩
set_option maxHeartbeats 200000 in
theorem XS.rw' {od : Bool} {rd oc o oc' o' : Ob} {k1zz k2zz Fzz azz : Nat} (hzz : XS od rd oc o k1zz k2zz) (wzz : RW Fzz azz o o') (hF : Fzz ≠ 12) (e8 : gI oc' 8 = gI oc 8) : XS od rd oc' o' k1zz k2zz := by
  obtain ⟨hTzz, h19, e5zz, hr, ek1, ek2, hp, hk2, hMzz⟩ := hzz
  have em : ∀ izz, gM o' izz = gM o izz := fun izz => congrFun (congrArg Prod.fst wzz.2.2.2.1) izz
  refine ⟨hTzz.cg rfl rfl rfl rfl rfl rfl (wzz.1 13 (by decide)) (wzz.2.2.1 12 (fun qzz => hF qzz.symm)) (wzz.1 14 (by decide)) (wzz.1 15 (by decide)) (wzz.1 16 (by decide)) (wzz.2.1 17), (wzz.1 19 (by decide)).trans h19, e5zz.trans (wzz.1 26 (by decide)).symm, by rw [wzz.1 26 (by decide)]; exact hr, by rw [e8]; exact ek1, by rw [wzz.1 23 (by decide)]; exact ek2, by rw [wzz.1 14 (by decide)]; exact hp, hk2, ?_⟩
  exact ⟨fun qzz => by rw [wzz.1 20 (by decide)]; exact hMzz.1 qzz, fun qzz => by rw [wzz.1 20 (by decide)]; exact hMzz.2.1 qzz, fun kzz hk => by rw [em 31]; exact hMzz.2.2.1 kzz hk, fun kzz hk => by rw [em 32]; exact hMzz.2.2.2 kzz hk⟩
set_option maxHeartbeats 200000 in
theorem XS.step {od : Bool} {rd oc o rd' o' : Ob} {k1zz k2zz : Nat} (hzz : XS od rd oc o k1zz k2zz) (e1zz : f_X6_step rd = some rd') (e2zz : f_X9_next o = some o') : XS od rd' oc o' k1zz k2zz ∧ FR6 rd rd' ∧ FR9 o o' := by
  obtain ⟨hTzz, h19, e5zz, hr, ek1, ek2, hp, hk2, hMzz⟩ := hzz
  obtain ⟨azz, bzz, ea, eb, hab, hbzz, -⟩ := hTzz.2.2.2.2
  obtain ⟨T1, T2, T3, T4⟩ := tk_eq hTzz.1 hTzz.2.2.2.1 (by omega) (by omega) e1zz e2zz
  refine ⟨⟨T1, (T3.1 19 (by decide) (by decide) (by decide)).trans h19, ?_, ?_, ek1, ?_, by omega, hk2, hMzz.fr (T2.cc (oc := oc)) T3.rr⟩, T2, T3⟩
  · rw [T2.1 5 (by decide) (by decide) (by decide) (by decide), T3.1 26 (by decide) (by decide) (by decide)]; exact e5zz
  · rw [T3.1 26 (by decide) (by decide) (by decide)]; exact hr
  · rw [T3.1 23 (by decide) (by decide) (by decide)]; exact ek2
