-- clauses
set_option maxHeartbeats 200000 in
theorem tA_gA {o : Ob} {izz jzz kzz xzz : Nat} {vzz : Int32} : gA (tA o izz jzz vzz) kzz xzz = if kzz = izz ∧ xzz = jzz then vzz else gA o kzz xzz := by
  by_cases czz : kzz = izz
  · subst czz
    rw [upd_at]
    by_cases d : xzz = jzz
    · rw [if_pos d, if_pos ⟨rfl, d⟩]
    · rw [if_neg d, if_neg (fun qzz => d qzz.2)]
  · rw [if_neg (fun qzz => czz qzz.1)]
    exact congrFun (fset_ne (f := fun izz => gA o izz) czz) xzz
def sfo (od : Bool) : Nat := if od = true then 1 else 3
def rwF (od : Bool) : Nat := if od = true then 55 else 22
def ClE (od : Bool) (oc : Ob) (gzz s2zz w2zz : Nat → Int32) (mzz K1 K2 : Nat) : Prop :=
  ∃ a1zz b1 c1zz a2 b2 c2zz d2zz : Nat, gA oc 0 mzz = gzz (8 * mzz) ∧ (0 ≤ (gA oc 0 mzz).toInt ∧ (gA oc 0 mzz).toInt ≤ 3) ∧ (gA oc 2 mzz).toInt = (a1zz : Int) ∧ (gA oc 3 mzz).toInt = (b1 : Int) ∧ (gA oc 4 mzz).toInt = (c1zz : Int) ∧ (gzz (8 * mzz + sfo od)).toInt = (a2 : Int) ∧ (gzz (8 * mzz + (sfo od + 1))).toInt = (b2 : Int) ∧ (gzz (8 * mzz + 5)).toInt = (c2zz : Int) ∧ (gzz (8 * mzz + 6)).toInt = (d2zz : Int) ∧ (a1zz ≤ b1 ∧ b1 ≤ c1zz ∧ c1zz ≤ K1 ∧ c2zz ≤ d2zz ∧ d2zz ≤ K2) ∧
  ((gA oc 0 mzz = 3 ∧ a1zz = b1 ∧ a2 = b2) ∨ (¬ gA oc 0 mzz = 3 ∧ ∃ n, n ≤ 50 ∧ b2 ≤ K2 ∧ Sx od (gA oc 5) (gA oc 6) s2zz w2zz false a1zz b1 a2 b2 n)) ∧
  ((b1 = c1zz ∧ c2zz = d2zz) ∨ (∃ n, n ≤ 50 ∧ Sx od (gA oc 5) (gA oc 6) s2zz w2zz true b1 c1zz c2zz d2zz n)) ∧
  (od = true → gA oc 1 mzz = gzz (8 * mzz + 7) ∧ 1 ≤ (gA oc 1 mzz).toInt ∧ (gA oc 1 mzz).toInt ≤ 20)
set_option maxHeartbeats 200000 in
theorem ClE.mv {od : Bool} {oc oc' : Ob} {gzz g' s2zz w2zz s2' w2' : Nat → Int32} {mzz K1 K2 K1' K2' : Nat} (hzz : ClE od oc gzz s2zz w2zz mzz K1 K2) (e0zz : ∀ izz, izz < 5 → gA oc' izz mzz = gA oc izz mzz) (e1zz : ∀ jzz, jzz < K1 → gA oc' 5 jzz = gA oc 5 jzz ∧ gA oc' 6 jzz = gA oc 6 jzz) (eg : ∀ izz, izz < 8 → g' (8 * mzz + izz) = gzz (8 * mzz + izz)) (e2zz : ∀ jzz, jzz < K2 → s2' jzz = s2zz jzz ∧ w2' jzz = w2zz jzz) (h1 : K1 ≤ K1') (h2 : K2 ≤ K2') : ClE od oc' g' s2' w2' mzz K1' K2' := by
  obtain ⟨a1zz, b1, c1zz, a2, b2, c2zz, d2zz, x0zz, x1zz, x2zz, x3, x4zz, x5zz, x6, x7, x8, x9, x10, x11, x12⟩ := hzz
  have hs : sfo od + 1 < 8 := by cases od <;> decide
  have eg0 : g' (8 * mzz) = gzz (8 * mzz) := eg 0 (by decide)
  refine ⟨a1zz, b1, c1zz, a2, b2, c2zz, d2zz, ?_, ?_, ?_, ?_, ?_, ?_, ?_, ?_, ?_, ⟨x9.1, x9.2.1, by omega, x9.2.2.2.1, by omega⟩, ?_, ?_, fun qzz => ?_⟩
  · rw [e0zz 0 (by decide), eg0]; exact x0zz
  · rw [e0zz 0 (by decide)]; exact x1zz
  · rw [e0zz 2 (by decide)]; exact x2zz
  · rw [e0zz 3 (by decide)]; exact x3
  · rw [e0zz 4 (by decide)]; exact x4zz
  · rw [eg (sfo od) (by omega)]; exact x5zz
  · rw [eg (sfo od + 1) hs]; exact x6
  · rw [eg 5 (by decide)]; exact x7
  · rw [eg 6 (by decide)]; exact x8
  · rcases x10 with ⟨p1zz, p2zz, p3zz⟩ | ⟨p1zz, n, p2zz, p3zz, p4zz⟩
    · exact Or.inl ⟨by rw [e0zz 0 (by decide)]; exact p1zz, p2zz, p3zz⟩
    · exact Or.inr ⟨by rw [e0zz 0 (by decide)]; exact p1zz, n, p2zz, by omega, p4zz.eq (fun jzz i1zz i2zz => e1zz jzz (by omega)) (fun jzz i1zz i2zz => e2zz jzz (by omega))⟩
  · rcases x11 with pzz | ⟨n, p2zz, p4zz⟩
    · exact Or.inl pzz
    · exact Or.inr ⟨n, p2zz, p4zz.eq (fun jzz i1zz i2zz => e1zz jzz (by omega)) (fun jzz i1zz i2zz => e2zz jzz (by omega))⟩
  · rw [e0zz 1 (by decide), eg 7 (by decide)]; exact x12 qzz
def HDs (o : Ob) : Prop := (∀ kzz, kzz < 4 → (gM o 33 kzz).toInt = codR (tx0.getD kzz [])) ∧ (∀ kzz, kzz < 4 → (gM o 54 kzz).toInt = codR (tx1.getD kzz []))
set_option maxHeartbeats 200000 in
theorem HDs.eq {o o' : Ob} (hzz : HDs o) (ezz : o'.2.2.2 = o.2.2.2) : HDs o' := by
  have em : ∀ izz, gM o' izz = gM o izz := fun izz => congrFun (congrArg Prod.fst ezz) izz
  exact ⟨fun kzz hk => by rw [em 33]; exact hzz.1 kzz hk, fun kzz hk => by rw [em 54]; exact hzz.2 kzz hk⟩
/-- the state of both between two clauses -/
def ClS (od : Bool) (Gzz : Nat → Int32) (rd oc o : Ob) (k1zz k2zz n : Nat) : Prop := XS od rd oc o k1zz k2zz ∧ (gI o 21).toInt = (n : Int) ∧ (gI oc 7).toInt = (n : Int) ∧ HDs o ∧ gA o 3 = Gzz ∧ ∀ mzz, mzz < n → ClE od oc (gA o (rwF od)) (gA o 24) (gA o 25) mzz k1zz k2zz
set_option maxHeartbeats 200000 in
theorem ph_test {od : Bool} {rd oc o yzz : Ob} {k1zz k2zz : Nat} {v1zz : Int32} {zzz : Int32 × Ob × Ob} {Kzz : Ob → Option Ob} (hzz : XS od rd oc o k1zz k2zz) (h1 : bk_X6_readClause_177 12 400 v1zz rd oc = some zzz)
    (h2 : (if (gI o 19) = (0 : Int32) then ((f_X9_isWord o (294 : Int64)).bind fun z14zz => if z14zz = (0 : Int32) then Kzz o else ((f_X9_next o).bind fun z15 => (f_X9_readExpression z15 (1 : Int32)).bind fun z16 => Kzz z16)) else Kzz o) = some yzz) :
    (zzz.1 = 0 ∧ ∃ wzz, Kzz wzz = some yzz ∧ gI wzz 19 = 1 ∧ gI wzz 18 = gI zzz.2.1 3 ∧ gA wzz 3 = gA o 3) ∨
    (∃ (rd' oc' o' : Ob) (k1' k2' : Nat), bk_X6_readClause_200 12 400 v1zz rd' oc' = some zzz ∧ Kzz o' = some yzz ∧ XS od rd' oc' o' k1' k2' ∧ RF o o' ∧ CF rd oc rd' oc' ∧ (∀ jzz, jzz < k1zz → gA oc' 5 jzz = gA oc 5 jzz ∧ gA oc' 6 jzz = gA oc 6 jzz) ∧ ckp k2zz o o' ∧ ((k1' = k1zz ∧ k2' = k2zz) ∨ ∃ n, n ≤ 50 ∧ Sx od (gA oc' 5) (gA oc' 6) (gA o' 24) (gA o' 25) true k1zz k1' k2zz k2' n)) := by
  have hTzz := hzz.1
  unfold bk_X6_readClause_177 at h1
  obtain ⟨z13zz, ez13, h1⟩ := z_bd h1
  obtain ⟨z14zz, ez14, h2⟩ := z_bd (z_t h2 hzz.2.1)
  rcases iw8 (R := [6, 9]) hTzz (by decide) tx3_ok ez13 with ⟨q1zz, q2zz⟩ | ⟨q1zz, q2zz⟩ <;> rcases w9 (R := [6, 9]) hTzz (all_dig (by decide)) (by decide) (by decide) ez14 with ⟨u1zz, u2zz⟩ | ⟨u1zz, u2zz⟩
  · exact Or.inr ⟨rd, oc, o, k1zz, k2zz, z_t h1 q1zz, z_t h2 u1zz, hzz, RF.rf, CF.rf, fun _ _ => ⟨rfl, rfl⟩, ckp.rf, Or.inl ⟨rfl, rfl⟩⟩
  · exact absurd u2zz q2zz
  · exact absurd q2zz u2zz
  · obtain ⟨z17, ez17, h1⟩ := z_bd (z_f h1 q1zz)
    obtain ⟨z18, ez18, h1⟩ := z_bd h1
    obtain ⟨z15, ez15, h2⟩ := z_bd (z_f h2 u1zz)
    obtain ⟨z16, ez16, h2⟩ := z_bd h2
    obtain ⟨hX, f6zz, f9zz⟩ := hzz.step ez17 ez15
    rcases x_test hX ez18 ez16 with gb | ⟨e1zz, k1', k2', n, x1zz, x2zz, x3, x4zz, x5zz, x6, x7⟩
    · have h1 := Option.some.inj (z_t h1 gb.1)
      exact Or.inl ⟨by rw [← h1], z16, h2, gb.2.1, by rw [← h1]; exact gb.2.2.1, (gb.2.2.2.1.2.1 3 (by decide) (by decide) (by decide) (by decide)).trans (f9zz.gA 3)⟩
    · have ck : ckp k2zz o z15 := fun jzz hj => ⟨by rw [f9zz.gA 24], by rw [f9zz.gA 25]⟩
      exact Or.inr ⟨z18.2.1, z18.2.2, z16, k1', k2', z_f h1 (by rw [e1zz]; decide), h2, x1zz, f9zz.rr.tr x2zz, f6zz.cc.tr x3, x4zz, ck.tr x5zz, Or.inr ⟨n, x6, x7⟩⟩
