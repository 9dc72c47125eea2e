-- the state of both parsers within an expression
def RF (o o' : Ob) : Prop := (∀ izz, izz ≠ 14 → izz ≠ 15 → izz ≠ 16 → izz ≠ 18 → izz ≠ 19 → izz ≠ 23 → izz ≠ 26 → izz ≠ 29 → izz ≠ 30 → gI o' izz = gI o izz) ∧ (∀ izz, izz ≠ 24 → izz ≠ 25 → izz ≠ 27 → izz ≠ 28 → gA o' izz = gA o izz) ∧ o'.2.2.2 = o.2.2.2
set_option maxHeartbeats 200000 in
theorem RF.rf {o : Ob} : RF o o := ⟨fun _ _ _ _ _ _ _ _ _ _ => rfl, fun _ _ _ _ _ => rfl, rfl⟩
set_option maxHeartbeats 200000 in
theorem RF.tr {o o' o'' : Ob} (hzz : RF o o') (h' : RF o' o'') : RF o o'' := ⟨fun izz azz bzz czz d ezz fzz gzz kzz l => (h'.1 izz azz bzz czz d ezz fzz gzz kzz l).trans (hzz.1 izz azz bzz czz d ezz fzz gzz kzz l), fun izz azz bzz czz d => (h'.2.1 izz azz bzz czz d).trans (hzz.2.1 izz azz bzz czz d), h'.2.2.trans hzz.2.2⟩
set_option maxHeartbeats 200000 in
theorem FR9.rr {o o' : Ob} (hzz : FR9 o o') : RF o o' := ⟨fun izz azz bzz czz _ _ _ _ _ _ => hzz.1 izz azz bzz czz, fun izz _ _ _ _ => hzz.gA izz, congrArg Prod.snd hzz.2.2⟩
set_option maxHeartbeats 200000 in
theorem FP.rr {o o' : Ob} (hzz : FP o o') : RF o o' := ⟨fun izz _ _ _ _ _ azz _ bzz _ => hzz.1 izz azz bzz, fun izz azz bzz _ _ => hzz.2.2.1 izz azz bzz, hzz.2.2.2⟩
def CF (rd oc rd' oc' : Ob) : Prop := (∀ izz, izz ≠ 3 → izz ≠ 5 → izz ≠ 6 → izz ≠ 7 → izz ≠ 8 → izz ≠ 9 → gI rd' izz = gI rd izz) ∧ rd'.2 = rd.2 ∧ (∀ izz, izz ≠ 8 → gI oc' izz = gI oc izz) ∧ (∀ izz, izz ≠ 5 → izz ≠ 6 → gA oc' izz = gA oc izz)
set_option maxHeartbeats 200000 in
theorem CF.rf {rd oc : Ob} : CF rd oc rd oc := ⟨fun _ _ _ _ _ _ _ => rfl, rfl, fun _ _ => rfl, fun _ _ _ => rfl⟩
set_option maxHeartbeats 200000 in
theorem CF.tr {rd oc rd' oc' rd'' oc'' : Ob} (hzz : CF rd oc rd' oc') (h' : CF rd' oc' rd'' oc'') : CF rd oc rd'' oc'' := ⟨fun izz azz bzz czz d ezz fzz => (h'.1 izz azz bzz czz d ezz fzz).trans (hzz.1 izz azz bzz czz d ezz fzz), h'.2.1.trans hzz.2.1, fun izz azz => (h'.2.2.1 izz azz).trans (hzz.2.2.1 izz azz), fun izz azz bzz => (h'.2.2.2 izz azz bzz).trans (hzz.2.2.2 izz azz bzz)⟩
set_option maxHeartbeats 200000 in
theorem FR6.cc {rd rd' oc : Ob} (hzz : FR6 rd rd') : CF rd oc rd' oc := ⟨fun izz _ _ azz bzz czz d => hzz.1 izz azz bzz czz d, hzz.2, fun _ _ => rfl, fun _ _ _ => rfl⟩
def PSt (od : Bool) (rd oc o : Ob) (k1zz k2zz pzz bzz : Nat) : Prop := TT rd o ∧ gI o 19 = 0 ∧ gI rd 5 = gI o 26 ∧ (0 ≤ (gI o 26).toInt ∧ (gI o 26).toInt ≤ 50) ∧ (gI oc 8).toInt = (k1zz : Int) ∧ (gI o 23).toInt = (k2zz : Int) ∧ ((k1zz + pzz : Nat) : Int) ≤ (gI o 14).toInt ∧ (gI o 29).toInt = (bzz : Int) ∧ bzz ≤ 400 ∧ k2zz ≤ 400 ∧ MD od rd o
set_option maxHeartbeats 200000 in
theorem MD.fr {od : Bool} {rd o rd' o' oc oc' : Ob} (hzz : MD od rd o) (czz : CF rd oc rd' oc') (rzz : RF o o') : MD od rd' o' := by
  have e4zz := czz.1 4 (by decide) (by decide) (by decide) (by decide) (by decide) (by decide)
  have e20 := rzz.1 20 (by decide) (by decide) (by decide) (by decide) (by decide) (by decide) (by decide) (by decide) (by decide)
  have em : ∀ izz, gM o' izz = gM o izz := fun izz => congrFun (congrArg Prod.fst rzz.2.2) izz
  exact ⟨fun qzz => by rw [e4zz, e20]; exact hzz.1 qzz, fun qzz => by rw [e4zz, e20]; exact hzz.2.1 qzz, fun kzz hk => by rw [em 31]; exact hzz.2.2.1 kzz hk, fun kzz hk => by rw [em 32]; exact hzz.2.2.2 kzz hk⟩
/-- both have failed at the same place -/
def Bad (rd oc o : Ob) (zzz : Int32 × Ob × Ob) (yzz : Ob) : Prop := zzz.1 = 0 ∧ gI yzz 19 = 1 ∧ gI yzz 18 = gI zzz.2.1 3 ∧ RF o yzz ∧ CF rd oc zzz.2.1 zzz.2.2
set_option maxHeartbeats 200000 in
theorem bad_no {rd oc o oc' o' yzz : Ob} {Nzz : Nat} {v1zz v2 : Int32} (hzz : TT rd o) (eo : o' = sI (sI o 19 1) 18 (gI o 14)) (hy : lp_X9_readExpression_20 Nzz (v1zz, v2, o') = some yzz) (hczz : CF rd oc (sI rd 3 (gI rd 7)) oc') : Bad rd oc o (0, sI rd 3 (gI rd 7), oc') yzz := by
  have k19 : gI o' 19 = 1 := by rw [eo]; rfl
  have fzz := ex_bad (by rw [k19]; decide) hy
  have rzz : RF o o' := by
    rw [eo]
    exact ⟨fun izz _ _ _ azz bzz _ _ _ _ => (fset_ne azz).trans (fset_ne bzz), fun _ _ _ _ _ => rfl, rfl⟩
  refine ⟨rfl, (fzz.1 19 (by decide) (by decide)).trans k19, ?_, rzz.tr fzz.rr, hczz⟩
  rw [fzz.1 18 (by decide) (by decide), eo]
  show gI o 14 = gI rd 7
  exact hzz.2.2.1.symm
set_option maxHeartbeats 200000 in
theorem CF.stop {rd oc : Ob} {vzz : Int32} : CF rd oc (sI rd 3 vzz) oc := ⟨fun izz azz _ _ _ _ _ => fset_ne azz, rfl, fun _ _ => rfl, fun _ _ _ => rfl⟩
set_option maxHeartbeats 200000 in
theorem CF.add {rd oc oc' : Ob} (h1 : ∀ izz, izz ≠ 8 → gI oc' izz = gI oc izz) (h2 : ∀ izz, izz ≠ 5 → izz ≠ 6 → gA oc' izz = gA oc izz) : CF rd oc rd oc' := ⟨fun _ _ _ _ _ _ _ => rfl, rfl, h1, h2⟩
