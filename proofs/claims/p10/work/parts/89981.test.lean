-- the whole tie of class and reference
set_option maxHeartbeats 200000 in
/-- isles, beyond Tis -/
def TzI (pl : List CR) (isl : Ob) (Gzz : Nat → Int32) : Prop := WiL isl Gzz ∧ (gI isl 9 = Gzz 2 ∧ 0 ≤ (Gzz 2).toInt ∧ (Gzz 2).toInt ≤ 6) ∧ (gI isl 10 = Gzz 3 ∧ -1 ≤ (Gzz 3).toInt ∧ (Gzz 3).toInt < (Gzz 2).toInt) ∧ (gI isl 11 = Gzz 5 ∧ 0 ≤ (Gzz 5).toInt ∧ (Gzz 5).toInt ≤ 10) ∧ (∀ jzz, jzz < 6 → gA isl 4 jzz = Gzz (71 + 2 * jzz) ∧ gA isl 5 jzz = Gzz (72 + 2 * jzz)) ∧ (∀ l : Nat, (l : Int) < (Gzz 2).toInt → ∃ (azz : Nat) (czz : CR), gR isl 6 l = some azz ∧ pfind pl azz = some czz ∧ LwE czz.2.2.2.2.2 Gzz l)
def ZrT (Gzz : Nat → Int32) : Prop := ∀ jzz : Nat, ((15 + (Gzz 0).toInt ≤ (jzz : Int) ∧ jzz < 22) ∨ (22 + (Gzz 0).toInt ≤ (jzz : Int) ∧ jzz < 29)) → Gzz jzz = 0
def Tia (pl : List CR) (isl mv : Ob) (Gzz : Nat → Int32) : Prop := Tis isl Gzz ∧ TzI pl isl Gzz ∧ TzM mv Gzz ∧ ZrT Gzz
set_option maxHeartbeats 200000 in
theorem TzI.at' {pl : List CR} {isl : Ob} {Gzz : Nat → Int32} {pzz : Int32} {zzz : Option Nat} (hzz : TzI pl isl Gzz) (hp : pzz = -1 ∨ (0 ≤ pzz.toInt ∧ pzz.toInt < (Gzz 2).toInt)) (ezz : f_X2_lawAt isl pzz = some zzz) : LwP pl zzz Gzz pzz := by
  unfold f_X2_lawAt at ezz
  obtain ⟨z1, e1zz, ezz⟩ := z_bd ezz
  unfold f_X2_isLaw at e1zz
  rw [hzz.2.1.1] at e1zz
  rcases hp with hp | hp
  · subst hp
    have e1zz := Option.some.inj (z_t e1zz (by decide))
    exact Or.inl ⟨rfl, (Option.some.inj (z_t ezz e1zz.symm)).symm⟩
  · have e1zz := z_f e1zz (fun qzz => by have qzz := cv_lt (a := pzz.toInt) (b := 0) rfl (by decide) qzz; omega)
    have e1zz := Option.some.inj (z_f e1zz (fun qzz => by have qzz := cv_le (a := (Gzz 2).toInt) (b := pzz.toInt) rfl rfl qzz; omega))
    have ezz := Option.some.inj (z_gd (z_f ezz (by rw [← e1zz]; decide))).2
    obtain ⟨l, el⟩ : ∃ l : Nat, pzz.toInt = (l : Int) := ⟨pzz.toInt.toNat, by omega⟩
    have il : pzz.toNatClampNeg = l := tnc_eq el
    rw [il] at ezz
    obtain ⟨azz, czz, r1zz, r2, r3⟩ := hzz.2.2.2.2.2 l (by omega)
    have := hzz.2.1.2.2
    exact Or.inr ⟨l, azz, czz, by omega, el, ezz.symm.trans r1zz, r2, r3⟩
set_option maxHeartbeats 200000 in
theorem TzI.inf {pl : List CR} {isl : Ob} {Gzz : Nat → Int32} {zzz : Option Nat} (hzz : TzI pl isl Gzz) (ezz : f_X2_lawInForce isl = some zzz) : LwP pl zzz Gzz (Gzz 3) := by
  unfold f_X2_lawInForce at ezz
  obtain ⟨z1, e1zz, ezz⟩ := z_bd ezz
  have ezz := Option.some.inj ezz
  rw [← ezz]
  rw [hzz.2.2.1.1] at e1zz
  refine hzz.at' ?_ e1zz
  have qzz := hzz.2.2.1.2
  by_cases czz : (Gzz 3).toInt = -1
  · exact Or.inl (Int32.toInt_inj.mp (by rw [czz]; decide))
  · exact Or.inr ⟨by omega, qzz.2⟩
/-- the same isles, the same row where it counts -/
theorem TzI.ext {pl : List CR} {isl isl' : Ob} {Gzz G' : Nat → Int32} (hzz : TzI pl isl Gzz) (i7zz : gI isl' 7 = gI isl 7) (i9zz : gI isl' 9 = gI isl 9) (i10zz : gI isl' 10 = gI isl 10) (i11zz : gI isl' 11 = gI isl 11) (i12zz : gI isl' 12 = gI isl 12) (a2 : ∀ jzz, jzz < 28 → gA isl' 2 jzz = gA isl 2 jzz) (a4 : ∀ jzz, jzz < 6 → gA isl' 4 jzz = gA isl 4 jzz) (a5 : ∀ jzz, jzz < 6 → gA isl' 5 jzz = gA isl 5 jzz) (aR : ∀ jzz, jzz < 6 → gR isl' 6 jzz = gR isl 6 jzz)
    (eg : ∀ jzz, (jzz < 4 ∧ jzz ≠ 1) ∨ jzz = 5 ∨ jzz = 6 ∨ (36 ≤ jzz ∧ jzz < 64) ∨ 71 ≤ jzz → G' jzz = Gzz jzz) : TzI pl isl' G' := by
  have e0zz : G' 0 = Gzz 0 := eg 0 (by omega)
  have e2zz : G' 2 = Gzz 2 := eg 2 (by omega)
  have e3zz : G' 3 = Gzz 3 := eg 3 (by omega)
  have e5zz : G' 5 = Gzz 5 := eg 5 (by omega)
  have e6zz : G' 6 = Gzz 6 := eg 6 (by omega)
  unfold TzI WiL
  rw [e0zz, e2zz, e3zz, e5zz, e6zz, i7zz, i9zz, i10zz, i11zz, i12zz]
  refine ⟨⟨hzz.1.1, fun jzz hj => ?_, hzz.1.2.2⟩, hzz.2.1, hzz.2.2.1, hzz.2.2.2.1, fun jzz hj => ?_, fun l hl => ?_⟩
  · rw [a2 jzz hj, eg (36 + jzz) (by omega)]; exact hzz.1.2.1 jzz hj
  · rw [a4 jzz hj, a5 jzz hj, eg (71 + 2 * jzz) (by omega), eg (72 + 2 * jzz) (by omega)]; exact hzz.2.2.2.2.1 jzz hj
  · obtain ⟨azz, czz, r1zz, r2, r3⟩ := hzz.2.2.2.2.2 l hl
    have := hzz.2.1.2.2
    exact ⟨azz, czz, by rw [aR l (by omega)]; exact r1zz, r2, r3.eq (fun jzz hj => eg jzz (by omega))⟩
set_option maxHeartbeats 200000 in
theorem pfind_app {pl l : List CR} {azz : Nat} {czz : CR} (hzz : pfind pl azz = some czz) : pfind (pl ++ l) azz = some czz := by
  unfold pfind at hzz ⊢
  rw [List.find?_append, hzz]; rfl
set_option maxHeartbeats 200000 in
theorem TzI.app {pl l : List CR} {isl : Ob} {Gzz : Nat → Int32} (hzz : TzI pl isl Gzz) : TzI (pl ++ l) isl Gzz := by
  refine ⟨hzz.1, hzz.2.1, hzz.2.2.1, hzz.2.2.2.1, hzz.2.2.2.2.1, fun izz hizz => ?_⟩
  obtain ⟨azz, czz, r1zz, r2, r3⟩ := hzz.2.2.2.2.2 izz hizz
  exact ⟨azz, czz, r1zz, pfind_app r2, r3⟩
set_option maxHeartbeats 200000 in
theorem Tia.app {pl l : List CR} {isl mv : Ob} {Gzz : Nat → Int32} (hzz : Tia pl isl mv Gzz) : Tia (pl ++ l) isl mv Gzz := ⟨hzz.1, hzz.2.1.app, hzz.2.2⟩
set_option maxHeartbeats 200000 in
theorem Tia.eqG {pl : List CR} {isl mv : Ob} {Gzz G' : Nat → Int32} (hzz : Tia pl isl mv Gzz) (eg : ∀ jzz, jzz < 5484 → G' jzz = Gzz jzz) (e2zz : ∀ jzz, 5484 ≤ jzz → G' jzz = Gzz jzz) : Tia pl isl mv G' := by
  have ezz : G' = Gzz := funext fun jzz => by
    rcases (show jzz < 5484 ∨ 5484 ≤ jzz by omega) with qzz | qzz
    · exact eg jzz qzz
    · exact e2zz jzz qzz
  rw [ezz]; exact hzz
set_option maxHeartbeats 200000 in
/-- behind a move -/
theorem Tia.mv {pl : List CR} {isl mv mv' : Ob} {Gzz G' : Nat → Int32} {n : Nat} (hzz : Tia pl isl mv Gzz) (en : (Gzz 0).toInt = (n : Int)) (wzz : RwC n Gzz G') (hMzz : TzM mv' G') : Tia pl isl mv' G' := by
  refine ⟨hzz.1.eq rfl rfl rfl rfl rfl (fun jzz hj => wzz jzz (by omega)), hzz.2.1.ext rfl rfl rfl rfl rfl (fun _ _ => rfl) (fun _ _ => rfl) (fun _ _ => rfl) (fun _ _ => rfl) (fun jzz hj => wzz jzz (by omega)), hMzz, fun jzz hj => ?_⟩
  rw [wzz 0 (by omega), en] at hj
  rw [wzz jzz (by omega)]
  exact hzz.2.2.2 jzz (by rw [en]; exact hj)
def TslF (pl : List CR) (o0zz o9 : Ob) (kzz : Nat) (im : Option IR) : Prop := (im = none → gR o0zz 7 kzz = none ∧ gA o9 5 kzz = 0) ∧ (∀ rzz : IR, im = some rzz → gR o0zz 7 kzz = some rzz.1 ∧ ¬ gA o9 5 kzz = 0 ∧ Tia pl rzz.2.2.2.2.2.2.1 rzz.2.2.2.2.2.2.2 (fun jzz => gA o9 4 (5484 * kzz + jzz)))
set_option maxHeartbeats 200000 in
theorem TslF.eq {pl : List CR} {o0zz o9 o0' o9' : Ob} {kzz : Nat} {im : Option IR} (hzz : TslF pl o0zz o9 kzz im) (e0zz : gR o0' 7 = gR o0zz 7) (e5zz : gA o9' 5 = gA o9 5) (e4zz : gA o9' 4 = gA o9 4) : TslF pl o0' o9' kzz im := by
  unfold TslF
  rw [e0zz, e5zz, e4zz]; exact hzz
set_option maxHeartbeats 200000 in
theorem TslF.app {pl l : List CR} {o0zz o9 : Ob} {kzz : Nat} {im : Option IR} (hzz : TslF pl o0zz o9 kzz im) : TslF (pl ++ l) o0zz o9 kzz im := ⟨hzz.1, fun rzz hr => ⟨(hzz.2 rzz hr).1, (hzz.2 rzz hr).2.1, (hzz.2 rzz hr).2.2.app⟩⟩
def TimF (pl : List CR) (o0zz o9 : Ob) (im0 im1 : Option IR) : Prop := ∃ s : Nat, s < 2 ∧ TslF pl o0zz o9 s im0 ∧ TslF pl o0zz o9 (1 - s) im1
set_option maxHeartbeats 200000 in
theorem TimF.eq {pl : List CR} {o0zz o9 o0' o9' : Ob} {im0 im1 : Option IR} (hzz : TimF pl o0zz o9 im0 im1) (e0zz : gR o0' 7 = gR o0zz 7) (e5zz : gA o9' 5 = gA o9 5) (e4zz : gA o9' 4 = gA o9 4) : TimF pl o0' o9' im0 im1 := by
  obtain ⟨s, h1, h2, h3⟩ := hzz
  exact ⟨s, h1, h2.eq e0zz e5zz e4zz, h3.eq e0zz e5zz e4zz⟩
set_option maxHeartbeats 200000 in
theorem TimF.app {pl l : List CR} {o0zz o9 : Ob} {im0 im1 : Option IR} (hzz : TimF pl o0zz o9 im0 im1) : TimF (pl ++ l) o0zz o9 im0 im1 := by
  obtain ⟨s, h1, h2, h3⟩ := hzz
  exact ⟨s, h1, h2.app, h3.app⟩
set_option maxHeartbeats 200000 in
/-- the tie: o0 the object, o1 its reader, o4, o5 its isles, o8, o6 its paper, o11 its past; o9 the reference -/
def TF (pl : List CR) (o0zz o1 o4zz o5zz o8zz o6 o11 o9 : Ob) (im0 im1 : Option IR) : Prop :=
  (gI o1 2 = gI o9 13 ∧ gA o1 0 = gA o9 12) ∧ gI o0zz 13 = gI o9 11 ∧ (TbW o9 ∧ HDs o9) ∧ StT o0zz o9 ∧ gI o0zz 14 = gI o9 58 ∧ PpT o8zz o6 o9 ∧ Tia pl o4zz o5zz (gA o9 3) ∧ PaT o11 o9 (gA o9 3 0).toInt.toNat (gA o9 3) ∧ TimF pl o0zz o9 im0 im1
set_option maxHeartbeats 200000 in
theorem TbW.eq {o o' : Ob} (hzz : TbW o) (azz : gM o' 31 = gM o 31) (bzz : gM o' 32 = gM o 32) : TbW o' := ⟨by rw [azz]; exact hzz.1, by rw [bzz]; exact hzz.2⟩
set_option maxHeartbeats 200000 in
theorem HDs.eq2 {o o' : Ob} (hzz : HDs o) (azz : gM o' 33 = gM o 33) (bzz : gM o' 54 = gM o 54) : HDs o' := ⟨by rw [azz]; exact hzz.1, by rw [bzz]; exact hzz.2⟩
set_option maxHeartbeats 200000 in
theorem TF.n {pl : List CR} {o0zz o1 o4zz o5zz o8zz o6 o11 o9 : Ob} {im0 im1 : Option IR} (hzz : TF pl o0zz o1 o4zz o5zz o8zz o6 o11 o9 im0 im1) : (gA o9 3 0).toInt = ((gA o9 3 0).toInt.toNat : Int) ∧ (gA o9 3 0).toInt.toNat ≤ 7 := by
  have := hzz.2.2.2.2.2.2.1.2.1.1.1.2
  omega
set_option maxHeartbeats 200000 in
theorem TF.s {pl : List CR} {o0zz o1 o4zz o5zz o8zz o6 o11 o9 : Ob} {im0 im1 : Option IR} (hzz : TF pl o0zz o1 o4zz o5zz o8zz o6 o11 o9 im0 im1) (h20 : gI o9 20 = 0) : TzS pl o4zz o5zz o11 o9 (gA o9 3 0).toInt.toNat := by
  have ht := hzz.2.2.2.2.2.2.1
  have hn := hzz.n
  refine ⟨ht.2.1.1, ht.2.2.1, hzz.2.2.2.2.2.2.2.1, fun zzz ez => ht.2.1.inf ez, h20, hn.1, fun jzz hj => ht.2.2.2 jzz ?_⟩
  omega
/-- what no call but its own may touch -/
def dOK (Dzz : DD) : Bool := [13, 11, 1, 58, 62, 8].all (fun izz => !Dzz.1.elem izz) && [12, 2, 61, 3, 6, 7, 4, 5].all (fun izz => !Dzz.2.2.1.elem izz) && [31, 32, 33, 54].all (fun izz => !Dzz.2.2.2.1.elem izz)
set_option maxHeartbeats 200000 in
theorem nel {l : List Nat} {kszz : List Nat} (hzz : kszz.all (fun izz => !l.elem izz) = true) {izz : Nat} (hizz : izz ∈ kszz) : l.elem izz = false := by
  have wzz := List.all_eq_true.mp hzz izz hizz
  cases ezz : l.elem izz with
  | false => rfl
  | true => rw [ezz] at wzz; cases wzz
/-- a call that only looks -/
theorem TF.rd {pl : List CR} {o0zz o1 o4zz o5zz o8zz o6 o11 o9 o9' : Ob} {im0 im1 : Option IR} {Dzz : DD} (hzz : TF pl o0zz o1 o4zz o5zz o8zz o6 o11 o9 im0 im1) (fzz : FrX Dzz o9 o9') (hD : dOK Dzz = true) : TF pl o0zz o1 o4zz o5zz o8zz o6 o11 o9' im0 im1 := by
  unfold dOK at hD
  simp only [Bool.and_eq_true] at hD
  obtain ⟨⟨q1zz, q2zz⟩, q3zz⟩ := hD
  obtain ⟨⟨h1, h2⟩, h3, ⟨h4, h4'⟩, h5, h6, h7, h8, h9, h10⟩ := hzz
  have A : ∀ izz, izz ∈ [12, 2, 61, 3, 6, 7, 4, 5] → gA o9' izz = gA o9 izz := fun izz hizz => fzz.A izz (nel q2zz hizz)
  have I : ∀ izz, izz ∈ [13, 11, 1, 58, 62, 8] → gI o9' izz = gI o9 izz := fun izz hizz => fzz.I izz (nel q1zz hizz)
  have M : ∀ izz, izz ∈ [31, 32, 33, 54] → gM o9' izz = gM o9 izz := fun izz hizz => fzz.M izz (nel q3zz hizz)
  have e3zz := A 3 (by decide)
  refine ⟨⟨by rw [I 13 (by decide)]; exact h1, by rw [A 12 (by decide)]; exact h2⟩, by rw [I 11 (by decide)]; exact h3, ⟨h4.eq (M 31 (by decide)) (M 32 (by decide)), h4'.eq2 (M 33 (by decide)) (M 54 (by decide))⟩, h5.eq rfl rfl (I 1 (by decide)) (A 2 (by decide)), by rw [I 58 (by decide)]; exact h6, h7.eq (I 62 (by decide)) (A 61 (by decide)), by rw [e3zz]; exact h8, ?_, h10.eq rfl (A 5 (by decide)) (A 4 (by decide))⟩
  rw [e3zz]
  exact h9.eq (I 8 (by decide)) (A 6 (by decide)) (A 7 (by decide))
