def TzI (pl : List CR) (isl : Ob) (Gzz : Nat → Int32) : Prop := WiL isl Gzz ∧ (gI isl 9 = Gzz 2 ∧ 0 ≤ (Gzz 2).toInt ∧ (Gzz 2).toInt ≤ 6) ∧ (gI isl 10 = Gzz 3 ∧ -1 ≤ (Gzz 3).toInt ∧ (Gzz 3).toInt < (Gzz 2).toInt) ∧ (gI isl 11 = Gzz 5 ∧ 0 ≤ (Gzz 5).toInt ∧ (Gzz 5).toInt ≤ 10) ∧ (∀ jzz, jzz < 6 → gA isl 4 jzz = Gzz (71 + 2 * jzz) ∧ gA isl 5 jzz = Gzz (72 + 2 * jzz)) ∧ (∀ l : Nat, (l : Int) < (Gzz 2).toInt → ∃ (azz : Nat) (czz : CR), gR isl 6 l = some azz ∧ pfind pl azz = some czz ∧ LwE czz.2.2.2.2.2 Gzz l)
def ZrT (Gzz : Nat → Int32) : Prop := ∀ jzz : Nat, ((15 + (Gzz 0).toInt ≤ (jzz : Int) ∧ jzz < 22) ∨ (22 + (Gzz 0).toInt ≤ (jzz : Int) ∧ jzz < 29)) → Gzz jzz = 0
def Tia (pl : List CR) (isl mv : Ob) (Gzz : Nat → Int32) : Prop := Tis isl Gzz ∧ TzI pl isl Gzz ∧ TzM mv Gzz ∧ ZrT Gzz
set_option maxHeartbeats 200000 in
theorem TzI.at' {pl : List CR} {isl : Ob} {Gzz : Nat → Int32} {pzz : Int32} {zzz : Option Nat} (hzz : TzI pl isl Gzz) (hp : pzz = -1 ∨ (0 ≤ pzz.toInt ∧ pzz.toInt < (Gzz 2).toInt)) (ezz : f_X2_lawAt isl pzz = some zzz) : LwP pl zzz Gzz pzz := by
  unfold f_X2_lawAt at ezz
  obtain ⟨z1, e1zz, ezz⟩ := z_bd ezz
  unfold f_X2_isLaw at e1zz
  rw [hzz.2.1.1] at e1zz
  rcases hp with hp | hp
  · subst hp
    have e1zz := Option.some.inj (z_t e1zz (by decide))
    exact Or.inl ⟨rfl, (Option.some.inj (z_t ezz e1zz.symm)).symm⟩
  · have e1zz := z_f e1zz (fun qzz => by have qzz := cv_lt (a := pzz.toInt) (b := 0) rfl (by decide) qzz; omega)
    have e1zz := Option.some.inj (z_f e1zz (fun qzz => by have qzz := cv_le (a := (Gzz 2).toInt) (b := pzz.toInt) rfl rfl qzz; omega))
    have ezz := Option.some.inj (z_gd (z_f ezz (by rw [← e1zz]; decide))).2
    obtain ⟨l, el⟩ : ∃ l : Nat, pzz.toInt = (l : Int) := ⟨pzz.toInt.toNat, by omega⟩
    have il : pzz.toNatClampNeg = l := tnc_eq el
    rw [il] at ezz
    obtain ⟨azz, czz, r1zz, r2, r3⟩ := hzz.2.2.2.2.2 l (by omega)
    have := hzz.2.1.2.2
    exact Or.inr ⟨l, azz, czz, by omega, el, ezz.symm.trans r1zz, r2, r3⟩
set_option maxHeartbeats 200000 in
theorem TzI.inf {pl : List CR} {isl : Ob} {Gzz : Nat → Int32} {zzz : Option Nat} (hzz : TzI pl isl Gzz) (ezz : f_X2_lawInForce isl = some zzz) : LwP pl zzz Gzz (Gzz 3) := by
  unfold f_X2_lawInForce at ezz
  obtain ⟨z1, e1zz, ezz⟩ := z_bd ezz
  have ezz := Option.some.inj ezz
  rw [← ezz]
  rw [hzz.2.2.1.1] at e1zz
  refine hzz.at' ?_ e1zz
  have qzz := hzz.2.2.1.2
  by_cases czz : (Gzz 3).toInt = -1
  · exact Or.inl (Int32.toInt_inj.mp (by rw [czz]; decide))
  · exact Or.inr ⟨by omega, qzz.2⟩
set_option maxHeartbeats 200000 in
theorem TzI.ext {pl : List CR} {isl isl' : Ob} {Gzz G' : Nat → Int32} (hzz : TzI pl isl Gzz) (i7zz : gI isl' 7 = gI isl 7) (i9zz : gI isl' 9 = gI isl 9) (i10zz : gI isl' 10 = gI isl 10) (i11zz : gI isl' 11 = gI isl 11) (i12zz : gI isl' 12 = gI isl 12) (a2 : ∀ jzz, jzz < 28 → gA isl' 2 jzz = gA isl 2 jzz) (a4 : ∀ jzz, jzz < 6 → gA isl' 4 jzz = gA isl 4 jzz) (a5 : ∀ jzz, jzz < 6 → gA isl' 5 jzz = gA isl 5 jzz) (aR : ∀ jzz, jzz < 6 → gR isl' 6 jzz = gR isl 6 jzz)
    (eg : ∀ jzz, (jzz < 4 ∧ jzz ≠ 1) ∨ jzz = 5 ∨ jzz = 6 ∨ (36 ≤ jzz ∧ jzz < 64) ∨ 71 ≤ jzz → G' jzz = Gzz jzz) : TzI pl isl' G' := by
  have e0zz : G' 0 = Gzz 0 := eg 0 (by omega)
  have e2zz : G' 2 = Gzz 2 := eg 2 (by omega)
  have e3zz : G' 3 = Gzz 3 := eg 3 (by omega)
  have e5zz : G' 5 = Gzz 5 := eg 5 (by omega)
  have e6zz : G' 6 = Gzz 6 := eg 6 (by omega)
  unfold TzI WiL
  rw [e0zz, e2zz, e3zz, e5zz, e6zz, i7zz, i9zz, i10zz, i11zz, i12zz]
  refine ⟨⟨hzz.1.1, fun jzz hj => ?_, hzz.1.2.2⟩, hzz.2.1, hzz.2.2.1, hzz.2.2.2.1, fun jzz hj => ?_, fun l hl => ?_⟩
  · rw [a2 jzz hj, eg (36 + jzz) (by omega)]; exact hzz.1.2.1 jzz hj
  · rw [a4 jzz hj, a5 jzz hj, eg (71 + 2 * jzz) (by omega), eg (72 + 2 * jzz) (by omega)]; exact hzz.2.2.2.2.1 jzz hj
  · obtain ⟨azz, czz, r1zz, r2, r3⟩ := hzz.2.2.2.2.2 l hl
    have := hzz.2.1.2.2
    exact ⟨azz, czz, by rw [aR l (by omega)]; exact r1zz, r2, r3.eq (fun jzz hj => eg jzz (by omega))⟩
set_option maxHeartbeats 200000 in
theorem pfind_app {pl l : List CR} {azz : Nat} {czz : CR} (hzz : pfind pl azz = some czz) : pfind (pl ++ l) azz = some czz := by
  unfold pfind at hzz ⊢
  rw [List.find?_append, hzz]; rfl
set_option maxHeartbeats 200000 in
theorem TzI.app {pl l : List CR} {isl : Ob} {Gzz : Nat → Int32} (hzz : TzI pl isl Gzz) : TzI (pl ++ l) isl Gzz := by
  refine ⟨hzz.1, hzz.2.1, hzz.2.2.1, hzz.2.2.2.1, hzz.2.2.2.2.1, fun izz hizz => ?_⟩
  obtain ⟨azz, czz, r1zz, r2, r3⟩ := hzz.2.2.2.2.2 izz hizz
  exact ⟨azz, czz, r1zz, pfind_app r2, r3⟩
set_option maxHeartbeats 200000 in
theorem Tia.app {pl l : List CR} {isl mv : Ob} {Gzz : Nat → Int32} (hzz : Tia pl isl mv Gzz) : Tia (pl ++ l) isl mv Gzz := ⟨hzz.1, hzz.2.1.app, hzz.2.2⟩
set_option maxHeartbeats 200000 in
theorem Tia.mv {pl : List CR} {isl mv mv' : Ob} {Gzz G' : Nat → Int32} {n : Nat} (hzz : Tia pl isl mv Gzz) (en : (Gzz 0).toInt = (n : Int)) (wzz : RwC n Gzz G') (hMzz : TzM mv' G') : Tia pl isl mv' G' := by
  refine ⟨hzz.1.eq rfl rfl rfl rfl rfl (fun jzz hj => wzz jzz (by omega)), hzz.2.1.ext rfl rfl rfl rfl rfl (fun _ _ => rfl) (fun _ _ => rfl) (fun _ _ => rfl) (fun _ _ => rfl) (fun jzz hj => wzz jzz (by omega)), hMzz, fun jzz hj => ?_⟩
  rw [wzz 0 (by omega), en] at hj
  rw [wzz jzz (by omega)]
  exact hzz.2.2.2 jzz (by rw [en]; exact hj)
def TslF (pl : List CR) (o0zz o9 : Ob) (kzz : Nat) (im : Option IR) : Prop := (im = none → gR o0zz 7 kzz = none ∧ gA o9 5 kzz = 0) ∧ (∀ rzz : IR, im = some rzz → gR o0zz 7 kzz = some rzz.1 ∧ ¬ gA o9 5 kzz = 0 ∧ Tia pl rzz.2.2.2.2.2.2.1 rzz.2.2.2.2.2.2.2 (fun jzz => gA o9 4 (5484 * kzz + jzz)))
set_option maxHeartbeats 200000 in
theorem TslF.eq {pl : List CR} {o0zz o9 o0' o9' : Ob} {kzz : Nat} {im : Option IR} (hzz : TslF pl o0zz o9 kzz im) (e0zz : gR o0' 7 = gR o0zz 7) (e5zz : gA o9' 5 = gA o9 5) (e4zz : gA o9' 4 = gA o9 4) : TslF pl o0' o9' kzz im := by
  unfold TslF
  rw [e0zz, e5zz, e4zz]; exact hzz
set_option maxHeartbeats 200000 in
theorem TslF.app {pl l : List CR} {o0zz o9 : Ob} {kzz : Nat} {im : Option IR} (hzz : TslF pl o0zz o9 kzz im) : TslF (pl ++ l) o0zz o9 kzz im := ⟨hzz.1, fun rzz hr => ⟨(hzz.2 rzz hr).1, (hzz.2 rzz hr).2.1, (hzz.2 rzz hr).2.2.app⟩⟩
def TimF (pl : List CR) (o0zz o9 : Ob) (im0 im1 : Option IR) : Prop := ∃ s : Nat, s < 2 ∧ TslF pl o0zz o9 s im0 ∧ TslF pl o0zz o9 (1 - s) im1
set_option maxHeartbeats 200000 in
theorem TimF.eq {pl : List CR} {o0zz o9 o0' o9' : Ob} {im0 im1 : Option IR} (hzz : TimF pl o0zz o9 im0 im1) (e0zz : gR o0' 7 = gR o0zz 7) (e5zz : gA o9' 5 = gA o9 5) (e4zz : gA o9' 4 = gA o9 4) : TimF pl o0' o9' im0 im1 := by
  obtain ⟨s, h1, h2, h3⟩ := hzz
  exact ⟨s, h1, h2.eq e0zz e5zz e4zz, h3.eq e0zz e5zz e4zz⟩
set_option maxHeartbeats 200000 in
theorem TimF.app {pl l : List CR} {o0zz o9 : Ob} {im0 im1 : Option IR} (hzz : TimF pl o0zz o9 im0 im1) : TimF (pl ++ l) o0zz o9 im0 im1 := by
  obtain ⟨s, h1, h2, h3⟩ := hzz
  exact ⟨s, h1, h2.app, h3.app⟩
def TF (pl : List CR) (o0zz o1 o4zz o5zz o8zz o6 o11 o9 : Ob) (im0 im1 : Option IR) : Prop :=
  (gI o1 2 = gI o9 13 ∧ gA o1 0 = gA o9 12) ∧ gI o0zz 13 = gI o9 11 ∧ (TbW o9 ∧ HDs o9) ∧ StT o0zz o9 ∧ gI o0zz 14 = gI o9 58 ∧ PpT o8zz o6 o9 ∧ Tia pl o4zz o5zz (gA o9 3) ∧ PaT o11 o9 (gA o9 3 0).toInt.toNat (gA o9 3) ∧ TimF pl o0zz o9 im0 im1
set_option maxHeartbeats 200000 in
theorem TbW.eq {o o' : Ob} (hzz : TbW o) (azz : gM o' 31 = gM o 31) (bzz : gM o' 32 = gM o 32) : TbW o' := ⟨by rw [azz]; exact hzz.1, by rw [bzz]; exact hzz.2⟩
set_option maxHeartbeats 200000 in
theorem HDs.eq2 {o o' : Ob} (hzz : HDs o) (azz : gM o' 33 = gM o 33) (bzz : gM o' 54 = gM o 54) : HDs o' := ⟨by rw [azz]; exact hzz.1, by rw [bzz]; exact hzz.2⟩
set_option maxHeartbeats 200000 in
theorem TF.n {pl : List CR} {o0zz o1 o4zz o5zz o8zz o6 o11 o9 : Ob} {im0 im1 : Option IR} (hzz : TF pl o0zz o1 o4zz o5zz o8zz o6 o11 o9 im0 im1) : (gA o9 3 0).toInt = ((gA o9 3 0).toInt.toNat : Int) ∧ (gA o9 3 0).toInt.toNat ≤ 7 := by
  have := hzz.2.2.2.2.2.2.1.2.1.1.1.2
  omega
set_option maxHeartbeats 200000 in
theorem TF.s {pl : List CR} {o0zz o1 o4zz o5zz o8zz o6 o11 o9 : Ob} {im0 im1 : Option IR} (hzz : TF pl o0zz o1 o4zz o5zz o8zz o6 o11 o9 im0 im1) (h20 : gI o9 20 = 0) : TzS pl o4zz o5zz o11 o9 (gA o9 3 0).toInt.toNat := by
  have ht := hzz.2.2.2.2.2.2.1
  have hn := hzz.n
  refine ⟨ht.2.1.1, ht.2.2.1, hzz.2.2.2.2.2.2.2.1, fun zzz ez => ht.2.1.inf ez, h20, hn.1, fun jzz hj => ht.2.2.2 jzz ?_⟩
  omega
def dOK (Dzz : DD) : Bool := [13, 11, 1, 58, 62, 8].all (fun izz => !Dzz.1.elem izz) && [12, 2, 61, 3, 6, 7, 4, 5].all (fun izz => !Dzz.2.2.1.elem izz) && [31, 32, 33, 54].all (fun izz => !Dzz.2.2.2.1.elem izz)
set_option maxHeartbeats 200000 in
theorem nel {l : List Nat} {kszz : List Nat} (hzz : kszz.all (fun izz => !l.elem izz) = true) {izz : Nat} (hizz : izz ∈ kszz) : l.elem izz = false := by
  have wzz := List.all_eq_true.mp hzz izz hizz
  cases ezz : l.elem izz with
  | false => rfl
  | true => rw [ezz] at wzz; cases wzz
set_option maxHeartbeats 200000 in
theorem TF.rd {pl : List CR} {o0zz o1 o4zz o5zz o8zz o6 o11 o9 o9' : Ob} {im0 im1 : Option IR} {Dzz : DD} (hzz : TF pl o0zz o1 o4zz o5zz o8zz o6 o11 o9 im0 im1) (fzz : FrX Dzz o9 o9') (hD : dOK Dzz = true) : TF pl o0zz o1 o4zz o5zz o8zz o6 o11 o9' im0 im1 := by
  unfold dOK at hD
  simp only [Bool.and_eq_true] at hD
  obtain ⟨⟨q1zz, q2zz⟩, q3zz⟩ := hD
  obtain ⟨⟨h1, h2⟩, h3, ⟨h4, h4'⟩, h5, h6, h7, h8, h9, h10⟩ := hzz
  have A : ∀ izz, izz ∈ [12, 2, 61, 3, 6, 7, 4, 5] → gA o9' izz = gA o9 izz := fun izz hizz => fzz.A izz (nel q2zz hizz)
  have I : ∀ izz, izz ∈ [13, 11, 1, 58, 62, 8] → gI o9' izz = gI o9 izz := fun izz hizz => fzz.I izz (nel q1zz hizz)
  have M : ∀ izz, izz ∈ [31, 32, 33, 54] → gM o9' izz = gM o9 izz := fun izz hizz => fzz.M izz (nel q3zz hizz)
  have e3zz := A 3 (by decide)
  refine ⟨⟨by rw [I 13 (by decide)]; exact h1, by rw [A 12 (by decide)]; exact h2⟩, by rw [I 11 (by decide)]; exact h3, ⟨h4.eq (M 31 (by decide)) (M 32 (by decide)), h4'.eq2 (M 33 (by decide)) (M 54 (by decide))⟩, h5.eq rfl rfl (I 1 (by decide)) (A 2 (by decide)), by rw [I 58 (by decide)]; exact h6, h7.eq (I 62 (by decide)) (A 61 (by decide)), by rw [e3zz]; exact h8, ?_, h10.eq rfl (A 5 (by decide)) (A 4 (by decide))⟩
  rw [e3zz]
  exact h9.eq (I 8 (by decide)) (A 6 (by decide)) (A 7 (by decide))
set_option maxHeartbeats 200000 in
theorem TF.sI0 {pl : List CR} {o0zz o1 o4zz o5zz o8zz o6 o11 o9 : Ob} {im0 im1 : Option IR} {vzz : Int32} (hzz : TF pl o0zz o1 o4zz o5zz o8zz o6 o11 o9 im0 im1) : TF pl o0zz o1 o4zz o5zz o8zz o6 o11 (sI o9 0 vzz) im0 im1 := hzz.rd (FrX.sI FrX.rf rfl : FrX (([0], [], [], [], []) : DD) o9 (sI o9 0 vzz)) rfl
def dMv : DD := ([0, 1, 8, 20, 34, 38, 43, 56, 57, 59], [39, 40, 60], [2, 3, 6, 7, 9, 10, 41, 42], [35, 36, 37], [])
set_option maxHeartbeats 200000 in
theorem TF.put {pl : List CR} {o0zz o1 o4zz o5zz o8zz o6 o11 o9 o0' mv' pa' o9' : Ob} {im0 im1 : Option IR} {n : Nat} (hzz : TF pl o0zz o1 o4zz o5zz o8zz o6 o11 o9 im0 im1) (fzz : FrX dMv o9 o9') (hn : n = (gA o9 3 0).toInt.toNat) (wzz : RwC n (gA o9 3) (gA o9' 3)) (hMzz : TzM mv' (gA o9' 3)) (hP : PaT pa' o9' n (gA o9' 3)) (hst : StT o0' o9') (e13zz : gI o0' 13 = gI o0zz 13) (e14zz : gI o0' 14 = gI o9' 58) (eR : gR o0' 7 = gR o0zz 7) : TF pl o0' o1 o4zz mv' o8zz o6 pa' o9' im0 im1 := by
  have hNzz := hzz.n
  obtain ⟨⟨h1, h2⟩, h3, ⟨h4, h4'⟩, h5, h6, h7, h8, h9, h10⟩ := hzz
  have e0zz : gA o9' 3 0 = gA o9 3 0 := wzz 0 (by omega)
  refine ⟨⟨by rw [fzz.I 13 rfl]; exact h1, by rw [fzz.A 12 rfl]; exact h2⟩, by rw [fzz.I 11 rfl, e13zz]; exact h3, ⟨h4.eq (fzz.M 31 rfl) (fzz.M 32 rfl), h4'.eq2 (fzz.M 33 rfl) (fzz.M 54 rfl)⟩, hst, e14zz, h7.eq (fzz.I 62 rfl) (fzz.A 61 rfl), h8.mv (by rw [hn]; exact hNzz.1) wzz hMzz, by rw [e0zz, ← hn]; exact hP, h10.eq eR (fzz.A 5 rfl) (fzz.A 4 rfl)⟩
set_option maxHeartbeats 200000 in
theorem ans_eq {o8zz o : Ob} {vzz : Int32} {zzz wzz : Int32 × Ob} (hzz : StT o8zz o) (hv : (vzz = -1 ∨ vzz = -2 ∨ vzz = -3) ∨ 0 ≤ vzz.toInt) (h1 : f_X8_answer o8zz vzz = some zzz) (h2 : f_X9_tell o vzz = some wzz) : zzz.1 = vzz ∧ wzz.1 = vzz ∧ StT zzz.2 wzz.2 := by
  unfold f_X8_answer at h1
  rcases hv with hv | hv
  · have r0 : ¬ (0 : Int32) ≤ vzz := by rcases hv with qzz | qzz | qzz <;> subst qzz <;> decide
    obtain ⟨z2, k2zz, h1⟩ := z_bd (z_f h1 r0)
    have h1 := Option.some.inj h1
    rw [← h1]
    refine st_refuse hzz ?_ k2zz h2
    rcases hv with qzz | qzz | qzz
    · exact Or.inl qzz
    · exact Or.inr (Or.inl qzz)
    · exact Or.inr (Or.inr (Or.inl qzz))
  · have r0 : (0 : Int32) ≤ vzz := Int32.le_iff_toInt_le.mpr (by rw [(by decide : (0 : Int32).toInt = 0)]; exact hv)
    obtain ⟨z1, k1zz, h1⟩ := z_bd (z_t h1 r0)
    have h1 := Option.some.inj h1
    rw [← h1]
    exact st_grant hzz hv k1zz h2
set_option maxHeartbeats 200000 in
theorem TF.move {pl : List CR} {o0zz o1 o4zz o5zz o8zz o6 o11 o9 mv' pa' o' : Ob} {im0 im1 : Option IR} {n : Nat} {vzz v' : Int32} {zzz wzz : Int32 × Ob} (hzz : TF pl o0zz o1 o4zz o5zz o8zz o6 o11 o9 im0 im1) (hn : n = (gA o9 3 0).toInt.toNat) (hmzz : MvE pl o4zz o5zz o9 n vzz v' mv' pa' o') (fzz : FrX d_X9_act_me o9 o') (k1zz : f_X8_answer o0zz vzz = some zzz) (k2zz : f_X9_tell o' v' = some wzz) : zzz.1 = wzz.1 ∧ TF pl zzz.2 o1 o4zz mv' o8zz o6 pa' wzz.2 im0 im1 := by
  obtain ⟨u1zz, u2zz, u3, u4zz, -⟩ := hmzz
  rw [u1zz] at k1zz
  have st' : StT o0zz o' := hzz.2.2.2.1.eq rfl rfl (fzz.I 1 rfl) (fzz.A 2 rfl)
  obtain ⟨s1zz, s2zz, s3zz⟩ := ans_eq st' u4zz k1zz k2zz
  have fa := fr_f_X8_answer k1zz
  have ft := fr_f_X9_tell k2zz
  have e3zz : gA wzz.2 3 = gA o' 3 := ft.A 3 rfl
  refine ⟨s1zz.trans s2zz.symm, hzz.put ((fzz.mono rfl).tr (ft.mono rfl)) hn (by rw [e3zz]; exact u3) (by rw [e3zz]; exact u2zz.2.1) (by rw [e3zz]; exact u2zz.2.2.1.eq (ft.I 8 rfl) (ft.A 6 rfl) (ft.A 7 rfl)) s3zz (fa.I 13 rfl) ?_ (fa.R 7 rfl)⟩
  rw [fa.I 14 rfl, ft.I 58 rfl, fzz.I 58 rfl]; exact hzz.2.2.2.2.1
set_option maxHeartbeats 200000 in
theorem tf_race {pl : List CR} {o0zz o1 mezz o4zz o5zz czz o8zz o6 o11 o9 : Ob} {im0 im1 : Option IR} {pzz : Int32} {yzz : Int32 × Ob × Ob × Ob × Ob × Ob} {y' : Int32 × Ob} (ht : TF pl o0zz o1 o4zz o5zz o8zz o6 o11 o9 im0 im1) (h20 : gI o9 20 = 0) (h1 : f_X8_race o0zz mezz o4zz o5zz czz o11 pl pzz = some yzz) (h2 : f_X9_race o9 pzz = some y') : yzz.1 = y'.1 ∧ TF pl yzz.2.1 o1 o4zz yzz.2.2.2.1 o8zz o6 yzz.2.2.2.2.2 y'.2 im0 im1 := by
  unfold f_X8_race at h1
  unfold f_X9_race at h2
  obtain ⟨z1, k1zz, h1⟩ := z_bd h1
  obtain ⟨z2, k2zz, h1⟩ := z_bd h1
  have h1 := Option.some.inj h1
  obtain ⟨q1zz, g1, h2⟩ := z_lt h2
  obtain ⟨w2zz, l2, h2⟩ := z_bd h2
  obtain ⟨w3zz, l3, h2⟩ := z_bd h2
  have h2 := Option.some.inj h2
  have ht1 : TF pl o0zz o1 o4zz o5zz o8zz o6 o11 q1zz im0 im1 := by rw [g1]; exact ht.sI0
  rw [← h1, ← h2]
  exact ht1.move rfl (race_move (ht1.s (by rw [g1]; exact h20)) k1zz l2) ((fr_f_X9_raceNow l2).mono rfl) k2zz l3
set_option maxHeartbeats 200000 in
theorem tf_enter {pl : List CR} {o0zz o1 mezz o4zz o5zz czz o8zz o6 o11 o9 : Ob} {im0 im1 : Option IR} {pzz : Int32} {yzz : Int32 × Ob × Ob × Ob × Ob × Ob} {y' : Int32 × Ob} (ht : TF pl o0zz o1 o4zz o5zz o8zz o6 o11 o9 im0 im1) (h20 : gI o9 20 = 0) (h1 : f_X8_enter o0zz mezz o4zz o5zz czz o11 pl pzz = some yzz) (h2 : f_X9_enter o9 pzz = some y') : yzz.1 = y'.1 ∧ TF pl yzz.2.1 o1 o4zz yzz.2.2.2.1 o8zz o6 yzz.2.2.2.2.2 y'.2 im0 im1 := by
  unfold f_X8_enter at h1
  unfold f_X9_enter at h2
  obtain ⟨z1, k1zz, h1⟩ := z_bd h1
  obtain ⟨z2, k2zz, h1⟩ := z_bd h1
  have h1 := Option.some.inj h1
  obtain ⟨q1zz, g1, h2⟩ := z_lt h2
  obtain ⟨w2zz, l2, h2⟩ := z_bd h2
  obtain ⟨w3zz, l3, h2⟩ := z_bd h2
  have h2 := Option.some.inj h2
  have ht1 : TF pl o0zz o1 o4zz o5zz o8zz o6 o11 q1zz im0 im1 := by rw [g1]; exact ht.sI0
  rw [← h1, ← h2]
  exact ht1.move rfl (enter_move (ht1.s (by rw [g1]; exact h20)) k1zz l2) ((fr_f_X9_enterNow l2).mono rfl) k2zz l3
set_option maxHeartbeats 200000 in
theorem tf_take {pl : List CR} {o0zz o1 mezz o4zz o5zz czz o8zz o6 o11 o9 : Ob} {im0 im1 : Option IR} {pzz : Int32} {yzz : Int32 × Ob × Ob × Ob × Ob × Ob} {y' : Int32 × Ob} (ht : TF pl o0zz o1 o4zz o5zz o8zz o6 o11 o9 im0 im1) (h20 : gI o9 20 = 0) (h1 : f_X8_take o0zz mezz o4zz o5zz czz o11 pl pzz = some yzz) (h2 : f_X9_take o9 pzz = some y') : yzz.1 = y'.1 ∧ TF pl yzz.2.1 o1 o4zz yzz.2.2.2.1 o8zz o6 yzz.2.2.2.2.2 y'.2 im0 im1 := by
  unfold f_X8_take at h1
  unfold f_X9_take at h2
  obtain ⟨z1, k1zz, h1⟩ := z_bd h1
  obtain ⟨z2, k2zz, h1⟩ := z_bd h1
  have h1 := Option.some.inj h1
  obtain ⟨q1zz, g1, h2⟩ := z_lt h2
  obtain ⟨w2zz, l2, h2⟩ := z_bd h2
  obtain ⟨w3zz, l3, h2⟩ := z_bd h2
  have h2 := Option.some.inj h2
  have ht1 : TF pl o0zz o1 o4zz o5zz o8zz o6 o11 q1zz im0 im1 := by rw [g1]; exact ht.sI0
  rw [← h1, ← h2]
  exact ht1.move rfl (take_move (ht1.s (by rw [g1]; exact h20)) k1zz l2) ((fr_f_X9_takeNow l2).mono rfl) k2zz l3
set_option maxHeartbeats 200000 in
theorem tf_pass {pl : List CR} {o0zz o1 mezz o4zz o5zz czz o8zz o6 o11 o9 : Ob} {im0 im1 : Option IR} {yzz : Int32 × Ob × Ob × Ob × Ob × Ob} {y' : Int32 × Ob} (ht : TF pl o0zz o1 o4zz o5zz o8zz o6 o11 o9 im0 im1) (h20 : gI o9 20 = 0) (h1 : f_X8_pass o0zz mezz o4zz o5zz czz o11 pl = some yzz) (h2 : f_X9_pass o9 = some y') : yzz.1 = y'.1 ∧ TF pl yzz.2.1 o1 o4zz yzz.2.2.2.1 o8zz o6 yzz.2.2.2.2.2 y'.2 im0 im1 := by
  unfold f_X8_pass at h1
  unfold f_X9_pass at h2
  obtain ⟨z1, k1zz, h1⟩ := z_bd h1
  obtain ⟨z2, k2zz, h1⟩ := z_bd h1
  have h1 := Option.some.inj h1
  obtain ⟨q1zz, g1, h2⟩ := z_lt h2
  obtain ⟨w2zz, l2, h2⟩ := z_bd h2
  obtain ⟨w3zz, l3, h2⟩ := z_bd h2
  have h2 := Option.some.inj h2
  have ht1 : TF pl o0zz o1 o4zz o5zz o8zz o6 o11 q1zz im0 im1 := by rw [g1]; exact ht.sI0
  rw [← h1, ← h2]
  exact ht1.move rfl (pass_move (ht1.s (by rw [g1]; exact h20)) k1zz l2) ((fr_f_X9_passNow l2).mono rfl) k2zz l3
set_option maxHeartbeats 200000 in
theorem tf_undo {pl : List CR} {o0zz o1 o4zz o5zz o8zz o6 o11 o9 : Ob} {im0 im1 : Option IR} {yzz : Int32 × Ob × Ob × Ob} {y' : Int32 × Ob} (ht : TF pl o0zz o1 o4zz o5zz o8zz o6 o11 o9 im0 im1) (h20 : gI o9 20 = 0) (h1 : f_X8_undo o0zz o4zz o5zz o11 = some yzz) (h2 : f_X9_undo o9 = some y') : yzz.1 = y'.1 ∧ TF pl yzz.2.1 o1 o4zz yzz.2.2.1 o8zz o6 yzz.2.2.2 y'.2 im0 im1 := by
  unfold f_X8_undo at h1
  unfold f_X9_undo at h2
  obtain ⟨q1zz, g1, h2⟩ := z_lt h2
  have ht1 : TF pl o0zz o1 o4zz o5zz o8zz o6 o11 q1zz im0 im1 := by rw [g1]; exact ht.sI0
  have hSzz := ht1.s (by rw [g1]; exact h20)
  have e8 : gI o11 3 = gI q1zz 8 := hSzz.2.2.1.1
  rw [← e8] at h2
  by_cases czz : gI o11 3 = 0
  · obtain ⟨z3, k3zz, h1⟩ := z_bd (z_t h1 czz)
    obtain ⟨w6zz, l6, h2⟩ := z_bd (z_t h2 czz)
    have h1 := Option.some.inj h1
    have h2 := Option.some.inj h2
    obtain ⟨s1zz, s2zz, s3zz⟩ := st_refuse ht1.2.2.2.1 (Or.inr (Or.inr (Or.inl rfl))) k3zz l6
    have fa := fr_f_X8_refuse k3zz
    have ft := fr_f_X9_tell l6
    have e3zz : gA w6zz.2 3 = gA q1zz 3 := ft.A 3 rfl
    rw [← h1, ← h2]
    refine ⟨s1zz.trans s2zz.symm, ht1.put (ft.mono rfl) rfl (by rw [e3zz]; exact RwC.rf) (by rw [e3zz]; exact hSzz.2.1) (by rw [e3zz]; exact hSzz.2.2.1.eq (ft.I 8 rfl) (ft.A 6 rfl) (ft.A 7 rfl)) s3zz (fa.I 13 rfl) ?_ (fa.R 7 rfl)⟩
    rw [fa.I 14 rfl, ft.I 58 rfl]; exact ht1.2.2.2.2.1
  · obtain ⟨z1, k1zz, h1⟩ := z_bd (z_f h1 czz)
    obtain ⟨z2, k2zz, h1⟩ := z_bd h1
    have h1 := Option.some.inj h1
    obtain ⟨q2zz, g2, h2⟩ := z_lt (z_f h2 czz)
    obtain ⟨w3zz, l3, h2⟩ := z_bd h2
    have h2 := (z_gd h2).2
    obtain ⟨w5, l5, h2⟩ := z_bd h2
    have h2 := Option.some.inj h2
    obtain ⟨r1zz, r2, r3, r4⟩ := bring_eq hSzz czz k1zz (by rw [g2, e8]) l3
    have fpzz := fr_f_X9_putBack l3
    have e21zz : gI q2zz 1 = gI q1zz 1 := by rw [g2]; rfl
    have e2A : ∀ izz, gA q2zz izz = gA q1zz izz := fun izz => by rw [g2]; rfl
    have st3zz : StT o0zz w3zz := ht1.2.2.2.1.eq rfl rfl ((fpzz.I 1 rfl).trans e21zz) ((fpzz.A 2 rfl).trans (e2A 2))
    rw [← r1zz] at l5
    obtain ⟨s1zz, s2zz, s3zz⟩ := st_grant st3zz r2 k2zz l5
    have fa := fr_f_X8_grant k2zz
    have ft := fr_f_X9_tell l5
    have e3zz : gA w5.2 3 = gA w3zz 3 := ft.A 3 rfl
    have Fzz : FrX dMv q1zz w5.2 := ((by rw [g2]; exact FrX.sI FrX.rf rfl : FrX dMv q1zz q2zz).tr (fpzz.mono rfl)).tr (ft.mono rfl)
    rw [← h1, ← h2]
    refine ⟨s1zz.trans s2zz.symm, ht1.put Fzz rfl (by rw [e3zz]; exact r4) (by rw [e3zz]; exact r3.2.1) (by rw [e3zz]; exact r3.2.2.1.eq (ft.I 8 rfl) (ft.A 6 rfl) (ft.A 7 rfl)) s3zz (fa.I 13 rfl) ?_ (fa.R 7 rfl)⟩
    rw [fa.I 14 rfl, Fzz.I 58 rfl]; exact ht1.2.2.2.2.1
set_option maxHeartbeats 200000 in
theorem tf_cent {pl : List CR} {o0zz o1 mezz o4zz o5zz o8zz o6 czz o11 o9 : Ob} {im0 im1 : Option IR} {p0zz p1zz : Int32} {yzz : Int32 × Ob × Ob × Ob × Ob × Ob} {y' : Int32 × Ob} (ht : TF pl o0zz o1 o4zz o5zz o8zz o6 o11 o9 im0 im1) (h20 : gI o9 20 = 0) (h1 : f_X8_centuries o0zz mezz o4zz o5zz o8zz o6 czz pl p0zz p1zz = some yzz) (h2 : f_X9_centuries o9 p0zz p1zz = some y') (e13zz : gI yzz.2.1 13 = gI o0zz 13) (e14zz : gI yzz.2.1 14 = gI o0zz 14) (eR : gR yzz.2.1 7 = gR o0zz 7) : yzz.1 = y'.1 ∧ TF pl yzz.2.1 o1 o4zz o5zz yzz.2.2.2.1 yzz.2.2.2.2.1 o11 y'.2 im0 im1 := by
  obtain ⟨r1zz, r2, r3, r4, r5zz⟩ := cent_eq (ht.s h20) ht.2.2.2.1 ht.2.2.2.2.2.1 h1 h2
  have fzz := fr_f_X9_centuries h2
  obtain ⟨⟨g1, g2⟩, g3zz, ⟨g4, g4'⟩, g5zz, g6, g7, g8, g9, g10⟩ := ht
  refine ⟨r1zz, ⟨by rw [fzz.I 13 rfl]; exact g1, by rw [fzz.A 12 rfl]; exact g2⟩, by rw [fzz.I 11 rfl, e13zz]; exact g3zz, ⟨g4.eq (fzz.M 31 rfl) (fzz.M 32 rfl), g4'.eq2 (fzz.M 33 rfl) (fzz.M 54 rfl)⟩, r4, by rw [e14zz, fzz.I 58 rfl]; exact g6, r5zz, by rw [r3]; exact g8, ?_, g10.eq eR (fzz.A 5 rfl) (fzz.A 4 rfl)⟩
  have wzz := r2.2.2.1
  rw [r3] at wzz ⊢
  exact wzz
def dIs : DD := ([0, 1, 8], [], [2, 3], [], [])
set_option maxHeartbeats 200000 in
theorem TF.isl {pl : List CR} {o0zz o1 o4zz o5zz o8zz o6 o11 o9 o0' o4' o5' o11' o9' : Ob} {im0 im1 : Option IR} (hzz : TF pl o0zz o1 o4zz o5zz o8zz o6 o11 o9 im0 im1) (fzz : FrX dIs o9 o9') (hTzz : Tia pl o4' o5' (gA o9' 3)) (hP : PaT o11' o9' (gA o9' 3 0).toInt.toNat (gA o9' 3)) (hst : StT o0' o9') (e13zz : gI o0' 13 = gI o0zz 13) (e14zz : gI o0' 14 = gI o0zz 14) (eR : gR o0' 7 = gR o0zz 7) : TF pl o0' o1 o4' o5' o8zz o6 o11' o9' im0 im1 := by
  obtain ⟨⟨h1, h2⟩, h3, ⟨h4, h4'⟩, h5, h6, h7, h8, h9, h10⟩ := hzz
  exact ⟨⟨by rw [fzz.I 13 rfl]; exact h1, by rw [fzz.A 12 rfl]; exact h2⟩, by rw [fzz.I 11 rfl, e13zz]; exact h3, ⟨h4.eq (fzz.M 31 rfl) (fzz.M 32 rfl), h4'.eq2 (fzz.M 33 rfl) (fzz.M 54 rfl)⟩, hst, by rw [e14zz, fzz.I 58 rfl]; exact h6, h7.eq (fzz.I 62 rfl) (fzz.A 61 rfl), hTzz, hP, h10.eq eR (fzz.A 5 rfl) (fzz.A 4 rfl)⟩
set_option maxHeartbeats 200000 in
theorem TF.no {pl : List CR} {o0zz o1 o4zz o5zz o8zz o6 o11 o9 : Ob} {im0 im1 : Option IR} {vzz : Int32} {zzz wzz : Int32 × Ob} (hzz : TF pl o0zz o1 o4zz o5zz o8zz o6 o11 o9 im0 im1) (hv : vzz = -1 ∨ vzz = -2 ∨ vzz = -3 ∨ vzz = -5 ∨ vzz = -6) (k1zz : f_X8_refuse o0zz vzz = some zzz) (k2zz : f_X9_tell o9 vzz = some wzz) : zzz.1 = wzz.1 ∧ TF pl zzz.2 o1 o4zz o5zz o8zz o6 o11 wzz.2 im0 im1 := by
  obtain ⟨s1zz, s2zz, s3zz⟩ := st_refuse hzz.2.2.2.1 hv k1zz k2zz
  have fa := fr_f_X8_refuse k1zz
  have ft := fr_f_X9_tell k2zz
  have e3zz : gA wzz.2 3 = gA o9 3 := ft.A 3 rfl
  refine ⟨s1zz.trans s2zz.symm, hzz.isl (ft.mono rfl) (by rw [e3zz]; exact hzz.2.2.2.2.2.2.1) ?_ s3zz (fa.I 13 rfl) (fa.I 14 rfl) (fa.R 7 rfl)⟩
  rw [e3zz]
  exact hzz.2.2.2.2.2.2.2.1.eq (ft.I 8 rfl) (ft.A 6 rfl) (ft.A 7 rfl)
set_option maxHeartbeats 200000 in
theorem TF.yes {pl : List CR} {o0zz o1 o4zz o5zz o8zz o6 o11 o9 : Ob} {im0 im1 : Option IR} {vzz : Int32} {zzz wzz : Int32 × Ob} (hzz : TF pl o0zz o1 o4zz o5zz o8zz o6 o11 o9 im0 im1) (hv : 0 ≤ vzz.toInt) (k1zz : f_X8_grant o0zz vzz = some zzz) (k2zz : f_X9_tell o9 vzz = some wzz) : zzz.1 = wzz.1 ∧ TF pl zzz.2 o1 o4zz o5zz o8zz o6 o11 wzz.2 im0 im1 := by
  obtain ⟨s1zz, s2zz, s3zz⟩ := st_grant hzz.2.2.2.1 hv k1zz k2zz
  have fa := fr_f_X8_grant k1zz
  have ft := fr_f_X9_tell k2zz
  have e3zz : gA wzz.2 3 = gA o9 3 := ft.A 3 rfl
  refine ⟨s1zz.trans s2zz.symm, hzz.isl (ft.mono rfl) (by rw [e3zz]; exact hzz.2.2.2.2.2.2.1) ?_ s3zz (fa.I 13 rfl) (fa.I 14 rfl) (fa.R 7 rfl)⟩
  rw [e3zz]
  exact hzz.2.2.2.2.2.2.2.1.eq (ft.I 8 rfl) (ft.A 6 rfl) (ft.A 7 rfl)
set_option maxHeartbeats 200000 in
theorem chg {o : Ob} {pzz vzz : Int32} {wzz : Int32 × Ob} {kzz : Nat} (ek : pzz.toInt = (kzz : Int)) (hzz : f_X9_change o pzz vzz = some wzz) : wzz.1 = gA o 3 kzz ∧ wzz.2 = sI (tA o 3 kzz vzz) 1 0 := by
  have ip : pzz.toNatClampNeg = kzz := tnc_eq ek
  unfold f_X9_change at hzz
  rw [ip] at hzz
  have hzz := (z_gd hzz).2
  obtain ⟨x2zz, g2, hzz⟩ := z_lt hzz
  have hzz := (z_gd hzz).2
  obtain ⟨o4zz, g4, hzz⟩ := z_lt hzz
  obtain ⟨o5zz, g5zz, hzz⟩ := z_lt hzz
  have hzz := Option.some.inj hzz
  rw [← hzz]
  exact ⟨g2, by show o5zz = _; rw [g5zz, g4]⟩
set_option maxHeartbeats 200000 in
theorem grant_d {o : Ob} {vzz : Int32} {zzz : Int32 × Ob} (hzz : f_X8_grant o vzz = some zzz) : zzz = (vzz, sI o 12 0) := by
  unfold f_X8_grant at hzz
  obtain ⟨o1, g1, hzz⟩ := z_lt hzz
  rw [← Option.some.inj hzz, g1]
set_option maxHeartbeats 200000 in
theorem StT.chg {o0zz o9 : Ob} {kzz : Nat} {vzz : Int32} (hzz : StT o0zz o9) : StT (sI o0zz 12 0) (sI (tA o9 3 kzz vzz) 1 0) := ⟨rfl, hzz.2⟩
set_option maxHeartbeats 200000 in
theorem tf_force {pl : List CR} {o0zz o1 o4zz o5zz o8zz o6 o11 o9 : Ob} {im0 im1 : Option IR} {pzz : Int32} {yzz : Int32 × Ob × Ob} {y' : Int32 × Ob} (ht : TF pl o0zz o1 o4zz o5zz o8zz o6 o11 o9 im0 im1) (h1 : f_X8_force o0zz o4zz pzz = some yzz) (h2 : f_X9_force o9 pzz = some y') : yzz.1 = y'.1 ∧ TF pl yzz.2.1 o1 yzz.2.2 o5zz o8zz o6 o11 y'.2 im0 im1 := by
  unfold f_X8_force at h1
  unfold f_X9_force at h2
  obtain ⟨q1zz, g1, h2⟩ := z_lt h2
  have ht1 : TF pl o0zz o1 o4zz o5zz o8zz o6 o11 q1zz im0 im1 := by rw [g1]; exact ht.sI0
  obtain ⟨w2zz, l2, h2⟩ := z_bd h2
  have hI := ht1.2.2.2.2.2.2.1.2.1
  have n2zz : (2 : Int32).toNatClampNeg = 2 := by decide
  unfold f_X9_isLaw at l2
  rw [n2zz] at l2
  have yes : (pzz = -1 ∨ (0 ≤ pzz.toInt ∧ pzz.toInt < (gA q1zz 3 2).toInt)) → ¬ w2zz = 0 → bk_X8_force_23 pzz o0zz o4zz = some yzz → yzz.1 = y'.1 ∧ TF pl yzz.2.1 o1 yzz.2.2 o5zz o8zz o6 o11 y'.2 im0 im1 := by
    intro hp hw h1
    obtain ⟨w4zz, l4, h2⟩ := z_bd (z_f h2 hw)
    have h2 := Option.some.inj h2
    obtain ⟨c1zz, c2zz⟩ := chg (kzz := 3) (by decide) l4
    unfold bk_X8_force_23 at h1
    obtain ⟨x1zz, qzz, h1⟩ := z_lt h1
    obtain ⟨q2zz, g2, h1⟩ := z_lt h1
    obtain ⟨z3, k3zz, h1⟩ := z_bd h1
    have h1 := Option.some.inj h1
    have ez := grant_d k3zz
    rw [← h1, ← h2, ez, g2]
    have eG : gA w4zz.2 3 = upd (gA q1zz 3) 3 pzz := by rw [c2zz]; rfl
    refine ⟨by show x1zz = w4zz.1; rw [qzz, c1zz]; exact hI.2.2.1.1, ?_⟩
    refine ht1.isl (by rw [c2zz]; exact FrX.sI (FrX.tA FrX.rf rfl) rfl) ?_ ?_ (by rw [c2zz]; exact ht1.2.2.2.1.chg) rfl rfl rfl
    · show Tia pl (sI o4zz 10 pzz) o5zz (gA w4zz.2 3)
      rw [eG]
      obtain ⟨t1zz, t2zz, t3zz, t4zz⟩ := ht1.2.2.2.2.2.2.1
      refine ⟨t1zz.eq rfl rfl rfl rfl rfl (fun jzz hj => by rw [updA, if_neg (by omega)]), ?_, t3zz.ext (fun _ _ => rfl) (fun _ _ => rfl) rfl rfl rfl (fun jzz j1 j2zz => by rw [updA, if_neg (by omega)]), fun jzz hj => ?_⟩
      · obtain ⟨u1zz, u2zz, u3, u4zz, u5, u6⟩ := t2zz
        have e0zz : upd (gA q1zz 3) 3 pzz 0 = gA q1zz 3 0 := by rw [updA, if_neg (by omega)]
        have e2zz : upd (gA q1zz 3) 3 pzz 2 = gA q1zz 3 2 := by rw [updA, if_neg (by omega)]
        have e5zz : upd (gA q1zz 3) 3 pzz 5 = gA q1zz 3 5 := by rw [updA, if_neg (by omega)]
        have e6zz : upd (gA q1zz 3) 3 pzz 6 = gA q1zz 3 6 := by rw [updA, if_neg (by omega)]
        have e3zz : upd (gA q1zz 3) 3 pzz 3 = pzz := by rw [updA, if_pos rfl]
        refine ⟨⟨by rw [e0zz]; exact u1zz.1, fun jzz hj => by rw [updA, if_neg (by omega)]; exact u1zz.2.1 jzz hj, by rw [e6zz]; exact u1zz.2.2⟩, by rw [e2zz]; exact u2zz, ⟨by rw [e3zz]; rfl, ?_, ?_⟩, by rw [e5zz]; exact u4zz, fun jzz hj => by rw [updA, if_neg (by omega), updA, if_neg (by omega)]; exact u5 jzz hj, fun l hl => ?_⟩
        · rw [e3zz]
          rcases hp with hp | hp
          · rw [hp]; decide
          · omega
        · rw [e3zz, e2zz]
          rcases hp with hp | hp
          · rw [hp, (by decide : (-1 : Int32).toInt = -1)]; have := u2zz.2.1; omega
          · exact hp.2
        · rw [e2zz] at hl
          obtain ⟨azz, cc, r1zz, r2, r3⟩ := u6 l hl
          exact ⟨azz, cc, r1zz, r2, r3.eq (fun jzz hj => by rw [updA, if_neg (by omega)])⟩
      · have g0 := t2zz.1.1.2.1
        rw [updA, if_neg (by omega)] at hj
        rw [updA, if_neg (by omega)]
        exact t4zz jzz hj
    · rw [eG]
      have e0zz : upd (gA q1zz 3) 3 pzz 0 = gA q1zz 3 0 := by rw [updA, if_neg (by omega)]
      rw [e0zz]
      have hp := ht1.2.2.2.2.2.2.2.1
      have wzz : PaT o11 w4zz.2 (gA q1zz 3 0).toInt.toNat (gA q1zz 3) := hp.eq (by rw [c2zz]; rfl) (by rw [c2zz]; rfl) (by rw [c2zz]; rfl)
      obtain ⟨v0zz, sz, fi, v1zz, v2, v3, v4zz, v5⟩ := wzz
      exact ⟨v0zz, sz, fi, v1zz, v2, v3, v4zz, fun izz hizz => (v5 izz hizz).mv rfl (fun _ _ => rfl) rfl (fun _ _ => rfl) (fun jzz hj => by rw [updA, if_neg (by omega)])⟩
  by_cases c0zz : pzz = -1
  · have l2 := z_t l2 c0zz
    unfold bk_X9_isLaw_23 at l2
    have l2 := Option.some.inj l2
    exact yes (Or.inl c0zz) (by rw [← l2]; decide) (z_t h1 c0zz)
  · have l2 := z_f l2 c0zz
    have h1 := z_f h1 c0zz
    obtain ⟨w1zz, l1, l2⟩ := z_bd l2
    obtain ⟨z4, k4zz, h1⟩ := z_bd h1
    have r2 := hI.2.1
    have e64 : ((gA q1zz 3 2).toInt64 - (1 : Int64)).toInt = (gA q1zz 3 2).toInt - 1 := i64_sub (Int32.toInt_toInt64 _) (by decide) (by omega) (by omega)
    have i9zz := in9 (m := 0) (by decide) e64 l1
    have i8zz := rg8 (n := (gA q1zz 3 2).toInt) (by rw [r2.1]) (show (if pzz < (0 : Int32) then some (0 : Int32) else (if gI o4zz 9 ≤ pzz then some (0 : Int32) else some (1 : Int32))) = some z4 from k4zz)
    rcases i9zz with ⟨a1zz, a2⟩ | ⟨a1zz, a2⟩
    · have l2 := Option.some.inj (z_t l2 a1zz)
      have z40 : z4 = 0 := by
        rcases i8zz with ⟨uzz, -⟩ | ⟨-, uzz⟩
        · exact uzz
        · omega
      obtain ⟨z5, k5zz, h1⟩ := z_bd (z_t h1 z40)
      have h1 := Option.some.inj h1
      obtain ⟨w3zz, l3, h2⟩ := z_bd (z_t h2 l2.symm)
      have h2 := Option.some.inj h2
      rw [← h1, ← h2]
      exact ht1.no (Or.inr (Or.inl rfl)) k5zz l3
    · have l2 := z_f l2 a1zz
      unfold bk_X9_isLaw_23 at l2
      have l2 := Option.some.inj l2
      have z40 : ¬ z4 = 0 := by
        rcases i8zz with ⟨-, uzz⟩ | ⟨uzz, -⟩
        · omega
        · exact uzz
      exact yes (Or.inr ⟨a2.1, by omega⟩) (by rw [← l2]; decide) (z_f h1 z40)
set_option maxHeartbeats 200000 in
theorem tf_forget {pl : List CR} {o0zz o1 o4zz o5zz o8zz o6 o11 o9 : Ob} {im0 im1 : Option IR} {yzz : Int32 × Ob} {y' : Int32 × Ob} (ht : TF pl o0zz o1 o4zz o5zz o8zz o6 o11 o9 im0 im1) (h1 : f_X8_forget o0zz o4zz = some yzz) (h2 : f_X9_forget o9 = some y') : yzz.1 = y'.1 ∧ TF pl o0zz o1 yzz.2 o5zz o8zz o6 o11 y'.2 im0 im1 := by
  obtain ⟨a1zz, a2⟩ := t_forget ht.2.2.2.2.2.2.1.1 h1 h2
  obtain ⟨c1zz, c2zz⟩ := forget8 h1
  have n1zz : (1 : Int32).toNatClampNeg = 1 := by decide
  unfold f_X9_forget at h2
  rw [n1zz] at h2
  obtain ⟨q1zz, g1, h2⟩ := z_lt h2
  obtain ⟨x2zz, g2, h2⟩ := z_lt h2
  obtain ⟨q3zz, g3zz, h2⟩ := z_lt h2
  have h2 := Option.some.inj h2
  have eG : gA y'.2 3 = upd (gA o9 3) 1 0 := by rw [← h2, g3zz, g1]; rfl
  have Fzz : FrX dIs o9 y'.2 := by rw [← h2, g3zz, g1]; exact FrX.tA (FrX.sI FrX.rf rfl) rfl
  refine ⟨a1zz, ?_⟩
  obtain ⟨t1zz, t2zz, t3zz, t4zz⟩ := ht.2.2.2.2.2.2.1
  refine ht.isl Fzz ⟨a2, ?_, ?_, fun jzz hj => ?_⟩ ?_ (ht.2.2.2.1.eq rfl rfl (by rw [← h2, g3zz, g1]; rfl) (by rw [← h2, g3zz, g1]; rfl)) rfl rfl rfl
  · rw [c2zz, eG]
    exact t2zz.ext rfl rfl rfl rfl rfl (fun _ _ => rfl) (fun _ _ => rfl) (fun _ _ => rfl) (fun _ _ => rfl) (fun jzz hj => by rw [updA, if_neg (by omega)])
  · rw [eG]
    exact t3zz.ext (fun _ _ => rfl) (fun _ _ => rfl) rfl rfl rfl (fun jzz j1 j2zz => by rw [updA, if_neg (by omega)])
  · have g0 := t2zz.1.1.2.1
    rw [eG, updA, if_neg (by omega)] at hj
    rw [eG, updA, if_neg (by omega)]
    exact t4zz jzz hj
  · rw [eG]
    have e0zz : upd (gA o9 3) 1 0 0 = gA o9 3 0 := by rw [updA, if_neg (by omega)]
    rw [e0zz]
    obtain ⟨v0zz, sz, fi, v1zz, v2, v3, v4zz, v5⟩ := ht.2.2.2.2.2.2.2.1
    exact ⟨v0zz.trans (by rw [← h2, g3zz, g1]; rfl), sz, fi, v1zz, v2, v3, v4zz, fun izz hizz => (v5 izz hizz).mv rfl (fun _ _ => rfl) (by rw [← h2, g3zz, g1]; rfl) (fun _ _ => by rw [← h2, g3zz, g1]; rfl) (fun jzz hj => by rw [updA, if_neg (by omega)])⟩
set_option maxHeartbeats 200000 in
theorem TzM.ext5 {mv : Ob} {Gzz G' : Nat → Int32} (hzz : TzM mv Gzz) (eg : ∀ jzz, (jzz = 4 ∨ (7 ≤ jzz ∧ jzz < 29)) → G' jzz = Gzz jzz) : TzM mv G' := by
  refine ⟨fun jzz hj => ?_, fun jzz hj => ?_, ?_, ?_, hzz.2.2.2.2.1.of rfl (fun jzz h1 h2 => eg jzz (by omega)), hzz.2.2.2.2.2⟩
  · rw [eg _ (by omega)]; exact hzz.1 jzz hj
  · rw [eg _ (by omega)]; exact hzz.2.1 jzz hj
  · rw [eg 7 (by omega)]; exact hzz.2.2.1
  · rw [eg 4 (by omega)]; exact hzz.2.2.2.1
set_option maxHeartbeats 200000 in
theorem PaT.emp {pa o : Ob} {n : Nat} {Gzz : Nat → Int32} (e3zz : gI pa 3 = 0) (e2zz : gI pa 2 = 0) (e8 : gI o 8 = 0) : PaT pa o n Gzz := ⟨by rw [e3zz, e8], 0, 0, by rw [e3zz]; decide, by decide, by rw [e2zz]; decide, by decide, fun izz hizz => absurd hizz (by omega)⟩
set_option maxHeartbeats 200000 in
theorem clear_d {pa zzz : Ob} (hzz : f_X5_clear pa = some zzz) : gI zzz 3 = 0 ∧ gI zzz 2 = 0 := by
  unfold f_X5_clear at hzz
  obtain ⟨p1zz, g1, hzz⟩ := z_lt hzz
  obtain ⟨p2zz, g2, hzz⟩ := z_lt hzz
  rw [← Option.some.inj hzz, g2, g1]
  exact ⟨rfl, rfl⟩
set_option maxHeartbeats 200000 in
theorem PaT.cell {pa o o' : Ob} {n : Nat} {Gzz G' : Nat → Int32} (hzz : PaT pa o n Gzz) (e8 : gI o' 8 = gI o 8) (e6zz : gA o' 6 = gA o 6) (e7zz : gA o' 7 = gA o 7) (eg : ∀ jzz, (jzz = 5 ∨ jzz = 6 ∨ (15 + n ≤ jzz ∧ jzz < 22) ∨ (22 + n ≤ jzz ∧ jzz < 29)) → G' jzz = Gzz jzz) : PaT pa o' n G' := by
  obtain ⟨v0zz, sz, fi, v1zz, v2, v3, v4zz, v5⟩ := hzz
  exact ⟨v0zz.trans e8.symm, sz, fi, v1zz, v2, v3, v4zz, fun izz hizz => (v5 izz hizz).mv rfl (fun _ _ => rfl) (by rw [e7zz]) (fun _ _ => by rw [e6zz]) eg⟩
set_option maxHeartbeats 200000 in
theorem tf_terms {pl : List CR} {o0zz o1 o4zz o5zz o8zz o6 o11 o9 : Ob} {im0 im1 : Option IR} {p0zz p1zz : Int32} {yzz : Int32 × Ob × Ob × Ob × Ob} {y' : Int32 × Ob} (ht : TF pl o0zz o1 o4zz o5zz o8zz o6 o11 o9 im0 im1) (h1 : f_X8_terms o0zz o4zz o5zz o11 p0zz p1zz = some yzz) (h2 : f_X9_terms o9 p0zz p1zz = some y') : yzz.1 = y'.1 ∧ TF pl yzz.2.1 o1 yzz.2.2.1 yzz.2.2.2.1 o8zz o6 yzz.2.2.2.2 y'.2 im0 im1 := by
  unfold f_X9_terms at h2
  obtain ⟨q1zz, g1, h2⟩ := z_lt h2
  have ht1 : TF pl o0zz o1 o4zz o5zz o8zz o6 o11 q1zz im0 im1 := by rw [g1]; exact ht.sI0
  obtain ⟨t1zz, t2zz, t3zz, t4zz⟩ := ht1.2.2.2.2.2.2.1
  have no : bk_X8_terms_41 o0zz o4zz o5zz o11 = some yzz → ∀ s, s = 0 → bk_X9_terms_60 p0zz p1zz s q1zz = some y' → yzz.1 = y'.1 ∧ TF pl yzz.2.1 o1 yzz.2.2.1 yzz.2.2.2.1 o8zz o6 yzz.2.2.2.2 y'.2 im0 im1 := by
    intro h1 s hs h2
    unfold bk_X8_terms_41 at h1
    unfold bk_X9_terms_60 at h2
    obtain ⟨z1, k1zz, h1⟩ := z_bd h1
    obtain ⟨w4zz, l4, h2⟩ := z_bd (z_t h2 hs)
    have h1 := Option.some.inj h1
    have h2 := Option.some.inj h2
    rw [← h1, ← h2]
    exact ht1.no (Or.inl rfl) k1zz l4
  have yes : ∀ (kzz : Nat) (s : Int32), p0zz.toInt = (kzz : Int) → kzz < 3 → ¬ s = 0 → 0 ≤ p1zz.toInt → p1zz.toInt ≤ (if kzz = 0 then 999 else if kzz = 1 then 10 else 9) → (∀ z2 z3, f_X2_term o4zz o5zz p0zz = some z2 → f_X2_setTerm o4zz o5zz p0zz p1zz = some z3 → z2 = gA q1zz 3 (4 + kzz) ∧ Tia pl z3.1 z3.2 (upd (gA q1zz 3) (4 + kzz) p1zz)) → ((f_X2_term o4zz o5zz p0zz).bind fun z2 => (f_X2_setTerm o4zz o5zz p0zz p1zz).bind fun z3 => (f_X5_clear o11).bind fun z4 => (f_X8_grant o0zz z2).bind fun z5 => some (z5.1, z5.2, z3.1, z3.2, z4)) = some yzz → bk_X9_terms_60 p0zz p1zz s q1zz = some y' → yzz.1 = y'.1 ∧ TF pl yzz.2.1 o1 yzz.2.2.1 yzz.2.2.2.1 o8zz o6 yzz.2.2.2.2 y'.2 im0 im1 := by
    intro kzz s ek hk hs _ _ hset h1 h2
    obtain ⟨z2, k2zz, h1⟩ := z_bd h1
    obtain ⟨z3, k3zz, h1⟩ := z_bd h1
    obtain ⟨z4, k4zz, h1⟩ := z_bd h1
    obtain ⟨z5, k5zz, h1⟩ := z_bd h1
    have h1 := Option.some.inj h1
    obtain ⟨u1zz, u2zz⟩ := hset z2 z3 k2zz k3zz
    unfold bk_X9_terms_60 at h2
    obtain ⟨q2zz, g2, h2⟩ := z_lt (z_f h2 hs)
    obtain ⟨w3zz, l3, h2⟩ := z_bd h2
    have h2 := Option.some.inj h2
    have t4k : ((4 : Int32) + p0zz).toInt = ((4 + kzz : Nat) : Int) := by rw [i32_add (by decide : (4 : Int32).toInt = 4) ek (by omega) (by omega)]; omega
    obtain ⟨c1zz, c2zz⟩ := chg t4k l3
    have ez := grant_d k5zz
    have ec := clear_d k4zz
    have eG : gA w3zz.2 3 = upd (gA q1zz 3) (4 + kzz) p1zz := by rw [c2zz, g2]; rfl
    rw [← h1, ← h2, ez]
    refine ⟨by show z2 = w3zz.1; rw [c1zz, u1zz, g2]; rfl, ?_⟩
    refine ht1.isl (by rw [c2zz, g2]; exact FrX.sI (FrX.tA (FrX.sI FrX.rf rfl) rfl) rfl) (by show Tia pl z3.1 z3.2 (gA w3zz.2 3); rw [eG]; exact u2zz) (PaT.emp ec.1 ec.2 (by rw [c2zz, g2]; rfl)) ?_ rfl rfl rfl
    refine ⟨by rw [c2zz]; rfl, fun jzz hj => ?_⟩
    rw [c2zz, g2]
    exact ht1.2.2.2.1.2 jzz hj
  unfold f_X8_terms at h1
  have tis : ∀ kzz, kzz < 3 → Tis o4zz (upd (gA q1zz 3) (4 + kzz) p1zz) := fun kzz hk => t1zz.eq rfl rfl rfl rfl rfl (fun jzz hj => by rw [updA, if_neg (by omega)])
  have zr : ∀ kzz, kzz < 3 → ZrT (upd (gA q1zz 3) (4 + kzz) p1zz) := fun kzz hk jzz hj => by
    have g0 := t2zz.1.1.2.1
    rw [updA, if_neg (by omega)] at hj
    rw [updA, if_neg (by omega)]
    exact t4zz jzz hj
  have lp : ∀ M : Int32, ∀ Kzz : Int, M.toInt = Kzz → bk_X8_terms_31 p0zz p1zz M o0zz o4zz o5zz o11 = some yzz → (¬ (0 ≤ p1zz.toInt ∧ p1zz.toInt ≤ Kzz) ∧ bk_X8_terms_41 o0zz o4zz o5zz o11 = some yzz) ∨ ((0 ≤ p1zz.toInt ∧ p1zz.toInt ≤ Kzz) ∧ ((f_X2_term o4zz o5zz p0zz).bind fun z2 => (f_X2_setTerm o4zz o5zz p0zz p1zz).bind fun z3 => (f_X5_clear o11).bind fun z4 => (f_X8_grant o0zz z2).bind fun z5 => some (z5.1, z5.2, z3.1, z3.2, z4)) = some yzz) := by
    intro M Kzz eMzz hzz
    unfold bk_X8_terms_31 at hzz
    rcases z_if hzz with ⟨czz, hzz⟩ | ⟨czz, hzz⟩
    · have czz := cv_lt (a := p1zz.toInt) (b := 0) rfl (by decide) czz
      exact Or.inl ⟨by omega, hzz⟩
    · have czz := cv_nlt (a := p1zz.toInt) (b := 0) rfl (by decide) czz
      rcases z_if hzz with ⟨d, hzz⟩ | ⟨d, hzz⟩
      · have d := cv_le (a := p1zz.toInt) (b := Kzz) rfl eMzz d
        exact Or.inr ⟨⟨czz, d⟩, hzz⟩
      · have d := cv_nle (a := p1zz.toInt) (b := Kzz) rfl eMzz d
        exact Or.inl ⟨by omega, hzz⟩
  by_cases c0zz : p0zz = 0
  · have h1 := z_t h1 c0zz
    obtain ⟨w7zz, l7, h2⟩ := z_bd (z_t h2 c0zz)
    have i9zz := in9 (m := 0) (n := 999) (by decide) (by decide) l7
    rcases lp 999 999 (by decide) h1 with ⟨azz, h1⟩ | ⟨azz, h1⟩
    · rcases i9zz with ⟨uzz, -⟩ | ⟨-, uzz⟩
      · exact no h1 w7zz uzz h2
      · exact absurd uzz azz
    · rcases i9zz with ⟨-, uzz⟩ | ⟨uzz, -⟩
      · exact absurd azz uzz
      · refine yes 0 w7zz (by rw [c0zz]; decide) (by decide) uzz azz.1 azz.2 (fun z2 z3 e2zz e3zz => ?_) h1 h2
        unfold f_X2_term at e2zz
        unfold f_X2_setTerm at e3zz
        have e2zz := Option.some.inj (z_t e2zz c0zz)
        obtain ⟨q3zz, g3zz, e3zz⟩ := z_lt (z_t e3zz c0zz)
        have e3zz := Option.some.inj e3zz
        rw [← e2zz, ← e3zz]
        refine ⟨t3zz.2.2.2.1.1, tis 0 (by decide), t2zz.ext rfl rfl rfl rfl rfl (fun _ _ => rfl) (fun _ _ => rfl) (fun _ _ => rfl) (fun _ _ => rfl) (fun jzz hj => by rw [updA, if_neg (by omega)]), ?_, zr 0 (by decide)⟩
        show TzM q3zz _
        rw [g3zz]
        exact t3zz.year azz
  · have h1 := z_f h1 c0zz
    have h2 := z_f h2 c0zz
    by_cases c1zz : p0zz = 1
    · have h1 := z_t h1 c1zz
      obtain ⟨w6zz, l6, h2⟩ := z_bd (z_t h2 c1zz)
      have i9zz := in9 (m := 0) (n := 10) (by decide) (by decide) l6
      rcases lp 10 10 (by decide) h1 with ⟨azz, h1⟩ | ⟨azz, h1⟩
      · rcases i9zz with ⟨uzz, -⟩ | ⟨-, uzz⟩
        · exact no h1 w6zz uzz h2
        · exact absurd uzz azz
      · rcases i9zz with ⟨-, uzz⟩ | ⟨uzz, -⟩
        · exact absurd azz uzz
        · refine yes 1 w6zz (by rw [c1zz]; decide) (by decide) uzz azz.1 azz.2 (fun z2 z3 e2zz e3zz => ?_) h1 h2
          unfold f_X2_term at e2zz
          unfold f_X2_setTerm at e3zz
          have e2zz := Option.some.inj (z_t (z_f e2zz c0zz) c1zz)
          obtain ⟨q3zz, g3zz, e3zz⟩ := z_lt (z_t (z_f e3zz c0zz) c1zz)
          have e3zz := Option.some.inj e3zz
          rw [← e2zz, ← e3zz]
          obtain ⟨u1zz, u2zz, u3, u4zz, u5, u6⟩ := t2zz
          refine ⟨u4zz.1, by show Tis q3zz _; rw [g3zz]; exact tis 1 (by decide), ?_, t3zz.ext5 (fun jzz hj => by rw [updA, if_neg (by omega)]), zr 1 (by decide)⟩
          · show TzI pl q3zz (upd (gA q1zz 3) 5 p1zz)
            rw [g3zz]
            have Ezz : ∀ jzz, jzz ≠ 5 → upd (gA q1zz 3) 5 p1zz jzz = gA q1zz 3 jzz := fun jzz hj => by rw [updA, if_neg hj]
            refine ⟨⟨by rw [Ezz 0 (by decide)]; exact u1zz.1, fun jzz hj => by rw [Ezz (36 + jzz) (by omega)]; exact u1zz.2.1 jzz hj, by rw [Ezz 6 (by decide)]; exact u1zz.2.2⟩, by rw [Ezz 2 (by decide)]; exact u2zz, by rw [Ezz 3 (by decide), Ezz 2 (by decide)]; exact u3, ⟨rfl, azz⟩, fun jzz hj => by rw [Ezz (71 + 2 * jzz) (by omega), Ezz (72 + 2 * jzz) (by omega)]; exact u5 jzz hj, fun l hl => ?_⟩
            rw [Ezz 2 (by decide)] at hl
            obtain ⟨aa, cc, r1zz, r2, r3⟩ := u6 l hl
            exact ⟨aa, cc, r1zz, r2, r3.eq (fun jzz hj => Ezz jzz (by omega))⟩
    · have h1 := z_f h1 c1zz
      have h2 := z_f h2 c1zz
      by_cases c2zz : p0zz = 2
      · have h1 := z_t h1 c2zz
        obtain ⟨w5, l5, h2⟩ := z_bd (z_t h2 c2zz)
        have i9zz := in9 (m := 0) (n := 9) (by decide) (by decide) l5
        rcases lp 9 9 (by decide) h1 with ⟨azz, h1⟩ | ⟨azz, h1⟩
        · rcases i9zz with ⟨uzz, -⟩ | ⟨-, uzz⟩
          · have h2 := z_t h2 uzz
            unfold bk_X9_terms_59 at h2
            exact no h1 0 rfl h2
          · exact absurd uzz azz
        · rcases i9zz with ⟨-, uzz⟩ | ⟨uzz, -⟩
          · exact absurd azz uzz
          · have h2 := z_f h2 uzz
            refine yes 2 1 (by rw [c2zz]; decide) (by decide) (by decide) azz.1 azz.2 (fun z2 z3 e2zz e3zz => ?_) h1 h2
            unfold f_X2_term at e2zz
            unfold f_X2_setTerm at e3zz
            have e2zz := Option.some.inj (z_f (z_f e2zz c0zz) c1zz)
            obtain ⟨q3zz, g3zz, e3zz⟩ := z_lt (z_f (z_f e3zz c0zz) c1zz)
            have e3zz := Option.some.inj e3zz
            rw [← e2zz, ← e3zz]
            obtain ⟨u1zz, u2zz, u3, u4zz, u5, u6⟩ := t2zz
            refine ⟨u1zz.2.2, by show Tis q3zz _; rw [g3zz]; exact tis 2 (by decide), ?_, t3zz.ext5 (fun jzz hj => by rw [updA, if_neg (by omega)]), zr 2 (by decide)⟩
            · show TzI pl q3zz (upd (gA q1zz 3) 6 p1zz)
              rw [g3zz]
              have Ezz : ∀ jzz, jzz ≠ 6 → upd (gA q1zz 3) 6 p1zz jzz = gA q1zz 3 jzz := fun jzz hj => by rw [updA, if_neg hj]
              refine ⟨⟨by rw [Ezz 0 (by decide)]; exact u1zz.1, fun jzz hj => by rw [Ezz (36 + jzz) (by omega)]; exact u1zz.2.1 jzz hj, rfl⟩, by rw [Ezz 2 (by decide)]; exact u2zz, by rw [Ezz 3 (by decide), Ezz 2 (by decide)]; exact u3, by rw [Ezz 5 (by decide)]; exact u4zz, fun jzz hj => by rw [Ezz (71 + 2 * jzz) (by omega), Ezz (72 + 2 * jzz) (by omega)]; exact u5 jzz hj, fun l hl => ?_⟩
              rw [Ezz 2 (by decide)] at hl
              obtain ⟨aa, cc, r1zz, r2, r3⟩ := u6 l hl
              exact ⟨aa, cc, r1zz, r2, r3.eq (fun jzz hj => Ezz jzz (by omega))⟩
      · have h1 := z_f h1 c2zz
        have h2 := z_f h2 c2zz
        unfold bk_X9_terms_59 at h2
        rcases lp (-1) (-1) (by decide) h1 with ⟨azz, h1⟩ | ⟨azz, h1⟩
        · exact no h1 0 rfl h2
        · omega
set_option maxHeartbeats 200000 in
theorem tf_strength {pl : List CR} {o0zz o1 o4zz o5zz o8zz o6 o11 o9 : Ob} {im0 im1 : Option IR} {p0zz p1zz p2zz : Int32} {yzz : Int32 × Ob × Ob} {y' : Int32 × Ob} (ht : TF pl o0zz o1 o4zz o5zz o8zz o6 o11 o9 im0 im1) (h4 : IvX2 pl o4zz) (h1 : f_X8_strength o0zz o4zz p0zz p1zz p2zz = some yzz) (h2 : f_X9_strength o9 p0zz p1zz p2zz = some y') : yzz.1 = y'.1 ∧ TF pl yzz.2.1 o1 yzz.2.2 o5zz o8zz o6 o11 y'.2 im0 im1 := by
  obtain ⟨a1zz, a2⟩ := t_strength h4 ht.2.2.2.2.2.2.1.1 h1 h2
  unfold f_X8_strength at h1
  unfold f_X9_strength at h2
  obtain ⟨q1zz, g1, h2⟩ := z_lt h2
  have ht1 : TF pl o0zz o1 o4zz o5zz o8zz o6 o11 q1zz im0 im1 := by rw [g1]; exact ht.sI0
  obtain ⟨t1zz, t2zz, t3zz, t4zz⟩ := ht1.2.2.2.2.2.2.1
  obtain ⟨z1, k1zz, h1⟩ := z_bd h1
  obtain ⟨w2zz, l2, h2⟩ := z_bd h2
  have no : bk_X8_strength_17 o0zz o4zz = some yzz → bk_X9_strength_24 q1zz = some y' → yzz.1 = y'.1 ∧ TF pl yzz.2.1 o1 yzz.2.2 o5zz o8zz o6 o11 y'.2 im0 im1 := by
    intro h1 h2
    unfold bk_X8_strength_17 at h1
    unfold bk_X9_strength_24 at h2
    obtain ⟨z2, k2zz, h1⟩ := z_bd h1
    obtain ⟨w3zz, l3, h2⟩ := z_bd h2
    have h1 := Option.some.inj h1
    have h2 := Option.some.inj h2
    rw [← h1, ← h2]
    exact ht1.no (Or.inl rfl) k2zz l3
  rcases isR9 l2 with ⟨b1, b2⟩ | ⟨b1, b2⟩
  · have c1zz : z1 = 0 := by
      rcases isR8 k1zz with ⟨uzz, -⟩ | ⟨-, uzz⟩
      · exact uzz
      · exact absurd uzz b2
    exact no (z_t h1 c1zz) (z_t h2 b1)
  · have c1zz : ¬ z1 = 0 := by
      rcases isR8 k1zz with ⟨-, uzz⟩ | ⟨uzz, -⟩
      · exact absurd b2 uzz
      · exact uzz
    have h1 := z_f h1 c1zz
    obtain ⟨w4zz, l4, h2⟩ := z_bd (z_f h2 b1)
    have i9zz := in9 (m := 0) (n := 9) (by decide) (by decide) l4
    by_cases c2zz : p2zz < 0
    · have d := cv_lt (a := p2zz.toInt) (b := 0) rfl (by decide) c2zz
      rcases i9zz with ⟨uzz, -⟩ | ⟨-, uzz⟩
      · exact no (z_t h1 c2zz) (z_t h2 uzz)
      · omega
    · have h1 := z_f h1 c2zz
      have d := cv_nlt (a := p2zz.toInt) (b := 0) rfl (by decide) c2zz
      by_cases c3zz : p2zz ≤ 9
      · have h1 := z_t h1 c3zz
        have d3zz := cv_le (a := p2zz.toInt) (b := 9) rfl (by decide) c3zz
        have u4zz : ¬ w4zz = 0 := by
          rcases i9zz with ⟨-, uzz⟩ | ⟨uzz, -⟩
          · omega
          · exact uzz
        obtain ⟨z3, k3zz, h1⟩ := z_bd h1
        obtain ⟨w5, l5, h2⟩ := z_bd (z_f h2 u4zz)
        have p2' := isP2 k3zz
        have p9' := isP9 l5 t2zz.1.1.2
        rw [t2zz.1.1.1] at p2'
        rcases p9' with ⟨e1zz, e2zz⟩ | ⟨e1zz, e2zz⟩
        · have z30 : z3 = 0 := by
            rcases p2' with ⟨uzz, -⟩ | ⟨-, uzz⟩
            · exact uzz
            · exact absurd uzz e2zz
          obtain ⟨z10, k10, h1⟩ := z_bd (z_t h1 z30)
          obtain ⟨w6zz, l6, h2⟩ := z_bd (z_t h2 e1zz)
          have h1 := Option.some.inj h1
          have h2 := Option.some.inj h2
          rw [← h1, ← h2]
          exact ht1.no (Or.inr (Or.inl rfl)) k10 l6
        · have z30 : ¬ z3 = 0 := by
            rcases p2' with ⟨-, uzz⟩ | ⟨uzz, -⟩
            · exact absurd e2zz uzz
            · exact uzz
          obtain ⟨x4zz, g4, h1⟩ := z_lt (z_f h1 z30)
          have h1 := (z_gd h1).2
          obtain ⟨x6, g6, h1⟩ := z_lt h1
          have h1 := (z_gd h1).2
          obtain ⟨q8zz, g8, h1⟩ := z_lt h1
          obtain ⟨z9, k9, h1⟩ := z_bd h1
          have h1 := Option.some.inj h1
          obtain ⟨w7zz, l7, h2⟩ := z_bd (z_f h2 e1zz)
          have h2 := Option.some.inj h2
          have hp7 := t2zz.1.1.2.2
          obtain ⟨Pzz, eP⟩ : ∃ Pzz : Nat, p0zz.toInt = (Pzz : Int) := ⟨p0zz.toInt.toNat, by omega⟩
          obtain ⟨R, eR⟩ : ∃ R : Nat, p1zz.toInt = (R : Int) := ⟨p1zz.toInt.toNat, by omega⟩
          have i4zz : x4zz.toNatClampNeg = 4 * Pzz + R := tnc_eq (by rw [g4, i32_add (i32_mul eP (by decide : (4 : Int32).toInt = 4) (by omega) (by omega)) eR (by omega) (by omega)]; omega)
          have t36 : (((36 : Int32) + ((4 : Int32) * p0zz)) + p1zz).toInt = ((36 + (4 * Pzz + R) : Nat) : Int) := by rw [i32_add (i32_add (by decide : (36 : Int32).toInt = 36) (i32_mul (by decide : (4 : Int32).toInt = 4) eP (by omega) (by omega)) (by omega) (by omega)) eR (by omega) (by omega)]; omega
          obtain ⟨v1zz, v2⟩ := chg t36 l7
          have ez := grant_d k9
          rw [i4zz] at g8
          have eG : gA w7zz.2 3 = upd (gA q1zz 3) (36 + (4 * Pzz + R)) p2zz := by rw [v2]; rfl
          refine ⟨a1zz, ?_⟩
          have a2' : Tis q8zz (gA w7zz.2 3) := by rw [← h1, ← h2] at a2; exact a2
          rw [← h1, ← h2, ez]
          have Ezz : ∀ jzz, jzz ≠ 36 + (4 * Pzz + R) → gA w7zz.2 3 jzz = gA q1zz 3 jzz := fun jzz hj => by rw [eG, updA, if_neg hj]
          refine ht1.isl (by rw [v2]; exact FrX.sI (FrX.tA FrX.rf rfl) rfl) ⟨a2', ?_, t3zz.ext (fun _ _ => rfl) (fun _ _ => rfl) rfl rfl rfl (fun jzz j1 j2zz => Ezz jzz (by omega)), fun jzz hj => ?_⟩ ?_ (by rw [v2]; exact ht1.2.2.2.1.chg) rfl rfl rfl
          · obtain ⟨u1zz, u2zz, u3, u4zz, u5, u6⟩ := t2zz
            show TzI pl q8zz (gA w7zz.2 3)
            rw [g8]
            refine ⟨⟨by rw [Ezz 0 (by omega)]; exact u1zz.1, fun jzz hj => ?_, by rw [Ezz 6 (by omega)]; exact u1zz.2.2⟩, by rw [Ezz 2 (by omega)]; exact u2zz, by rw [Ezz 3 (by omega), Ezz 2 (by omega)]; exact u3, by rw [Ezz 5 (by omega)]; exact u4zz, fun jzz hj => by rw [Ezz (71 + 2 * jzz) (by omega), Ezz (72 + 2 * jzz) (by omega)]; exact u5 jzz hj, fun l hl => ?_⟩
            · show (if jzz = 4 * Pzz + R then p2zz else gA o4zz 2 jzz) = gA w7zz.2 3 (36 + jzz) ∧ _
              by_cases qq : jzz = 4 * Pzz + R
              · rw [if_pos qq, eG, updA, if_pos (by omega)]; exact ⟨rfl, d, d3zz⟩
              · rw [if_neg qq, Ezz (36 + jzz) (by omega)]; exact u1zz.2.1 jzz hj
            · rw [Ezz 2 (by omega)] at hl
              obtain ⟨aa, cc, r1zz, r2, r3⟩ := u6 l hl
              exact ⟨aa, cc, r1zz, r2, r3.eq (fun jzz hj => Ezz jzz (by omega))⟩
          · rw [Ezz 0 (by omega)] at hj
            rw [Ezz jzz (by omega)]
            exact t4zz jzz hj
          · rw [Ezz 0 (by omega)]
            exact ht1.2.2.2.2.2.2.2.1.cell (by rw [v2]; rfl) (by rw [v2]; rfl) (by rw [v2]; rfl) (fun jzz hj => Ezz jzz (by omega))
      · have h1 := z_f h1 c3zz
        have d3zz := cv_nle (a := p2zz.toInt) (b := 9) rfl (by decide) c3zz
        rcases i9zz with ⟨uzz, -⟩ | ⟨-, uzz⟩
        · exact no h1 (z_t h2 uzz)
        · omega
set_option maxHeartbeats 200000 in
theorem tf_status {pl : List CR} {o0zz o1 o4zz o5zz o8zz o6 o11 o9 : Ob} {im0 im1 : Option IR} {yzz : Int32} {y' : Int32 × Ob} (ht : TF pl o0zz o1 o4zz o5zz o8zz o6 o11 o9 im0 im1) (h1 : f_X8_status o0zz = some yzz) (h2 : f_X9_status o9 = some y') : yzz = y'.1 := by
  unfold f_X8_status at h1
  unfold f_X9_status at h2
  obtain ⟨q1zz, g1, h2⟩ := z_lt h2
  rw [← Option.some.inj h1, ← Option.some.inj h2, g1]
  exact ht.2.2.2.1.1
set_option maxHeartbeats 200000 in
theorem tf_feed {pl : List CR} {o0zz o1 o4zz o5zz o8zz o6 o11 o9 : Ob} {im0 im1 : Option IR} {azz bzz czz d ezz : Int32} {yzz y' : Int32 × Ob} (ht : TF pl o0zz o1 o4zz o5zz o8zz o6 o11 o9 im0 im1) (hr : 0 ≤ (gI o1 2).toInt ∧ (gI o1 2).toInt ≤ 400) (h1 : f_X8_feed o0zz o1 azz bzz czz d ezz = some yzz) (h2 : f_X9_feed o9 azz bzz czz d ezz = some y') : yzz.1 = y'.1 ∧ TF pl o0zz yzz.2 o4zz o5zz o8zz o6 o11 y'.2 im0 im1 := by
  have fzz := fr_f_X9_feed h2
  have s := feed_ts ht.1.1 hr h1 h2
  have t := feed_tb ht.1.1 ht.1.2 hr h1 h2
  obtain ⟨-, h3, ⟨h4, h4'⟩, h5, h6, h7, h8, h9, h10⟩ := ht
  refine ⟨s.1, ⟨s.2, t⟩, by rw [fzz.I 11 rfl]; exact h3, ⟨h4.eq (fzz.M 31 rfl) (fzz.M 32 rfl), h4'.eq2 (fzz.M 33 rfl) (fzz.M 54 rfl)⟩, h5.eq rfl rfl (fzz.I 1 rfl) (fzz.A 2 rfl), by rw [fzz.I 58 rfl]; exact h6, h7.eq (fzz.I 62 rfl) (fzz.A 61 rfl), by rw [fzz.A 3 rfl]; exact h8, by rw [fzz.A 3 rfl]; exact h9.eq (fzz.I 8 rfl) (fzz.A 6 rfl) (fzz.A 7 rfl), h10.eq rfl (fzz.A 5 rfl) (fzz.A 4 rfl)⟩
set_option maxHeartbeats 200000 in
theorem end_tape {o0zz o1 : Ob} {pzz : Int32} {yzz : Int32 × Ob} (hzz : f_X8_end o0zz o1 pzz = some yzz) : gA yzz.2 0 = gA o1 0 := by
  unfold f_X8_end at hzz
  rcases z_if hzz with ⟨-, hzz⟩ | ⟨-, hzz⟩
  · rw [← Option.some.inj hzz]
  · rcases z_if hzz with ⟨-, hzz⟩ | ⟨-, hzz⟩
    · obtain ⟨qzz, gzz, hzz⟩ := z_lt hzz
      rw [← Option.some.inj hzz, gzz]; rfl
    · rw [← Option.some.inj hzz]
set_option maxHeartbeats 200000 in
theorem tf_end {pl : List CR} {o0zz o1 o4zz o5zz o8zz o6 o11 o9 : Ob} {im0 im1 : Option IR} {pzz : Int32} {yzz y' : Int32 × Ob} (ht : TF pl o0zz o1 o4zz o5zz o8zz o6 o11 o9 im0 im1) (h1 : f_X8_end o0zz o1 pzz = some yzz) (h2 : f_X9_end o9 pzz = some y') : yzz.1 = y'.1 ∧ TF pl o0zz yzz.2 o4zz o5zz o8zz o6 o11 y'.2 im0 im1 := by
  have fzz := fr_f_X9_end h2
  have s := end_ts ht.1.1 h1 h2
  have t : gA yzz.2 0 = gA y'.2 12 := by rw [end_tape h1, fzz.A 12 rfl]; exact ht.1.2
  obtain ⟨-, h3, ⟨h4, h4'⟩, h5, h6, h7, h8, h9, h10⟩ := ht
  refine ⟨s.1, ⟨s.2, t⟩, by rw [fzz.I 11 rfl]; exact h3, ⟨h4.eq (fzz.M 31 rfl) (fzz.M 32 rfl), h4'.eq2 (fzz.M 33 rfl) (fzz.M 54 rfl)⟩, h5.eq rfl rfl (fzz.I 1 rfl) (fzz.A 2 rfl), by rw [fzz.I 58 rfl]; exact h6, h7.eq (fzz.I 62 rfl) (fzz.A 61 rfl), by rw [fzz.A 3 rfl]; exact h8, by rw [fzz.A 3 rfl]; exact h9.eq (fzz.I 8 rfl) (fzz.A 6 rfl) (fzz.A 7 rfl), h10.eq rfl (fzz.A 5 rfl) (fzz.A 4 rfl)⟩
set_option maxHeartbeats 200000 in
theorem tf_orders {pl : List CR} {o0zz o1 oc mezz o4zz o5zz czz o8zz o6 o11 o12 o13 o9 : Ob} {im0 im1 : Option IR} {yzz : Int32 × Ob × Ob × Ob × Ob × Ob × Ob × Ob × Ob × Ob} {y' : Int32 × Ob} (ht : TF pl o0zz o1 o4zz o5zz o8zz o6 o11 o9 im0 im1) (h20 : gI o9 20 = 0) (hr : 0 ≤ (gI o1 2).toInt ∧ (gI o1 2).toInt ≤ 400) (h1 : f_X8_orders 12 400 o0zz o1 oc mezz o4zz o5zz czz o11 o12 o13 pl = some yzz) (h2 : f_X9_orders o9 = some y') (e13zz : gI yzz.2.1 13 = gI o0zz 13) (eR : gR yzz.2.1 7 = gR o0zz 7) (eT : gA yzz.2.2.1 0 = gA o1 0) (e2zz : gI yzz.2.2.1 2 = 0) (e9zz : gI y'.2 13 = 0) : yzz.1 = y'.1 ∧ TF pl yzz.2.1 yzz.2.2.1 o4zz yzz.2.2.2.2.2.1 o8zz o6 yzz.2.2.2.2.2.2.2.1 y'.2 im0 im1 := by
  have fzz := fr_f_X9_orders h2
  have hNzz := ht.n
  obtain ⟨r1zz, r2, r3, r4, r5zz⟩ := orders_eq (ht.s h20) ht.2.2.2.1 ⟨ht.1.1, ht.1.2, by rw [← ht.1.1]; exact hr.1, by rw [← ht.1.1]; exact hr.2⟩ ht.2.2.1.1 ht.2.2.1.2 h1 h2
  obtain ⟨⟨h1', h2'⟩, h3, ⟨h4, h4'⟩, h5, h6, h7, h8, h9, h10⟩ := ht
  have e0zz : gA y'.2 3 0 = gA o9 3 0 := r3 0 (by omega)
  exact ⟨r1zz, ⟨by rw [e2zz, e9zz], by rw [eT, fzz.A 12 rfl]; exact h2'⟩, by rw [fzz.I 11 rfl, e13zz]; exact h3, ⟨h4.eq (fzz.M 31 rfl) (fzz.M 32 rfl), h4'.eq2 (fzz.M 33 rfl) (fzz.M 54 rfl)⟩, r4, r5zz, h7.eq (fzz.I 62 rfl) (fzz.A 61 rfl), h8.mv hNzz.1 r3 r2.2.1, by rw [e0zz]; exact r2.2.2.1, h10.eq eR (fzz.A 5 rfl) (fzz.A 4 rfl)⟩
set_option maxHeartbeats 200000 in
theorem islaw_eq {pl : List CR} {isl o : Ob} {pzz zzz wzz : Int32} (hI : TzI pl isl (gA o 3)) (hp : ¬ pzz = -1) (h1 : f_X2_isLaw isl pzz = some zzz) (h2 : f_X9_isLaw o pzz = some wzz) : (zzz = 0 ∧ wzz = 0) ∨ (¬ zzz = 0 ∧ ¬ wzz = 0 ∧ 0 ≤ pzz.toInt ∧ pzz.toInt < (gA o 3 2).toInt) := by
  have n2zz : (2 : Int32).toNatClampNeg = 2 := by decide
  unfold f_X9_isLaw at h2
  rw [n2zz] at h2
  have h2 := z_f h2 hp
  obtain ⟨w1zz, l1, h2⟩ := z_bd h2
  have r2 := hI.2.1
  have e64 : ((gA o 3 2).toInt64 - (1 : Int64)).toInt = (gA o 3 2).toInt - 1 := i64_sub (Int32.toInt_toInt64 _) (by decide) (by omega) (by omega)
  have i9zz := in9 (m := 0) (by decide) e64 l1
  have i8zz := rg8 (n := (gA o 3 2).toInt) (by rw [r2.1]) (show (if pzz < (0 : Int32) then some (0 : Int32) else (if gI isl 9 ≤ pzz then some (0 : Int32) else some (1 : Int32))) = some zzz from h1)
  rcases i9zz with ⟨a1zz, a2⟩ | ⟨a1zz, a2⟩
  · refine Or.inl ⟨?_, (Option.some.inj (z_t h2 a1zz)).symm⟩
    rcases i8zz with ⟨uzz, -⟩ | ⟨-, uzz⟩
    · exact uzz
    · omega
  · have h2 := z_f h2 a1zz
    unfold bk_X9_isLaw_23 at h2
    refine Or.inr ⟨?_, by rw [← Option.some.inj h2]; decide, a2.1, by omega⟩
    rcases i8zz with ⟨-, uzz⟩ | ⟨uzz, -⟩
    · omega
    · exact uzz
set_option maxHeartbeats 200000 in
theorem tf_compare {pl : List CR} {o0zz o1 mezz o4zz o5zz czz o8zz o6 o11 o9 : Ob} {im0 im1 : Option IR} {p0zz p1zz : Int32} {yzz : Int32 × Ob × Ob} {y' : Int32 × Ob} (ht : TF pl o0zz o1 o4zz o5zz o8zz o6 o11 o9 im0 im1) (h20 : gI o9 20 = 0) (h1 : f_X8_compare o0zz mezz o4zz o5zz czz pl p0zz p1zz = some yzz) (h2 : f_X9_compare o9 p0zz p1zz = some y') : yzz.1 = y'.1 ∧ TF pl o0zz o1 o4zz o5zz o8zz o6 o11 y'.2 im0 im1 := by
  have n3zz : (3 : Int32).toNatClampNeg = 3 := by decide
  have n0zz : (0 : Int32).toNatClampNeg = 0 := by decide
  unfold f_X8_compare at h1
  unfold f_X9_compare at h2
  rw [n3zz, n0zz] at h2
  obtain ⟨q1zz, g1, h2⟩ := z_lt h2
  have ht1 : TF pl o0zz o1 o4zz o5zz o8zz o6 o11 q1zz im0 im1 := by rw [g1]; exact ht.sI0
  obtain ⟨w2zz, l2, h2⟩ := z_bd h2
  obtain ⟨t1zz, t2zz, t3zz, t4zz⟩ := ht1.2.2.2.2.2.2.1
  have hSzz := ht1.s (by rw [g1]; exact h20)
  have gozz : (p0zz = -1 ∨ (0 ≤ p0zz.toInt ∧ p0zz.toInt < (gA q1zz 3 2).toInt)) → ¬ w2zz = 0 → bk_X8_compare_16 o0zz o4zz o5zz pl p0zz p1zz mezz czz = some yzz → yzz.1 = y'.1 ∧ TF pl o0zz o1 o4zz o5zz o8zz o6 o11 y'.2 im0 im1 := by
    intro hp hw h1
    unfold bk_X8_compare_16 at h1
    obtain ⟨z1, k1zz, h1⟩ := z_bd h1
    obtain ⟨w3zz, l3, h2⟩ := z_bd (z_f h2 hw)
    rcases isR9 l3 with ⟨b1, b2⟩ | ⟨b1, b2⟩
    · have c1zz : z1 = 0 := by
        rcases isR8 k1zz with ⟨uzz, -⟩ | ⟨-, uzz⟩
        · exact uzz
        · exact absurd uzz b2
      rw [← Option.some.inj (z_t h1 c1zz), ← Option.some.inj (z_t h2 b1)]
      exact ⟨rfl, ht1⟩
    · have c1zz : ¬ z1 = 0 := by
        rcases isR8 k1zz with ⟨-, uzz⟩ | ⟨uzz, -⟩
        · exact absurd b2 uzz
        · exact uzz
      obtain ⟨z2, k2zz, h1⟩ := z_bd (z_f h1 c1zz)
      obtain ⟨z3, k3zz, h1⟩ := z_bd h1
      obtain ⟨z4, k4zz, h1⟩ := z_bd h1
      have h1 := Option.some.inj h1
      obtain ⟨x4zz, g4, h2⟩ := z_lt (z_f h2 b1)
      obtain ⟨q5zz, g5zz, h2⟩ := z_lt h2
      obtain ⟨w6zz, l6, h2⟩ := z_bd h2
      obtain ⟨q7zz, g7, h2⟩ := z_lt h2
      obtain ⟨R, eR⟩ : ∃ R : Nat, p1zz.toInt = (R : Int) := ⟨p1zz.toInt.toNat, by omega⟩
      have e5zz : gA q5zz 3 = upd (gA q1zz 3) 3 p0zz := by rw [g5zz]; rfl
      have Ezz : ∀ jzz, jzz ≠ 3 → gA q5zz 3 jzz = gA q1zz 3 jzz := fun jzz hj => by rw [e5zz, updA, if_neg hj]
      have hL : LwP pl z2 (gA q5zz 3) (gA q5zz 3 3) := by
        have e3zz : gA q5zz 3 3 = p0zz := by rw [e5zz, updA, if_pos rfl]
        rw [e3zz]
        exact (t2zz.at' hp k2zz).eq (fun jzz hj => Ezz jzz (by omega))
      have hMzz : TzM o5zz (gA q5zz 3) := t3zz.ext (fun _ _ => rfl) (fun _ _ => rfl) rfl rfl rfl (fun jzz j1 j2zz => Ezz jzz (by omega))
      have hI : WiL o4zz (gA q5zz 3) := ⟨by rw [Ezz 0 (by decide)]; exact t2zz.1.1, fun jzz hj => by rw [Ezz (36 + jzz) (by omega)]; exact t2zz.1.2.1 jzz hj, by rw [Ezz 6 (by decide)]; exact t2zz.1.2.2⟩
      have h20' : gI q5zz 20 = 0 := by rw [g5zz, g1]; exact h20
      obtain ⟨kzz, hkn, hTzz, hz⟩ := line_eq (n := (gA q1zz 3 0).toInt.toNat) hL (WtL.of hI hMzz) hMzz.2.2.2.2.1 h20' (by rw [Ezz 0 (by decide)]; exact ht1.n.1) eR (by omega) k3zz l6
      have f6zz := fr_f_X9_layPlaces l6
      have eG : gA q7zz 3 = gA q1zz 3 := by
        rw [g7]
        show upd (gA w6zz 3) 3 x4zz = gA q1zz 3
        rw [f6zz.A 3 rfl, e5zz]
        funext jzz
        rw [updA, updA]
        by_cases qq : jzz = 3
        · rw [if_pos qq, g4, qq]
        · rw [if_neg qq, if_neg qq]
      have k43 : gI q7zz 43 = gI w6zz 43 := by rw [g7]; rfl
      have k42 : gA q7zz 42 = gA w6zz 42 := by rw [g7]; rfl
      have tf7 : TF pl o0zz o1 o4zz o5zz o8zz o6 o11 q7zz im0 im1 := by
        have I : ∀ izz, d_X9_layPlaces_me.1.elem izz = false → gI q7zz izz = gI q1zz izz := fun izz hizz => by
          rw [g7]
          show gI w6zz izz = _
          rw [f6zz.I izz hizz, g5zz]; rfl
        have A : ∀ izz, izz ≠ 3 → d_X9_layPlaces_me.2.2.1.elem izz = false → gA q7zz izz = gA q1zz izz := fun izz h3 hizz => by
          rw [g7]
          have azz : gA (tA w6zz 3 3 x4zz) izz = gA w6zz izz := fset_ne h3
          rw [azz, f6zz.A izz hizz, g5zz]
          exact fset_ne h3
        have M : ∀ izz, d_X9_layPlaces_me.2.2.2.1.elem izz = false → gM q7zz izz = gM q1zz izz := fun izz hizz => by
          rw [g7]
          show gM w6zz izz = _
          rw [f6zz.M izz hizz, g5zz]; rfl
        obtain ⟨⟨h1', h2'⟩, h3, ⟨h4, h4'⟩, h5, h6, h7, h8, h9, h10⟩ := ht1
        exact ⟨⟨by rw [I 13 rfl]; exact h1', by rw [A 12 (by decide) rfl]; exact h2'⟩, by rw [I 11 rfl]; exact h3, ⟨h4.eq (M 31 rfl) (M 32 rfl), h4'.eq2 (M 33 rfl) (M 54 rfl)⟩, h5.eq rfl rfl (I 1 rfl) (A 2 (by decide) rfl), by rw [I 58 rfl]; exact h6, h7.eq (I 62 rfl) (A 61 (by decide) rfl), by rw [eG]; exact h8, by rw [eG]; exact h9.eq (I 8 rfl) (A 6 (by decide) rfl) (A 7 (by decide) rfl), h10.eq rfl (A 5 (by decide) rfl) (A 4 (by decide) rfl)⟩
      have tk := hTzz.2.1
      rw [hTzz.1] at tk
      have at1zz := at_eq (izz := 0) hTzz.2.1 (by decide) (by decide) k4zz
      rw [k43, k42] at h2
      rw [← h1]
      by_cases c0zz : gI w6zz 43 = 0
      · have h2 := Option.some.inj (z_t h2 c0zz)
        rw [← h2]
        refine ⟨?_, tf7⟩
        rcases at1zz with ⟨uzz, -⟩ | ⟨-, uzz⟩
        · rw [c0zz, (by decide : (0 : Int32).toInt = 0)] at tk; omega
        · exact uzz
      · have h2 := Option.some.inj (z_f h2 c0zz)
        rw [← h2]
        refine ⟨?_, tf7⟩
        have c1' := cv_ne (a := (kzz : Int)) (b := 0) tk (by decide) c0zz
        rcases at1zz with ⟨uzz, vzz⟩ | ⟨uzz, -⟩
        · show z4 = gA w6zz 42 0
          rw [vzz]; exact (hTzz.2.2 0 uzz).1
        · omega
  by_cases c0zz : p0zz = -1
  · unfold f_X9_isLaw at l2
    have l2 := z_t l2 c0zz
    unfold bk_X9_isLaw_23 at l2
    exact gozz (Or.inl c0zz) (by rw [← Option.some.inj l2]; decide) (z_t h1 c0zz)
  · obtain ⟨z5, k5zz, h1⟩ := z_bd (z_f h1 c0zz)
    rcases islaw_eq t2zz c0zz k5zz l2 with ⟨a1zz, a2⟩ | ⟨a1zz, a2, a3, a4⟩
    · rw [← Option.some.inj (z_t h1 a1zz), ← Option.some.inj (z_t h2 a2)]
      exact ⟨rfl, ht1⟩
    · exact gozz (Or.inr ⟨a3, a4⟩) a2 (z_f h1 a1zz)
def dQ : DD := ([0, 8], [], [3], [], [])
def G8 (o0zz : Ob) (zzz : Int32 × Ob) : Prop := ∃ vzz : Int32, ((vzz = -1 ∨ vzz = -2 ∨ vzz = -3 ∨ vzz = -5 ∨ vzz = -6) ∧ f_X8_refuse o0zz vzz = some zzz) ∨ (0 ≤ vzz.toInt ∧ f_X8_grant o0zz vzz = some zzz)
def G9 (o9 : Ob) (wzz : Int32 × Ob) : Prop := ∃ (vzz : Int32) (qzz : Ob), FrX dQ o9 qzz ∧ f_X9_tell qzz vzz = some wzz
set_option maxHeartbeats 200000 in
theorem G8.st {o0zz o9 : Ob} {zzz wzz : Int32 × Ob} (azz : G8 o0zz zzz) (bzz : G9 o9 wzz) (hzz : StT o0zz o9) (ezz : zzz.1 = wzz.1) : StT zzz.2 wzz.2 ∧ gI zzz.2 13 = gI o0zz 13 ∧ gI zzz.2 14 = gI o0zz 14 ∧ gR zzz.2 7 = gR o0zz 7 ∧ FrX dIs o9 wzz.2 := by
  obtain ⟨v', qzz, fzz, k2zz⟩ := bzz
  have hq : StT o0zz qzz := ⟨by rw [fzz.I 1 rfl]; exact hzz.1, by rw [fzz.A 2 rfl]; exact hzz.2⟩
  have ft := fr_f_X9_tell k2zz
  have f2zz : FrX dIs o9 wzz.2 := (fzz.mono rfl : FrX dIs o9 qzz).tr (ft.mono rfl)
  have e2zz := (tell_3 k2zz).1
  obtain ⟨vzz, ⟨hv, k1zz⟩ | ⟨hv, k1zz⟩⟩ := azz
  · have fa := fr_f_X8_refuse k1zz
    have e1zz : vzz = v' := by rw [← e2zz, ← ezz, refuse_ret k1zz]
    rw [← e1zz] at k2zz
    exact ⟨(st_refuse hq hv k1zz k2zz).2.2, fa.I 13 rfl, fa.I 14 rfl, fa.R 7 rfl, f2zz⟩
  · have fa := fr_f_X8_grant k1zz
    have e1zz : vzz = v' := by rw [← e2zz, ← ezz, grant_d k1zz]
    rw [← e1zz] at k2zz
    exact ⟨(st_grant hq hv k1zz k2zz).2.2, fa.I 13 rfl, fa.I 14 rfl, fa.R 7 rfl, f2zz⟩
set_option maxHeartbeats 200000 in
theorem bt_g8 {o0zz o4zz : Ob} {p0zz p1zz p2zz : Int32} {yzz : Int32 × Ob × Ob} (hzz : f_X8_beats o0zz o4zz p0zz p1zz p2zz = some yzz) : G8 o0zz (yzz.1, yzz.2.1) := by
  have h14 : bk_X8_beats_14 o0zz o4zz = some yzz → G8 o0zz (yzz.1, yzz.2.1) := by
    intro hzz
    unfold bk_X8_beats_14 at hzz
    obtain ⟨zzz, kzz, hzz⟩ := z_bd hzz
    rw [← Option.some.inj hzz]
    exact ⟨_, Or.inl ⟨Or.inl rfl, kzz⟩⟩
  have h42 : bk_X8_beats_42 o0zz o4zz = some yzz → G8 o0zz (yzz.1, yzz.2.1) := by
    intro hzz
    unfold bk_X8_beats_42 at hzz
    obtain ⟨zzz, kzz, hzz⟩ := z_bd hzz
    rw [← Option.some.inj hzz]
    exact ⟨_, Or.inl ⟨Or.inr (Or.inl rfl), kzz⟩⟩
  unfold f_X8_beats at hzz
  by_cases c1zz : p0zz = p1zz
  · exact h14 (z_t hzz c1zz)
  have hzz := z_f hzz c1zz
  by_cases c2zz : p2zz < 0
  · exact h14 (z_t hzz c2zz)
  have hzz := z_f hzz c2zz
  by_cases c3zz : p2zz ≤ 1
  · obtain ⟨z2, k2zz, hzz⟩ := z_bd (z_t hzz c3zz)
    by_cases c4zz : z2 = 0
    · exact h42 (z_t hzz c4zz)
    obtain ⟨z4, k4zz, hzz⟩ := z_bd (z_f hzz c4zz)
    by_cases c5zz : z4 = 0
    · exact h42 (z_t hzz c5zz)
    have hzz := (z_gd (z_f hzz c5zz)).2
    obtain ⟨x6, g6, hzz⟩ := z_lt hzz
    have hzz := (z_gd (z_gd hzz).2).2
    obtain ⟨o9, g9, hzz⟩ := z_lt hzz
    obtain ⟨z10, k10, hzz⟩ := z_bd hzz
    rw [← Option.some.inj hzz]
    exact ⟨_, Or.inr ⟨by rw [g6]; exact (i32_and (m := 1) (by decide)).1, k10⟩⟩
  · exact h14 (z_f hzz c3zz)
set_option maxHeartbeats 200000 in
theorem bt_g9 {o9 : Ob} {p0zz p1zz p2zz : Int32} {yzz : Int32 × Ob} (hzz : f_X9_beats o9 p0zz p1zz p2zz = some yzz) : G9 o9 yzz := by
  unfold f_X9_beats at hzz
  obtain ⟨q1zz, g1, hzz⟩ := z_lt hzz
  have f1zz : FrX dQ o9 q1zz := by rw [g1]; exact FrX.sI FrX.rf rfl
  have h20 : bk_X9_beats_20 q1zz = some yzz → G9 o9 yzz := by
    intro hzz
    unfold bk_X9_beats_20 at hzz
    obtain ⟨zzz, kzz, hzz⟩ := z_bd hzz
    rw [← Option.some.inj hzz]
    exact ⟨_, _, f1zz, kzz⟩
  have h42 : bk_X9_beats_42 q1zz = some yzz → G9 o9 yzz := by
    intro hzz
    unfold bk_X9_beats_42 at hzz
    obtain ⟨zzz, kzz, hzz⟩ := z_bd hzz
    rw [← Option.some.inj hzz]
    exact ⟨_, _, f1zz, kzz⟩
  by_cases c1zz : p0zz = p1zz
  · exact h20 (z_t hzz c1zz)
  obtain ⟨z3, k3zz, hzz⟩ := z_bd (z_f hzz c1zz)
  by_cases c2zz : z3 = 0
  · exact h20 (z_t hzz c2zz)
  obtain ⟨z4, k4zz, hzz⟩ := z_bd (z_f hzz c2zz)
  by_cases c3zz : z4 = 0
  · exact h42 (z_t hzz c3zz)
  obtain ⟨z6, k6zz, hzz⟩ := z_bd (z_f hzz c3zz)
  by_cases c4zz : z6 = 0
  · exact h42 (z_t hzz c4zz)
  have hzz := (z_gd (z_f hzz c4zz)).2
  obtain ⟨x8, g8, hzz⟩ := z_lt hzz
  obtain ⟨x9, g9, hzz⟩ := z_lt hzz
  have hzz := (z_gd hzz).2
  have h87 : ∀ s0zz s1zz : Int32, bk_X9_beats_87 x8 s0zz s1zz x9 q1zz = some yzz → G9 o9 yzz := by
    intro s0zz s1zz hzz
    unfold bk_X9_beats_87 at hzz
    have hzz := (z_gd hzz).2
    obtain ⟨o12, g12, hzz⟩ := z_lt hzz
    obtain ⟨zzz, kzz, hzz⟩ := z_bd hzz
    rw [← Option.some.inj hzz]
    exact ⟨_, _, by rw [g12]; exact FrX.tA f1zz rfl, kzz⟩
  by_cases c5zz : x8 = p2zz
  · exact h87 _ _ (z_t hzz c5zz)
  · exact h87 _ _ (z_f hzz c5zz)
set_option maxHeartbeats 200000 in
theorem tf_beats {pl : List CR} {o0zz o1 o4zz o5zz o8zz o6 o11 o9 : Ob} {im0 im1 : Option IR} {p0zz p1zz p2zz : Int32} {yzz : Int32 × Ob × Ob} {y' : Int32 × Ob} (ht : TF pl o0zz o1 o4zz o5zz o8zz o6 o11 o9 im0 im1) (h4 : IvX2 pl o4zz) (h1 : f_X8_beats o0zz o4zz p0zz p1zz p2zz = some yzz) (h2 : f_X9_beats o9 p0zz p1zz p2zz = some y') : yzz.1 = y'.1 ∧ TF pl yzz.2.1 o1 yzz.2.2 o5zz o8zz o6 o11 y'.2 im0 im1 := by
  obtain ⟨t1zz, t2zz, t3zz, t4zz⟩ := ht.2.2.2.2.2.2.1
  obtain ⟨a1zz, a2⟩ := t_beats h4 t1zz h1 h2
  obtain ⟨n, en, hn⟩ := people_n h4
  have en9 : (gA o9 3 0).toInt = (n : Int) := by rw [← t1zz.1]; exact en
  have ec : p0zz.toNatClampNeg = p0zz.toInt.toNat := rfl
  have Ezz : ∀ jzz, ¬ (64 ≤ jzz ∧ jzz < 71) → gA y'.2 3 jzz = gA o9 3 jzz := by
    intro jzz hj
    rcases beats9 en9 hn h2 with ⟨-, -, czz⟩ | ⟨-, ⟨-, -, czz⟩ | ⟨bzz, -, czz⟩⟩
    · rw [czz]
    · rw [czz]
    · rw [czz jzz, if_neg (by rw [ec]; omega)]
  have Dzz : ∃ (izz : Nat) (vzz : Int32), yzz.2.2 = o4zz ∨ yzz.2.2 = tA o4zz 3 izz vzz := by
    rcases beats8 en hn h1 with ⟨-, -, czz⟩ | ⟨-, ⟨-, -, czz⟩ | ⟨-, -, czz⟩⟩
    · exact ⟨0, 0, Or.inl czz⟩
    · exact ⟨0, 0, Or.inl czz⟩
    · exact ⟨_, _, Or.inr czz⟩
  obtain ⟨s1zz, s2zz, s3zz, s4zz, s5⟩ := (bt_g8 h1).st (bt_g9 h2) ht.2.2.2.1 a1zz
  obtain ⟨izz, vzz, Dzz⟩ := Dzz
  refine ⟨a1zz, ht.isl s5 ⟨a2, ?_, t3zz.ext (fun _ _ => rfl) (fun _ _ => rfl) rfl rfl rfl (fun jzz j1 j2zz => Ezz jzz (by omega)), fun jzz hj => ?_⟩ ?_ s1zz s2zz s3zz s4zz⟩
  · rcases Dzz with Dzz | Dzz <;> rw [Dzz] <;> exact t2zz.ext rfl rfl rfl rfl rfl (fun _ _ => rfl) (fun _ _ => rfl) (fun _ _ => rfl) (fun _ _ => rfl) (fun jzz hj => Ezz jzz (by omega))
  · rw [Ezz 0 (by omega)] at hj
    rw [Ezz jzz (by omega)]
    exact t4zz jzz hj
  · have fb := fr_f_X9_beats h2
    rw [Ezz 0 (by omega)]
    exact ht.2.2.2.2.2.2.2.1.cell (fb.I 8 rfl) (fb.A 6 rfl) (fb.A 7 rfl) (fun jzz hj => Ezz jzz (by omega))
set_option maxHeartbeats 200000 in
theorem tf_seen {pl : List CR} {o0zz o1 o4zz o5zz o8zz o6 o11 o9 : Ob} {im0 im1 : Option IR} {p0zz p1zz : Int32} {yzz : Int32 × Ob × Ob} {y' : Int32 × Ob} (ht : TF pl o0zz o1 o4zz o5zz o8zz o6 o11 o9 im0 im1) (h4 : IvX2 pl o4zz) (h1 : f_X8_seen o0zz o4zz p0zz p1zz = some yzz) (h2 : f_X9_seen o9 p0zz p1zz = some y') : yzz.1 = y'.1 ∧ TF pl yzz.2.1 o1 yzz.2.2 o5zz o8zz o6 o11 y'.2 im0 im1 := by
  obtain ⟨a1zz, a2⟩ := t_seen h4 ht.2.2.2.2.2.2.1.1 h1 h2
  have n1zz : (1 : Int32).toNatClampNeg = 1 := by decide
  unfold f_X8_seen at h1
  unfold f_X9_seen at h2
  obtain ⟨q1zz, g1, h2⟩ := z_lt h2
  have ht1 : TF pl o0zz o1 o4zz o5zz o8zz o6 o11 q1zz im0 im1 := by rw [g1]; exact ht.sI0
  obtain ⟨t1zz, t2zz, t3zz, t4zz⟩ := ht1.2.2.2.2.2.2.1
  obtain ⟨z1, k1zz, h1⟩ := z_bd h1
  obtain ⟨w2zz, l2, h2⟩ := z_bd h2
  have no : bk_X8_seen_14 o0zz o4zz = some yzz → bk_X9_seen_24 q1zz = some y' → yzz.1 = y'.1 ∧ TF pl yzz.2.1 o1 yzz.2.2 o5zz o8zz o6 o11 y'.2 im0 im1 := by
    intro h1 h2
    unfold bk_X8_seen_14 at h1
    unfold bk_X9_seen_24 at h2
    obtain ⟨z2, k2zz, h1⟩ := z_bd h1
    obtain ⟨w3zz, l3, h2⟩ := z_bd h2
    have h1 := Option.some.inj h1
    have h2 := Option.some.inj h2
    rw [← h1, ← h2]
    exact ht1.no (Or.inl rfl) k2zz l3
  rcases isR9 l2 with ⟨b1, b2⟩ | ⟨b1, b2⟩
  · have c1zz : z1 = 0 := by
      rcases isR8 k1zz with ⟨uzz, -⟩ | ⟨-, uzz⟩
      · exact uzz
      · exact absurd uzz b2
    exact no (z_t h1 c1zz) (z_t h2 b1)
  · have c1zz : ¬ z1 = 0 := by
      rcases isR8 k1zz with ⟨-, uzz⟩ | ⟨uzz, -⟩
      · exact absurd b2 uzz
      · exact uzz
    obtain ⟨z3, k3zz, h1⟩ := z_bd (z_f h1 c1zz)
    obtain ⟨w4zz, l4, h2⟩ := z_bd (z_f h2 b1)
    have i9zz := in9 (m := 0) (n := 9) (by decide) (by decide) l4
    have i8zz := isT8 k3zz
    rcases i9zz with ⟨uzz, vzz⟩ | ⟨uzz, vzz⟩
    · have c3zz : z3 = 0 := by
        rcases i8zz with ⟨wzz, -⟩ | ⟨-, wzz⟩
        · exact wzz
        · exact absurd (by omega) vzz
      exact no (z_t h1 c3zz) (z_t h2 uzz)
    · have c3zz : ¬ z3 = 0 := by
        rcases i8zz with ⟨-, wzz⟩ | ⟨wzz, -⟩
        · exact absurd (by omega) wzz
        · exact wzz
      have h1 := z_f h1 c3zz
      obtain ⟨x5zz, g5zz, h2⟩ := z_lt (z_f h2 uzz)
      rw [n1zz] at g5zz h2
      have e8 : gI o4zz 8 = x5zz := by rw [g5zz]; exact t1zz.2.1
      have r8 := h4.2.1
      rw [e8] at r8
      by_cases c5zz : x5zz = 6
      · obtain ⟨z6, k6zz, h1⟩ := z_bd (z_f h1 (by rw [e8, c5zz]; decide))
        obtain ⟨w12, l12, h2⟩ := z_bd (z_t h2 c5zz)
        have h1 := Option.some.inj h1
        have h2 := Option.some.inj h2
        rw [← h1, ← h2]
        exact ht1.no (Or.inr (Or.inr (Or.inr (Or.inl rfl)))) k6zz l12
      · have d5zz := cv_ne (a := x5zz.toInt) (b := 6) rfl (by decide) c5zz
        obtain ⟨kzz, ek⟩ : ∃ kzz : Nat, x5zz.toInt = (kzz : Int) := ⟨x5zz.toInt.toNat, by omega⟩
        have hk : kzz < 6 := by omega
        have lt : gI o4zz 8 < 6 := by rw [e8]; exact Int32.lt_iff_toInt_lt.mpr (by rw [ek, (by decide : (6 : Int32).toInt = 6)]; omega)
        obtain ⟨z4, k4zz, h1⟩ := z_bd (z_t h1 lt)
        obtain ⟨z5, k5zz, h1⟩ := z_bd h1
        have h1 := Option.some.inj h1
        unfold f_X2_addSeen at k4zz
        have k4zz := (z_gd (z_f k4zz (fun qzz => by rw [e8] at qzz; have qzz := cv_le (a := 6) (b := (kzz : Int)) (by decide) ek qzz; omega))).2
        obtain ⟨m2zz, f2zz, k4zz⟩ := z_lt k4zz
        have k4zz := (z_gd k4zz).2
        obtain ⟨m4zz, f4zz, k4zz⟩ := z_lt k4zz
        obtain ⟨m5zz, f5zz, k4zz⟩ := z_lt k4zz
        unfold bk_X2_addSeen_39 at k4zz
        have k4zz := Option.some.inj k4zz
        have ik : (gI o4zz 8).toNatClampNeg = kzz := by rw [e8]; exact tnc_eq ek
        have ik2 : (gI m2zz 8).toNatClampNeg = kzz := by rw [f2zz]; exact ik
        rw [ik] at f2zz
        rw [ik2] at f4zz
        have v5 : m5zz = sI (tA (tA o4zz 4 kzz p0zz) 5 kzz p1zz) 8 (gI o4zz 8 + 1) := by rw [f5zz, f4zz, f2zz]; rfl
        have h2 := (z_gd (z_f h2 c5zz)).2
        have j7zz : ((71 : Int32) + ((2 : Int32) * x5zz)).toInt = 71 + 2 * (kzz : Int) := i32_add (by decide) (i32_mul (by decide : (2 : Int32).toInt = 2) ek (by omega) (by omega)) (by omega) (by omega)
        have j7n : ((71 : Int32) + ((2 : Int32) * x5zz)).toNatClampNeg = 71 + 2 * kzz := tnc_eq (by rw [j7zz]; omega)
        have j8n : (((71 : Int32) + ((2 : Int32) * x5zz)) + (1 : Int32)).toNatClampNeg = 72 + 2 * kzz := tnc_eq (by rw [i32_add j7zz (by decide : (1 : Int32).toInt = 1) (by omega) (by omega)]; omega)
        rw [j7n, j8n] at h2
        obtain ⟨q7zz, g7, h2⟩ := z_lt h2
        have h2 := (z_gd h2).2
        obtain ⟨q9zz, g9, h2⟩ := z_lt h2
        obtain ⟨q10zz, g10, h2⟩ := z_lt h2
        obtain ⟨w11zz, l11, h2⟩ := z_bd h2
        have h2 := Option.some.inj h2
        have fq : FrX dIs q1zz q10zz := by rw [g10, g9, g7]; exact FrX.tA (FrX.tA (FrX.tA FrX.rf rfl) rfl) rfl
        have ft := fr_f_X9_tell l11
        have Fzz : FrX dIs q1zz w11zz.2 := fq.tr (ft.mono rfl)
        have exzz : z4.1 = x5zz + 1 := by
          rw [← k4zz]
          show gI m5zz 8 = x5zz + 1
          rw [v5, ← e8]; rfl
        rw [exzz] at k5zz
        have sq : StT o0zz q10zz := ht1.2.2.2.1.eq rfl rfl (by rw [g10, g9, g7]; rfl) (by rw [g10, g9, g7]; rfl)
        have tx : (x5zz + 1).toInt = (kzz : Int) + 1 := i32_add ek (by decide) (by omega) (by omega)
        obtain ⟨s1zz, s2zz, s3zz⟩ := st_grant sq (by rw [tx]; omega) k5zz l11
        have fg := fr_f_X8_grant k5zz
        have ez : z4.2 = m5zz := by rw [← k4zz]
        have eW : gA w11zz.2 3 = upd (upd (upd (gA q1zz 3) (71 + 2 * kzz) p0zz) (72 + 2 * kzz) p1zz) 1 (upd (upd (gA q1zz 3) (71 + 2 * kzz) p0zz) (72 + 2 * kzz) p1zz 1 + 1) := by
          rw [ft.A 3 rfl, g10, g9, g7]; rfl
        have Ezz : ∀ jzz, jzz ≠ 1 → jzz ≠ 71 + 2 * kzz → jzz ≠ 72 + 2 * kzz → gA w11zz.2 3 jzz = gA q1zz 3 jzz := fun jzz j1 j2zz j3zz => by rw [eW, updA, if_neg j1, updA, if_neg j3zz, updA, if_neg j2zz]
        have a2' : Tis z4.2 (gA w11zz.2 3) := by rw [← h1, ← h2] at a2; exact a2
        refine ⟨a1zz, ?_⟩
        rw [← h1, ← h2]
        refine ht1.isl Fzz ⟨a2', ?_, t3zz.ext (fun _ _ => rfl) (fun _ _ => rfl) rfl rfl rfl (fun jzz j1 j2zz => Ezz jzz (by omega) (by omega) (by omega)), fun jzz hj => ?_⟩ ?_ s3zz (fg.I 13 rfl) (fg.I 14 rfl) (fg.R 7 rfl)
        · rw [ez, v5]
          obtain ⟨u1zz, u2zz, u3, u4zz, u5, u6⟩ := t2zz
          refine ⟨⟨by rw [Ezz 0 (by omega) (by omega) (by omega)]; exact u1zz.1, fun jzz hj => by rw [Ezz (36 + jzz) (by omega) (by omega) (by omega)]; exact u1zz.2.1 jzz hj, by rw [Ezz 6 (by omega) (by omega) (by omega)]; exact u1zz.2.2⟩, by rw [Ezz 2 (by omega) (by omega) (by omega)]; exact u2zz, by rw [Ezz 3 (by omega) (by omega) (by omega), Ezz 2 (by omega) (by omega) (by omega)]; exact u3, by rw [Ezz 5 (by omega) (by omega) (by omega)]; exact u4zz, fun jzz hj => ?_, fun l hl => ?_⟩
          · show (if jzz = kzz then p0zz else gA o4zz 4 jzz) = _ ∧ (if jzz = kzz then p1zz else gA o4zz 5 jzz) = _
            by_cases qq : jzz = kzz
            · rw [if_pos qq, if_pos qq, eW, updA, if_neg (by omega), updA, if_neg (by omega), updA, if_pos (by omega), updA, if_neg (by omega), updA, if_pos (by omega)]
              exact ⟨rfl, rfl⟩
            · rw [if_neg qq, if_neg qq, Ezz (71 + 2 * jzz) (by omega) (by omega) (by omega), Ezz (72 + 2 * jzz) (by omega) (by omega) (by omega)]
              exact u5 jzz hj
          · rw [Ezz 2 (by omega) (by omega) (by omega)] at hl
            have hl6 := u2zz.2.2
            obtain ⟨aa, cc, r1zz, r2, r3⟩ := u6 l hl
            exact ⟨aa, cc, r1zz, r2, r3.eq (fun jzz hj => Ezz jzz (by omega) (by omega) (by omega))⟩
        · have g0 := t2zz.1.1.2.1
          rw [Ezz 0 (by omega) (by omega) (by omega)] at hj
          rw [Ezz jzz (by omega) (by omega) (by omega)]
          exact t4zz jzz hj
        · rw [Ezz 0 (by omega) (by omega) (by omega)]
          exact ht1.2.2.2.2.2.2.2.1.cell (by rw [ft.I 8 rfl, g10, g9, g7]; rfl) (by rw [ft.A 6 rfl, g10, g9, g7]; rfl) (by rw [ft.A 7 rfl, g10, g9, g7]; rfl) (fun jzz hj => Ezz jzz (by omega) (by omega) (by omega))
set_option maxHeartbeats 200000 in
theorem pers_t {yzz : Int32 × Ob} {v3 : Int32} (h0 : (0 : Int32) ≤ v3) : ∀ (Nzz : Nat) (v4zz : Int32) (o : Ob), lp_X9_person_109 Nzz (v3, v4zz, o) = some yzz → ∃ qzz : Ob, FrX dQ o qzz ∧ gI qzz 8 = 0 ∧ f_X9_tell qzz v3 = some yzz := by
  intro Nzz
  induction Nzz with
  | zero => intro v4zz o hzz; cases hzz
  | succ Nzz ihzz =>
    intro v4zz o hzz
    have hzz : lb_X9_person_109 (lp_X9_person_109 Nzz) v3 v4zz o = some yzz := hzz
    unfold lb_X9_person_109 at hzz
    rcases z_if hzz with ⟨-, hzz⟩ | ⟨-, hzz⟩
    · obtain ⟨q1zz, g1, hzz⟩ := z_lt hzz
      obtain ⟨zzz, kzz, hzz⟩ := z_bd hzz
      unfold f_X9_settled at kzz
      have kzz := z_t kzz h0
      unfold bk_X9_settled_13 at kzz
      obtain ⟨q2zz, g2, kzz⟩ := z_lt kzz
      obtain ⟨z2, k2zz, kzz⟩ := z_bd kzz
      refine ⟨q2zz, by rw [g2, g1]; exact FrX.sI (FrX.tA FrX.rf rfl) rfl, by rw [g2]; rfl, ?_⟩
      rw [k2zz, ← Option.some.inj hzz, ← Option.some.inj kzz]
    · have hzz := (z_gd hzz).2
      obtain ⟨q1zz, g1, hzz⟩ := z_lt hzz
      obtain ⟨xzz, gx, hzz⟩ := z_lt hzz
      obtain ⟨qzz, fzz, e8, kzz⟩ := ihzz xzz q1zz hzz
      exact ⟨qzz, (by rw [g1]; exact FrX.tA FrX.rf rfl : FrX dQ o q1zz).tr fzz, e8, kzz⟩
set_option maxHeartbeats 900000 in
theorem tf_person {pl : List CR} {o0zz o1 o4zz o5zz o8zz o6 o11 o9 : Ob} {im0 im1 : Option IR} {p0zz p1zz : Int32} {yzz : Int32 × Ob × Ob × Ob × Ob} {y' : Int32 × Ob} (ht : TF pl o0zz o1 o4zz o5zz o8zz o6 o11 o9 im0 im1) (h4 : IvX2 pl o4zz) (h1 : f_X8_person o0zz o4zz o5zz o11 p0zz p1zz = some yzz) (h2 : f_X9_person o9 p0zz p1zz = some y') : yzz.1 = y'.1 ∧ TF pl yzz.2.1 o1 yzz.2.2.1 yzz.2.2.2.1 o8zz o6 yzz.2.2.2.2 y'.2 im0 im1 := by
  obtain ⟨a1zz, a2⟩ := t_person h4 ht.2.2.2.2.2.2.1.1 h1 h2
  have n0zz : (0 : Int32).toNatClampNeg = 0 := by decide
  unfold f_X8_person at h1
  unfold f_X9_person at h2
  obtain ⟨q1zz, g1, h2⟩ := z_lt h2
  have ht1 : TF pl o0zz o1 o4zz o5zz o8zz o6 o11 q1zz im0 im1 := by rw [g1]; exact ht.sI0
  obtain ⟨t1zz, t2zz, t3zz, t4zz⟩ := ht1.2.2.2.2.2.2.1
  obtain ⟨z1, k1zz, h1⟩ := z_bd h1
  obtain ⟨w2zz, l2, h2⟩ := z_bd h2
  have no : bk_X8_person_23 o0zz o4zz o5zz o11 = some yzz → bk_X9_person_30 q1zz = some y' → yzz.1 = y'.1 ∧ TF pl yzz.2.1 o1 yzz.2.2.1 yzz.2.2.2.1 o8zz o6 yzz.2.2.2.2 y'.2 im0 im1 := by
    intro h1 h2
    unfold bk_X8_person_23 at h1
    unfold bk_X9_person_30 at h2
    obtain ⟨z2, k2zz, h1⟩ := z_bd h1
    obtain ⟨w3zz, l3, h2⟩ := z_bd h2
    have h1 := Option.some.inj h1
    have h2 := Option.some.inj h2
    rw [← h1, ← h2]
    exact ht1.no (Or.inl rfl) k2zz l3
  have gozz : (0 ≤ p0zz.toInt ∧ p0zz.toInt ≤ 9) → bk_X8_person_29 p0zz p1zz o0zz o4zz o5zz o11 = some yzz → bk_X9_person_36 p0zz p1zz q1zz = some y' → yzz.1 = y'.1 ∧ TF pl yzz.2.1 o1 yzz.2.2.1 yzz.2.2.2.1 o8zz o6 yzz.2.2.2.2 y'.2 im0 im1 := by
    intro hp h1 h2
    unfold bk_X8_person_29 at h1
    unfold bk_X9_person_36 at h2
    rw [n0zz] at h2
    obtain ⟨x4zz, g4, h2⟩ := z_lt h2
    have e7zz : gI o4zz 7 = x4zz := by rw [g4]; exact t1zz.1
    have r7 := h4.1
    rw [e7zz] at r7
    by_cases c7zz : x4zz = 7
    · obtain ⟨z6, k6zz, h1⟩ := z_bd (z_f h1 (by rw [e7zz, c7zz]; decide))
      obtain ⟨w20, l20, h2⟩ := z_bd (z_t h2 c7zz)
      have h1 := Option.some.inj h1
      have h2 := Option.some.inj h2
      rw [← h1, ← h2]
      exact ht1.no (Or.inr (Or.inr (Or.inr (Or.inl rfl)))) k6zz l20
    · have d7zz := cv_ne (a := x4zz.toInt) (b := 7) rfl (by decide) c7zz
      obtain ⟨n, en⟩ : ∃ n : Nat, x4zz.toInt = (n : Int) := ⟨x4zz.toInt.toNat, by omega⟩
      have hn : n < 7 := by omega
      have lt : gI o4zz 7 < 7 := by rw [e7zz]; exact Int32.lt_iff_toInt_lt.mpr (by rw [en, (by decide : (7 : Int32).toInt = 7)]; omega)
      clear d7zz r7
      obtain ⟨z3, k3zz, h1⟩ := z_bd (z_t h1 lt)
      obtain ⟨z4, k4zz, h1⟩ := z_bd h1
      obtain ⟨z5, k5zz, h1⟩ := z_bd h1
      have h1 := Option.some.inj h1
      have ec := clear_d k3zz
      unfold f_X2_addPerson at k4zz
      have k4zz := (z_gd (z_t k4zz lt)).2
      obtain ⟨m2zz, f2zz, k4zz⟩ := z_lt k4zz
      have k4zz := (z_gd k4zz).2
      obtain ⟨m4zz, f4zz, k4zz⟩ := z_lt k4zz
      obtain ⟨m5zz, f5zz, k4zz⟩ := z_lt k4zz
      have k4zz := Option.some.inj k4zz
      have i7zz : (gI o4zz 7).toNatClampNeg = n := by rw [e7zz]; exact tnc_eq en
      rw [i7zz] at f2zz f4zz
      have v5 : m5zz = sI (tA o4zz 1 n p1zz) 7 (gI o4zz 7 + 1) := by rw [f5zz, f4zz]; rfl
      have i8zz : ((8 : Int32) + x4zz).toNatClampNeg = 8 + n := tnc_eq (by rw [i32_add (by decide : (8 : Int32).toInt = 8) en (by omega) (by omega)]; omega)
      have i15 : ((15 : Int32) + x4zz).toNatClampNeg = 15 + n := tnc_eq (by rw [i32_add (by decide : (15 : Int32).toInt = 15) en (by omega) (by omega)]; omega)
      have i22 : ((22 : Int32) + x4zz).toNatClampNeg = 22 + n := tnc_eq (by rw [i32_add (by decide : (22 : Int32).toInt = 22) en (by omega) (by omega)]; omega)
      have i29 : ((29 : Int32) + x4zz).toNatClampNeg = 29 + n := tnc_eq (by rw [i32_add (by decide : (29 : Int32).toInt = 29) en (by omega) (by omega)]; omega)
      have i64zz : ((64 : Int32) + x4zz).toNatClampNeg = 64 + n := tnc_eq (by rw [i32_add (by decide : (64 : Int32).toInt = 64) en (by omega) (by omega)]; omega)
      rw [i8zz, i15, i22, i29, i64zz] at h2
      clear i8zz i15 i22 i29 i64zz i7zz
      have h2 := (z_gd (z_f h2 c7zz)).2
      obtain ⟨q6zz, g6, h2⟩ := z_lt h2
      have h2 := (z_gd h2).2
      obtain ⟨q8zz, g8, h2⟩ := z_lt h2
      have h2 := (z_gd h2).2
      obtain ⟨q10zz, g10, h2⟩ := z_lt h2
      have h2 := (z_gd h2).2
      obtain ⟨q12zz, g12, h2⟩ := z_lt h2
      have h2 := (z_gd h2).2
      obtain ⟨q14zz, g14, h2⟩ := z_lt h2
      obtain ⟨u1zz, u2zz, u3⟩ := l9_pers en hn zfu 0 q14zz 0 (by decide) h2
      have h0 : (0 : Int32) ≤ x4zz := Int32.le_iff_toInt_le.mpr (by rw [en, (by decide : (0 : Int32).toInt = 0)]; omega)
      obtain ⟨qzz, fzz, e8, kzz⟩ := pers_t h0 zfu 0 q14zz h2
      have F14 : FrX dQ q1zz q14zz := by rw [g14, g12, g10, g8, g6]; exact FrX.tA (FrX.tA (FrX.tA (FrX.tA (FrX.tA FrX.rf rfl) rfl) rfl) rfl) rfl
      have Fq := F14.tr fzz
      have ft := fr_f_X9_tell kzz
      have Fzz : FrX dIs q1zz y'.2 := (Fq.mono rfl : FrX dIs q1zz qzz).tr (ft.mono rfl)
      have G14 : ∀ jzz, gA q14zz 3 jzz = if jzz = 64 + n then 0 else if jzz = 29 + n then p1zz else if jzz = 22 + n then 0 else if jzz = 15 + n then 0 else if jzz = 8 + n then p0zz else gA q1zz 3 jzz := by
        intro jzz
        rw [g14, g12, g10, g8, g6]
        show upd (upd (upd (upd (upd (gA q1zz 3) (8 + n) p0zz) (15 + n) 0) (22 + n) 0) (29 + n) p1zz) (64 + n) 0 jzz = _
        rw [updA, updA, updA, updA, updA]
      have E0zz : gA y'.2 3 0 = x4zz + 1 := by
        rw [u2zz, G14, if_neg (by omega), if_neg (by omega), if_neg (by omega), if_neg (by omega), if_neg (by omega), g4]
      have Ezz : ∀ jzz, jzz ≠ 0 → jzz ≠ 8 + n → jzz ≠ 15 + n → jzz ≠ 22 + n → jzz ≠ 29 + n → jzz ≠ 64 + n → ¬ (36 + 4 * n ≤ jzz ∧ jzz < 36 + 4 * n + 4) → gA y'.2 3 jzz = gA q1zz 3 jzz := by
        intro jzz j0 j8zz j15zz j22 j29 j64 j36
        rw [u3 jzz j0, if_neg (by omega), G14, if_neg j64, if_neg j29, if_neg j22, if_neg j15zz, if_neg j8zz]
      have E8 : gA y'.2 3 (8 + n) = p0zz := by
        rw [u3 (8 + n) (by omega), if_neg (by omega), G14, if_neg (by omega), if_neg (by omega), if_neg (by omega), if_neg (by omega), if_pos rfl]
      have E15 : gA y'.2 3 (15 + n) = 0 := by
        rw [u3 (15 + n) (by omega), if_neg (by omega), G14, if_neg (by omega), if_neg (by omega), if_neg (by omega), if_pos rfl]
      have E22 : gA y'.2 3 (22 + n) = 0 := by
        rw [u3 (22 + n) (by omega), if_neg (by omega), G14, if_neg (by omega), if_neg (by omega), if_pos rfl]
      have en0 : (gA q1zz 3 0).toInt = (n : Int) := by rw [← g4]; exact en
      have z15 : gA q1zz 3 (15 + n) = 0 := t4zz (15 + n) (by rw [en0]; omega)
      have z22 : gA q1zz 3 (22 + n) = 0 := t4zz (22 + n) (by rw [en0]; omega)
      have en1 : (x4zz + 1).toInt = (n : Int) + 1 := i32_add en (by decide) (by omega) (by omega)
      have e41zz : z4.2.1 = m5zz := by rw [← k4zz]
      have e42zz : z4.2.2 = m2zz := by rw [← k4zz]
      have ez := grant_d k5zz
      have exzz : z4.1 = x4zz := by
        have wzz := a1zz
        rw [← h1, ez, u1zz] at wzz
        exact wzz
      rw [← exzz] at kzz
      have sq : StT o0zz qzz := ⟨by rw [Fq.I 1 rfl]; exact ht1.2.2.2.1.1, by rw [Fq.A 2 rfl]; exact ht1.2.2.2.1.2⟩
      have s3zz := (st_grant sq (by rw [exzz, en]; omega) k5zz kzz).2.2
      have fg := fr_f_X8_grant k5zz
      have a2' : Tis z4.2.1 (gA y'.2 3) := by rw [← h1] at a2; exact a2
      refine ⟨a1zz, ?_⟩
      rw [← h1]
      refine ht1.isl Fzz ⟨a2', ?_, ?_, fun jzz hj => ?_⟩ (PaT.emp ec.1 ec.2 ((ft.I 8 rfl).trans e8)) s3zz (fg.I 13 rfl) (fg.I 14 rfl) (fg.R 7 rfl)
      · obtain ⟨v1zz, v2, v3, v4zz, v5', v6⟩ := t2zz
        have A2 : gA z4.2.1 2 = gA o4zz 2 := by rw [e41zz, v5]; rfl
        have A4 : gA z4.2.1 4 = gA o4zz 4 := by rw [e41zz, v5]; rfl
        have A5 : gA z4.2.1 5 = gA o4zz 5 := by rw [e41zz, v5]; rfl
        have R6 : gR z4.2.1 6 = gR o4zz 6 := by rw [e41zz, v5]; rfl
        have I9 : gI z4.2.1 9 = gI o4zz 9 := by rw [e41zz, v5]; rfl
        have I10 : gI z4.2.1 10 = gI o4zz 10 := by rw [e41zz, v5]; rfl
        have I11 : gI z4.2.1 11 = gI o4zz 11 := by rw [e41zz, v5]; rfl
        have I12 : gI z4.2.1 12 = gI o4zz 12 := by rw [e41zz, v5]; rfl
        have X2 : gA y'.2 3 2 = gA q1zz 3 2 := Ezz 2 (by omega) (by omega) (by omega) (by omega) (by omega) (by omega) (by omega)
        have X3 : gA y'.2 3 3 = gA q1zz 3 3 := Ezz 3 (by omega) (by omega) (by omega) (by omega) (by omega) (by omega) (by omega)
        have X5 : gA y'.2 3 5 = gA q1zz 3 5 := Ezz 5 (by omega) (by omega) (by omega) (by omega) (by omega) (by omega) (by omega)
        have X6 : gA y'.2 3 6 = gA q1zz 3 6 := Ezz 6 (by omega) (by omega) (by omega) (by omega) (by omega) (by omega) (by omega)
        refine ⟨⟨⟨a2'.1, by rw [E0zz, en1]; omega, by rw [E0zz, en1]; omega⟩, fun jzz hj => ⟨a2'.2.2.2.2.2.1 jzz hj, ?_⟩, by rw [X6, I12]; exact v1zz.2.2⟩, by rw [X2, I9]; exact v2, by rw [X3, X2, I10]; exact v3, by rw [X5, I11]; exact v4zz, fun jzz hj => ?_, fun l hl => ?_⟩
        · rw [← a2'.2.2.2.2.2.1 jzz hj, A2, (v1zz.2.1 jzz hj).1]
          exact (v1zz.2.1 jzz hj).2
        · rw [A4, A5, Ezz (71 + 2 * jzz) (by omega) (by omega) (by omega) (by omega) (by omega) (by omega) (by omega), Ezz (72 + 2 * jzz) (by omega) (by omega) (by omega) (by omega) (by omega) (by omega) (by omega)]
          exact v5' jzz hj
        · rw [X2] at hl
          have hl6 := v2.2.2
          obtain ⟨aa, cc, r1zz, r2, r3⟩ := v6 l hl
          exact ⟨aa, cc, by rw [R6]; exact r1zz, r2, r3.eq (fun jzz hj => Ezz jzz (by omega) (by omega) (by omega) (by omega) (by omega) (by omega) (by omega))⟩
      · rw [e42zz, f2zz]
        refine (t3zz.trade hn hp).ext (fun _ _ => rfl) (fun _ _ => rfl) rfl rfl rfl (fun jzz j1 j2zz => ?_)
        rw [updA]
        by_cases c8zz : jzz = 8 + n
        · rw [if_pos c8zz, c8zz, E8]
        · rw [if_neg c8zz]
          by_cases c15zz : jzz = 15 + n
          · rw [c15zz, E15, z15]
          · by_cases c22 : jzz = 22 + n
            · rw [c22, E22, z22]
            · exact Ezz jzz (by omega) c8zz c15zz c22 (by omega) (by omega) (by omega)
      · rw [E0zz, en1] at hj
        by_cases c15zz : jzz = 15 + n
        · omega
        · by_cases c22 : jzz = 22 + n
          · omega
          · rw [Ezz jzz (by omega) (by omega) c15zz c22 (by omega) (by omega) (by omega)]
            exact t4zz jzz (by rw [en0]; omega)
  have i9zz := in9 (m := 0) (n := 9) (by decide) (by decide) l2
  have i8zz := isT8 k1zz
  rcases i9zz with ⟨uzz, vzz⟩ | ⟨uzz, vzz⟩
  · have c1zz : z1 = 0 := by
      rcases i8zz with ⟨wzz, -⟩ | ⟨-, wzz⟩
      · exact wzz
      · exact absurd (by omega) vzz
    exact no (z_t h1 c1zz) (z_t h2 uzz)
  · have c1zz : ¬ z1 = 0 := by
      rcases i8zz with ⟨-, wzz⟩ | ⟨wzz, -⟩
      · exact absurd (by omega) wzz
      · exact wzz
    have h1 := z_f h1 c1zz
    have h2 := z_f h2 uzz
    by_cases c2zz : p1zz = -1
    · exact gozz vzz (z_t h1 c2zz) (z_t h2 c2zz)
    · obtain ⟨z7, k7zz, h1⟩ := z_bd (z_f h1 c2zz)
      obtain ⟨w21, l21, h2⟩ := z_bd (z_f h2 c2zz)
      have p2' := isP2 k7zz
      rw [t2zz.1.1.1] at p2'
      rcases isP9 l21 t2zz.1.1.2 with ⟨e1zz, e2zz⟩ | ⟨e1zz, e2zz⟩
      · have c3zz : z7 = 0 := by
          rcases p2' with ⟨wzz, -⟩ | ⟨-, wzz⟩
          · exact wzz
          · exact absurd wzz e2zz
        exact no (z_t h1 c3zz) (z_t h2 e1zz)
      · have c3zz : ¬ z7 = 0 := by
          rcases p2' with ⟨-, wzz⟩ | ⟨wzz, -⟩
          · exact absurd e2zz wzz
          · exact wzz
        exact gozz vzz (z_f h1 c3zz) (z_f h2 e1zz)
def SrR (o : Ob) : Prop := ∀ jzz, jzz < 28 → 0 ≤ (gA o 2 jzz).toInt ∧ (gA o 2 jzz).toInt ≤ 9
set_option maxHeartbeats 200000 in
theorem row8_lp {o1 : Ob} (hs : 0 ≤ (gI o1 2).toInt ∧ (gI o1 2).toInt ≤ 400) {yzz : Int32 × Ob × Ob × Ob} : ∀ (Nzz : Nat) (v1zz v2 : Int32) (kzz : Nat) (o0zz iszz : Ob), v2.toInt = (kzz : Int) → kzz ≤ 404 → 0 ≤ v1zz.toInt → v1zz.toInt ≤ (kzz : Int) → (0 ≤ (gI iszz 7).toInt ∧ (gI iszz 7).toInt ≤ 7) → SrR iszz → lp_X8_row_26 Nzz (v1zz, v2, o0zz, o1, iszz) = some yzz → SrR yzz.2.2.2 ∧ gA yzz.2.2.1 0 = gA o1 0 ∧ ∃ (vzz : Int32) (qzz : Ob), 0 ≤ vzz.toInt ∧ gI qzz 12 = gI o0zz 12 ∧ gA qzz 11 = gA o0zz 11 ∧ f_X8_grant qzz vzz = some (yzz.1, yzz.2.1) := by
  intro Nzz
  induction Nzz with
  | zero => intro v1zz v2 kzz o0zz iszz _ _ _ _ _ _ hzz; cases hzz
  | succ Nzz ihzz =>
    intro v1zz v2 kzz o0zz iszz ek hk hv0 hv hp hSzz hzz
    have hzz : lb_X8_row_26 (lp_X8_row_26 Nzz) v1zz v2 o0zz o1 iszz = some yzz := hzz
    unfold lb_X8_row_26 at hzz
    by_cases czz : gI o1 2 ≤ v2
    · obtain ⟨q2zz, g2, hzz⟩ := z_lt (z_t hzz czz)
      obtain ⟨z3, k3zz, hzz⟩ := z_bd hzz
      have hzz := Option.some.inj hzz
      rw [← hzz]
      exact ⟨hSzz, by show gA q2zz 0 = _; rw [g2]; rfl, v1zz, o0zz, hv0, rfl, rfl, k3zz⟩
    · have d := cv_nle (a := (gI o1 2).toInt) (b := (kzz : Int)) rfl ek czz
      obtain ⟨z4, k4zz, hzz⟩ := z_bd (z_f hzz czz)
      have e5zz : (v2 + (5 : Int32)).toInt = ((kzz + 5 : Nat) : Int) := by rw [i32_add ek (by decide : (5 : Int32).toInt = 5) (by omega) (by omega)]; omega
      have e1zz : (v1zz + (1 : Int32)).toInt = v1zz.toInt + 1 := i32_add rfl (by decide) (by omega) (by omega)
      rcases tellRow8 ek (by omega) hs hp k4zz with ⟨b1, b2, -⟩ | ⟨b1, ⟨b2, b3⟩, b7, b8, b9, b10, b11⟩
      · obtain ⟨q5zz, g5zz, hzz⟩ := z_lt (z_t hzz b1)
        unfold bk_X8_row_61 at hzz
        obtain ⟨x6, g6, hzz⟩ := z_lt hzz
        obtain ⟨r1zz, r2, vzz, qzz, r3, r4, r5zz, r6⟩ := ihzz v1zz x6 (kzz + 5) q5zz z4.2 (by rw [g6]; exact e5zz) (by omega) hv0 (by omega) (by rw [b2]; exact hp) (by rw [b2]; exact hSzz) hzz
        exact ⟨r1zz, r2, vzz, qzz, r3, by rw [r4, g5zz]; rfl, by rw [r5zz, g5zz]; rfl, r6⟩
      · obtain ⟨x7, g7, hzz⟩ := z_lt (z_f hzz b1)
        unfold bk_X8_row_61 at hzz
        obtain ⟨x6, g6, hzz⟩ := z_lt hzz
        obtain ⟨azz, ea⟩ : ∃ azz : Nat, (gA o1 0 kzz).toInt = (azz : Int) := ⟨(gA o1 0 kzz).toInt.toNat, by omega⟩
        have ia : (gA o1 0 kzz).toNatClampNeg = azz := tnc_eq ea
        rw [ia] at b11
        refine ihzz x7 x6 (kzz + 5) o0zz z4.2 (by rw [g6]; exact e5zz) (by omega) (by rw [g7, e1zz]; omega) (by rw [g7, e1zz]; omega) (by rw [b7]; exact hp) (fun jzz hj => ?_) hzz
        rw [b11]
        by_cases cj : 4 * azz ≤ jzz ∧ jzz < 4 * azz + 4
        · rw [if_pos cj]
          exact ⟨(b3 (jzz - 4 * azz) (by omega)).2.1, (b3 (jzz - 4 * azz) (by omega)).2.2⟩
        · rw [if_neg cj]; exact hSzz jzz hj
set_option maxHeartbeats 200000 in
theorem l58_f {yzz : Int32 × Ob} {rec35 : Int32 × Int32 × Int32 × Ob → Option (Int32 × Ob)} {v1zz v2 v3 : Int32} {kzz azz : Nat} (ek : v3.toInt = (kzz : Int)) (hk : kzz ≤ 400) (hazz : azz < 7) : ∀ (Nzz : Nat) (v4zz : Int32) (rzz : Nat) (o : Ob), v4zz.toInt = (rzz : Int) → rzz ≤ 4 → (gA o 12 kzz).toInt = (azz : Int) → lp_X9_row_58 rec35 Nzz (v1zz, v2, v3, v4zz, o) = some yzz →
    ∃ o' : Ob, bk_X9_row_116 rec35 v1zz (v2 + 1) v3 o' = some yzz ∧ gI o' 1 = gI o 1 ∧ gA o' 2 = gA o 2 ∧ ∀ jzz, ¬ (36 ≤ jzz ∧ jzz < 64) → gA o' 3 jzz = gA o 3 jzz := by
  intro Nzz
  induction Nzz with
  | zero => intro v4zz rzz o _ _ _ hzz; cases hzz
  | succ Nzz ihzz =>
    intro v4zz rzz o er hr et hzz
    have hzz : lb_X9_row_58 rec35 (lp_X9_row_58 rec35 Nzz) v1zz v2 v3 v4zz o = some yzz := hzz
    unfold lb_X9_row_58 at hzz
    by_cases czz : (4 : Int32) ≤ v4zz
    · have d := cv_le (a := 4) (b := (rzz : Int)) (by decide) er czz
      obtain ⟨x9, e9zz, hzz⟩ := z_lt (z_t hzz czz)
      rw [e9zz] at hzz
      exact ⟨o, hzz, rfl, rfl, fun jzz _ => rfl⟩
    · have d := cv_nle (a := 4) (b := (rzz : Int)) (by decide) er czz
      obtain ⟨-, hzz⟩ := z_gd (z_f hzz czz)
      obtain ⟨-, hzz⟩ := z_gd hzz
      obtain ⟨-, hzz⟩ := z_gd hzz
      obtain ⟨o13, e13zz, hzz⟩ := z_lt hzz
      obtain ⟨x14, e14zz, hzz⟩ := z_lt hzz
      have ik : v3.toNatClampNeg = kzz := tnc_eq ek
      rw [ik] at e13zz
      have m3zz : ((4 : Int32) * gA o 12 kzz).toInt = 4 * (azz : Int) := i32_mul (by decide) et (by omega) (by omega)
      have m4zz : ((36 : Int32) + ((4 : Int32) * gA o 12 kzz)).toInt = 36 + 4 * (azz : Int) := i32_add (by decide) m3zz (by omega) (by omega)
      have m5zz : (((36 : Int32) + ((4 : Int32) * gA o 12 kzz)) + v4zz).toInt = 36 + 4 * (azz : Int) + (rzz : Int) := i32_add m4zz er (by omega) (by omega)
      have i5zz : (((36 : Int32) + ((4 : Int32) * gA o 12 kzz)) + v4zz).toNatClampNeg = 36 + 4 * azz + rzz := tnc_eq (by omega)
      rw [i5zz] at e13zz
      have t14 : x14.toInt = (rzz : Int) + 1 := by rw [e14zz]; exact i32_add er (by decide) (by omega) (by omega)
      have k12 : gA o13 12 = gA o 12 := by rw [e13zz]; rfl
      obtain ⟨o', b1, b2, b3, b4⟩ := ihzz x14 (rzz + 1) o13 (by omega) (by omega) (by rw [k12]; exact et) hzz
      refine ⟨o', b1, by rw [b2, e13zz]; rfl, by rw [b3, e13zz]; rfl, fun jzz hj => ?_⟩
      rw [b4 jzz hj, e13zz, t3_at, if_neg (by omega)]
set_option maxHeartbeats 200000 in
theorem row9_lp {yzz : Int32 × Ob} {sz : Int32} (hs : sz.toInt ≤ 400) : ∀ (Nzz : Nat) (v1zz v2 : Int32) (kzz : Nat) (o : Ob), v2.toInt = (kzz : Int) → kzz ≤ 404 → (0 ≤ (gA o 3 0).toInt ∧ (gA o 3 0).toInt ≤ 7) → lp_X9_row_35 Nzz (sz, v1zz, v2, o) = some yzz → (∀ jzz, ¬ (36 ≤ jzz ∧ jzz < 64) → gA yzz.2 3 jzz = gA o 3 jzz) ∧ ∃ (vzz : Int32) (qzz : Ob), gI qzz 1 = gI o 1 ∧ gA qzz 2 = gA o 2 ∧ f_X9_tell qzz vzz = some yzz := by
  intro Nzz
  induction Nzz with
  | zero => intro v1zz v2 kzz o _ _ _ hzz; cases hzz
  | succ Nzz ihzz =>
    intro v1zz v2 kzz o ek hk hp hzz
    have hzz : lb_X9_row_35 (lp_X9_row_35 Nzz) sz v1zz v2 o = some yzz := hzz
    unfold lb_X9_row_35 at hzz
    by_cases czz : sz ≤ v2
    · obtain ⟨z5, k5zz, hzz⟩ := z_bd (z_t hzz czz)
      have hzz := Option.some.inj hzz
      rw [← hzz]
      refine ⟨fun jzz _ => ?_, v1zz, o, rfl, rfl, k5zz⟩
      show gA z5.2 3 jzz = _
      rw [(tell_3 k5zz).2.1]
    · have d := cv_nle (a := sz.toInt) (b := (kzz : Int)) rfl ek czz
      have hzz := z_f hzz czz
      have e5zz : (v2 + (5 : Int32)).toInt = ((kzz + 5 : Nat) : Int) := by rw [i32_add ek (by decide : (5 : Int32).toInt = 5) (by omega) (by omega)]; omega
      have blot : bk_X9_row_106 (lp_X9_row_35 Nzz) sz v1zz v2 o = some yzz → (∀ jzz, ¬ (36 ≤ jzz ∧ jzz < 64) → gA yzz.2 3 jzz = gA o 3 jzz) ∧ ∃ (vzz : Int32) (qzz : Ob), gI qzz 1 = gI o 1 ∧ gA qzz 2 = gA o 2 ∧ f_X9_tell qzz vzz = some yzz := by
        intro hzz
        unfold bk_X9_row_106 at hzz
        obtain ⟨q6zz, g6, hzz⟩ := z_lt hzz
        unfold bk_X9_row_116 at hzz
        obtain ⟨x7, g7, hzz⟩ := z_lt hzz
        obtain ⟨r1zz, vzz, qzz, r2, r3, r4⟩ := ihzz v1zz x7 (kzz + 5) q6zz (by rw [g7]; exact e5zz) (by omega) (by rw [g6]; exact hp) hzz
        exact ⟨fun jzz hj => by rw [r1zz jzz hj, g6]; rfl, vzz, qzz, by rw [r2, g6]; rfl, by rw [r3, g6]; rfl, r4⟩
      by_cases c4zz : sz ≤ v2 + (4 : Int32)
      · exact blot (z_t hzz c4zz)
      · obtain ⟨z8, k8zz, hzz⟩ := z_bd (z_f hzz c4zz)
        rcases isTold9 ek (by omega) hp k8zz with ⟨b1, -⟩ | ⟨b1, b2, b3⟩
        · exact blot (z_t hzz b1)
        · have hzz := z_f hzz b1
          obtain ⟨azz, ea⟩ : ∃ azz : Nat, (gA o 12 kzz).toInt = (azz : Int) := ⟨(gA o 12 kzz).toInt.toNat, by omega⟩
          obtain ⟨o', hzz, f1zz, f2zz, f3zz⟩ := l58_f ek (by omega) (by omega : azz < 7) zfu 0 0 o (by decide) (by decide) ea hzz
          unfold bk_X9_row_116 at hzz
          obtain ⟨x7, g7, hzz⟩ := z_lt hzz
          obtain ⟨r1zz, vzz, qzz, r2, r3, r4⟩ := ihzz (v1zz + 1) x7 (kzz + 5) o' (by rw [g7]; exact e5zz) (by omega) (by rw [f3zz 0 (by omega)]; exact hp) hzz
          exact ⟨fun jzz hj => (r1zz jzz hj).trans (f3zz jzz hj), vzz, qzz, r2.trans f1zz, r3.trans f2zz, r4⟩
set_option maxHeartbeats 200000 in
theorem tf_row {pl : List CR} {o0zz o1 o4zz o5zz o8zz o6 o11 o9 : Ob} {im0 im1 : Option IR} {yzz : Int32 × Ob × Ob × Ob} {y' : Int32 × Ob} (ht : TF pl o0zz o1 o4zz o5zz o8zz o6 o11 o9 im0 im1) (h4 : IvX2 pl o4zz) (hr : 0 ≤ (gI o1 2).toInt ∧ (gI o1 2).toInt ≤ 400) (h1 : f_X8_row o0zz o1 o4zz = some yzz) (h2 : f_X9_row o9 = some y') : yzz.1 = y'.1 ∧ TF pl yzz.2.1 yzz.2.2.1 yzz.2.2.2 o5zz o8zz o6 o11 y'.2 im0 im1 := by
  obtain ⟨a1zz, a2, a3⟩ := t_row h4 hr ht.1.1 ht.2.2.2.2.2.2.1.1 ht.1.2 ht.2.1 h1 h2
  have fzz := fr_f_X9_row h2
  obtain ⟨d1zz, d2zz, d3zz⟩ := fr_f_X8_row h1
  have e2zz := row8_2 h1
  have e13zz := row9_13 h2
  obtain ⟨t1zz, t2zz, t3zz, t4zz⟩ := ht.2.2.2.2.2.2.1
  have corezz : SrR yzz.2.2.2 ∧ gA yzz.2.2.1 0 = gA o1 0 ∧ StT yzz.2.1 y'.2 ∧ ∀ jzz, ¬ (36 ≤ jzz ∧ jzz < 64) → gA y'.2 3 jzz = gA o9 3 jzz := by
    have hS4 : SrR o4zz := fun jzz hj => by rw [(t2zz.1.2.1 jzz hj).1]; exact (t2zz.1.2.1 jzz hj).2
    unfold f_X8_row at h1
    unfold f_X9_row at h2
    obtain ⟨q1zz, g1, h2⟩ := z_lt h2
    obtain ⟨x2zz, g2, h2⟩ := z_lt h2
    obtain ⟨q3zz, g3zz, h2⟩ := z_lt h2
    have exs : x2zz = gI o1 2 := by rw [g2, g1, ht.1.1]; rfl
    have st3zz : StT o0zz q3zz := ht.2.2.2.1.eq rfl rfl (by rw [g3zz, g1]; rfl) (by rw [g3zz, g1]; rfl)
    have e33zz : gA q3zz 3 = gA o9 3 := by rw [g3zz, g1]; rfl
    by_cases czz : gI o1 2 = 0
    · obtain ⟨z8, k8zz, h1⟩ := z_bd (z_t h1 czz)
      obtain ⟨z15, k15, h2⟩ := z_bd (z_t h2 (by rw [exs]; exact czz))
      have h1 := Option.some.inj h1
      have h2 := Option.some.inj h2
      rw [← h1, ← h2]
      refine ⟨hS4, rfl, (st_refuse st3zz (Or.inr (Or.inr (Or.inr (Or.inr rfl)))) k8zz k15).2.2, fun jzz _ => ?_⟩
      show gA z15.2 3 jzz = _
      rw [(tell_3 k15).2.1, e33zz]
    · obtain ⟨b1, g4, h1⟩ := z_lt (z_f h1 czz)
      obtain ⟨q4zz, g5zz, h2⟩ := z_lt (z_f h2 (by rw [exs]; exact czz))
      rw [exs] at h2
      have e43 : gA q4zz 3 = gA o9 3 := by rw [g5zz]; exact e33zz
      obtain ⟨r1zz, r2, vzz, qzz, r3, r4, r5zz, r6⟩ := row8_lp hr zfu 0 0 0 b1 o4zz (by decide) (by decide) (by decide) (by decide) h4.1 hS4 h1
      obtain ⟨s1zz, v', q', s2zz, s3zz, s4zz⟩ := row9_lp hr.2 zfu 0 0 0 q4zz (by decide) (by decide) (by rw [e43]; exact t2zz.1.1.2) h2
      have evzz : vzz = v' := by
        have w1zz := grant_ret r6
        have w2zz := (tell_3 s4zz).1
        rw [← w1zz, ← w2zz]; exact a1zz
      rw [← evzz] at s4zz
      have sq : StT qzz q' := st3zz.eq (by rw [r4, g4]; rfl) (by rw [r5zz, g4]; rfl) (by rw [s2zz, g5zz]; rfl) (by rw [s3zz, g5zz]; rfl)
      exact ⟨r1zz, r2, (st_grant sq r3 r6 s4zz).2.2, fun jzz hj => by rw [s1zz jzz hj, e43]⟩
  obtain ⟨c1zz, c2zz, c3zz, Ezz⟩ := corezz
  obtain ⟨⟨-, h2'⟩, h3, ⟨h4', h4''⟩, h5, h6, h7, -, h9, h10⟩ := ht
  have E0zz : gA y'.2 3 0 = gA o9 3 0 := Ezz 0 (by omega)
  have E2 : gA y'.2 3 2 = gA o9 3 2 := Ezz 2 (by omega)
  refine ⟨a1zz, ⟨by rw [e2zz, e13zz], by rw [c2zz, fzz.A 12 rfl]; exact h2'⟩, a3, ⟨h4'.eq (fzz.M 31 rfl) (fzz.M 32 rfl), h4''.eq2 (fzz.M 33 rfl) (fzz.M 54 rfl)⟩, c3zz, by rw [d1zz.I 14 rfl, fzz.I 58 rfl]; exact h6, h7.eq (fzz.I 62 rfl) (fzz.A 61 rfl), ⟨a2, ?_, t3zz.ext (fun _ _ => rfl) (fun _ _ => rfl) rfl rfl rfl (fun jzz j1 j2zz => Ezz jzz (by omega)), fun jzz hj => ?_⟩, ?_, h10.eq (d1zz.R 7 rfl) (fzz.A 5 rfl) (fzz.A 4 rfl)⟩
  · obtain ⟨v1zz, v2, v3, v4zz, v5, v6⟩ := t2zz
    refine ⟨⟨⟨a2.1, by rw [E0zz]; exact v1zz.1.2⟩, fun jzz hj => ⟨a2.2.2.2.2.2.1 jzz hj, ?_⟩, by rw [d3zz.I 12 rfl, Ezz 6 (by omega)]; exact v1zz.2.2⟩, by rw [d3zz.I 9 rfl, E2]; exact v2, by rw [d3zz.I 10 rfl, Ezz 3 (by omega), E2]; exact v3, by rw [d3zz.I 11 rfl, Ezz 5 (by omega)]; exact v4zz, fun jzz hj => ?_, fun l hl => ?_⟩
    · rw [← a2.2.2.2.2.2.1 jzz hj]; exact c1zz jzz hj
    · rw [d3zz.A 4 rfl, d3zz.A 5 rfl, Ezz (71 + 2 * jzz) (by omega), Ezz (72 + 2 * jzz) (by omega)]; exact v5 jzz hj
    · rw [E2] at hl
      obtain ⟨aa, cc, r1zz, r2, r3⟩ := v6 l hl
      exact ⟨aa, cc, by rw [d3zz.R 6 rfl]; exact r1zz, r2, r3.eq (fun jzz hj => Ezz jzz (by omega))⟩
  · have g0 := t2zz.1.1.2.1
    rw [E0zz] at hj
    rw [Ezz jzz (by omega)]
    exact t4zz jzz hj
  · rw [E0zz]
    exact h9.cell (fzz.I 8 rfl) (fzz.A 6 rfl) (fzz.A 7 rfl) (fun jzz hj => Ezz jzz (by omega))
def dLw : DD := ([0, 13, 14, 15, 16, 18, 19, 20, 21, 23, 26, 29, 30], [17], [3, 22, 24, 25, 27, 28], [], [])
def GLw (o9 : Ob) (wzz : Int32 × Ob) : Prop := ∃ (vzz : Int32) (qzz : Ob), FrX dLw o9 qzz ∧ f_X9_tell qzz vzz = some wzz
set_option maxHeartbeats 200000 in
theorem GLw.of {o o' : Ob} {wzz : Int32 × Ob} (hzz : GLw o' wzz) (fzz : FrX dLw o o') : GLw o wzz := by
  obtain ⟨vzz, qzz, f', kzz⟩ := hzz
  exact ⟨vzz, qzz, fzz.tr f', kzz⟩
set_option maxHeartbeats 200000 in
theorem glw145 {yzz : Int32 × Ob} {v1zz : Int32} : ∀ (Nzz : Nat) (v2 : Int32) (o : Ob), lp_X9_law_145 Nzz (v1zz, v2, o) = some yzz → GLw o yzz := by
  intro Nzz
  induction Nzz with
  | zero => intro v2 o hzz; cases hzz
  | succ Nzz ihzz =>
    intro v2 o hzz
    have hzz : lb_X9_law_145 (lp_X9_law_145 Nzz) v1zz v2 o = some yzz := hzz
    unfold lb_X9_law_145 at hzz
    rcases z_if hzz with ⟨-, hzz⟩ | ⟨-, hzz⟩
    · obtain ⟨qzz, gzz, hzz⟩ := z_lt hzz
      obtain ⟨zzz, kzz, hzz⟩ := z_bd hzz
      rw [← Option.some.inj hzz]
      exact ⟨_, qzz, by rw [gzz]; exact FrX.tA FrX.rf rfl, kzz⟩
    · have hzz := (z_gd (z_gd hzz).2).2
      obtain ⟨q1zz, g1, hzz⟩ := z_lt hzz
      have hzz := (z_gd (z_gd hzz).2).2
      obtain ⟨q2zz, g2, hzz⟩ := z_lt hzz
      obtain ⟨xzz, gx, hzz⟩ := z_lt hzz
      exact (ihzz xzz q2zz hzz).of (by rw [g2, g1]; exact FrX.tA (FrX.tA FrX.rf rfl) rfl)
set_option maxHeartbeats 200000 in
theorem glw110 {yzz : Int32 × Ob} {v1zz : Int32} : ∀ (Nzz : Nat) (v2 : Int32) (o : Ob), lp_X9_law_110 Nzz (v1zz, v2, o) = some yzz → GLw o yzz := by
  intro Nzz
  induction Nzz with
  | zero => intro v2 o hzz; cases hzz
  | succ Nzz ihzz =>
    intro v2 o hzz
    have hzz : lb_X9_law_110 (lp_X9_law_110 Nzz) v1zz v2 o = some yzz := hzz
    unfold lb_X9_law_110 at hzz
    rcases z_if hzz with ⟨-, hzz⟩ | ⟨-, hzz⟩
    · exact glw145 _ _ _ hzz
    · have hzz := (z_gd (z_gd hzz).2).2
      obtain ⟨q1zz, g1, hzz⟩ := z_lt hzz
      obtain ⟨xzz, gx, hzz⟩ := z_lt hzz
      exact (ihzz xzz q1zz hzz).of (by rw [g1]; exact FrX.tA FrX.rf rfl)
set_option maxHeartbeats 200000 in
theorem glw64 {yzz : Int32 × Ob} {o : Ob} (hzz : bk_X9_law_64 o = some yzz) : GLw o yzz := by
  unfold bk_X9_law_64 at hzz
  obtain ⟨z4, k4zz, hzz⟩ := z_bd hzz
  have fzz : FrX dLw o z4 := (fr_f_X9_endText k4zz).mono rfl
  rcases z_if hzz with ⟨-, hzz⟩ | ⟨-, hzz⟩
  · obtain ⟨x5zz, g5zz, hzz⟩ := z_lt hzz
    have hzz := (z_gd hzz).2
    obtain ⟨q7zz, g7, hzz⟩ := z_lt hzz
    exact (glw110 _ _ _ hzz).of (fzz.tr (by rw [g7]; exact FrX.tA FrX.rf rfl))
  · obtain ⟨zzz, kzz, hzz⟩ := z_bd hzz
    rw [← Option.some.inj hzz]
    exact ⟨_, z4, fzz, kzz⟩
set_option maxHeartbeats 200000 in
theorem glw37 {yzz : Int32 × Ob} : ∀ (Nzz : Nat) (o : Ob), lp_X9_law_37 Nzz o = some yzz → GLw o yzz := by
  intro Nzz
  induction Nzz with
  | zero => intro o hzz; cases hzz
  | succ Nzz ihzz =>
    intro o hzz
    have hzz : lb_X9_law_37 (lp_X9_law_37 Nzz) o = some yzz := hzz
    unfold lb_X9_law_37 at hzz
    rcases z_if hzz with ⟨-, hzz⟩ | ⟨-, hzz⟩
    · obtain ⟨z1, k1zz, hzz⟩ := z_bd hzz
      rcases z_if hzz with ⟨-, hzz⟩ | ⟨-, hzz⟩
      · exact glw64 hzz
      · obtain ⟨z2, k2zz, hzz⟩ := z_bd hzz
        obtain ⟨z3, k3zz, hzz⟩ := z_bd hzz
        have f2zz : FrX dLw o z2 := (fr_f_X9_next k2zz).mono rfl
        have f3zz : FrX dLw z2 z3 := (fr_f_X9_readLaw k3zz).mono rfl
        exact (ihzz z3 hzz).of (f2zz.tr f3zz)
    · exact glw64 hzz
set_option maxHeartbeats 200000 in
theorem glw {yzz : Int32 × Ob} {o : Ob} (hzz : f_X9_law o = some yzz) : GLw o yzz := by
  unfold f_X9_law at hzz
  obtain ⟨q1zz, g1, hzz⟩ := z_lt hzz
  have f1zz : FrX dLw o q1zz := by rw [g1]; exact FrX.sI FrX.rf rfl
  rcases z_if hzz with ⟨-, hzz⟩ | ⟨-, hzz⟩
  · obtain ⟨q2zz, g2, hzz⟩ := z_lt hzz
    obtain ⟨zzz, kzz, hzz⟩ := z_bd hzz
    rw [← Option.some.inj hzz]
    exact ⟨_, q2zz, by rw [g2]; exact FrX.sI f1zz rfl, kzz⟩
  · obtain ⟨z2, k2zz, hzz⟩ := z_bd hzz
    obtain ⟨z3, k3zz, hzz⟩ := z_bd hzz
    have f2zz : FrX dLw q1zz z2 := (fr_f_X9_beginText k2zz).mono rfl
    have f3zz : FrX dLw z2 z3 := (fr_f_X9_readLaw k3zz).mono rfl
    exact (glw37 _ _ hzz).of ((f1zz.tr f2zz).tr f3zz)
set_option maxHeartbeats 200000 in
theorem law9_full {o : Ob} {yzz : Int32 × Ob} (h6 : gA o 3 2 = 6) (hzz : f_X9_law o = some yzz) : yzz.1 = -5 ∧ gA yzz.2 3 = gA o 3 ∧ gI yzz.2 18 = gI o 18 := by
  have n2zz : (2 : Int32).toNatClampNeg = 2 := by decide
  unfold f_X9_law at hzz
  rw [n2zz] at hzz
  obtain ⟨q1zz, g1, hzz⟩ := z_lt hzz
  obtain ⟨q2zz, g2, hzz⟩ := z_lt (z_t hzz (by rw [g1]; exact h6))
  obtain ⟨zzz, kzz, hzz⟩ := z_bd hzz
  obtain ⟨azz, bzz, -⟩ := tell_3 kzz
  have ft := fr_f_X9_tell kzz
  rw [← Option.some.inj hzz]
  exact ⟨azz, bzz.trans (by rw [g2, g1]; rfl), (ft.I 18 rfl).trans (by rw [g2, g1]; rfl)⟩
set_option maxHeartbeats 200000 in
theorem kept_d {o yzz : Ob} {n k1zz : Nat} (e7zz : (gI o 7).toInt = (n : Int)) (e8 : (gI o 8).toInt = (k1zz : Int)) (hzz : f_X0_kept 12 400 o = some yzz) : (∀ izz, izz < 5 → ∀ mzz, mzz < n → gA yzz izz mzz = gA o izz mzz) ∧ (∀ jzz, jzz < k1zz → gA yzz 5 jzz = gA o 5 jzz ∧ gA yzz 6 jzz = gA o 6 jzz) ∧ gI yzz 7 = gI o 7 ∧ gI yzz 8 = gI o 8 := by
  unfold f_X0_kept at hzz
  have hzz := (z_gd hzz).2
  unfold f_X0_kept2 at hzz
  have i7zz : (gI o 7).toNatClampNeg = n := tnc_eq e7zz
  have i8zz : (gI o 8).toNatClampNeg = k1zz := tnc_eq e8
  obtain ⟨q2zz, g2, hzz⟩ := z_lt (z_gd hzz).2
  obtain ⟨q4zz, g4, hzz⟩ := z_lt (z_gd hzz).2
  obtain ⟨q6zz, g6, hzz⟩ := z_lt (z_gd hzz).2
  obtain ⟨q8zz, g8, hzz⟩ := z_lt (z_gd hzz).2
  obtain ⟨q10zz, g10, hzz⟩ := z_lt (z_gd hzz).2
  obtain ⟨q12zz, g12, hzz⟩ := z_lt (z_gd hzz).2
  obtain ⟨q14zz, g14, hzz⟩ := z_lt (z_gd hzz).2
  obtain ⟨q15zz, g15, hzz⟩ := z_lt hzz
  obtain ⟨q16zz, g16, hzz⟩ := z_lt hzz
  have hzz := Option.some.inj hzz
  have a0zz : gA yzz 0 = va_cpy (gA o 0) (gA ob0 0) (0 : Int32).toNatClampNeg (0 : Int32).toNatClampNeg (gI o 7).toNatClampNeg := by rw [← hzz, g16, g15, g14, g12, g10, g8, g6, g4, g2]; rfl
  have a1zz : gA yzz 1 = va_cpy (gA o 1) (gA ob0 1) (0 : Int32).toNatClampNeg (0 : Int32).toNatClampNeg (gI o 7).toNatClampNeg := by rw [← hzz, g16, g15, g14, g12, g10, g8, g6, g4, g2]; rfl
  have a2 : gA yzz 2 = va_cpy (gA o 2) (gA ob0 2) (0 : Int32).toNatClampNeg (0 : Int32).toNatClampNeg (gI o 7).toNatClampNeg := by rw [← hzz, g16, g15, g14, g12, g10, g8, g6, g4, g2]; rfl
  have a3 : gA yzz 3 = va_cpy (gA o 3) (gA ob0 3) (0 : Int32).toNatClampNeg (0 : Int32).toNatClampNeg (gI o 7).toNatClampNeg := by rw [← hzz, g16, g15, g14, g12, g10, g8, g6, g4, g2]; rfl
  have a4 : gA yzz 4 = va_cpy (gA o 4) (gA ob0 4) (0 : Int32).toNatClampNeg (0 : Int32).toNatClampNeg (gI o 7).toNatClampNeg := by rw [← hzz, g16, g15, g14, g12, g10, g8, g6, g4, g2]; rfl
  have a5 : gA yzz 5 = va_cpy (gA o 5) (gA ob0 5) (0 : Int32).toNatClampNeg (0 : Int32).toNatClampNeg (gI o 8).toNatClampNeg := by rw [← hzz, g16, g15, g14, g12, g10, g8, g6, g4, g2]; rfl
  have a6 : gA yzz 6 = va_cpy (gA o 6) (gA ob0 6) (0 : Int32).toNatClampNeg (0 : Int32).toNatClampNeg (gI o 8).toNatClampNeg := by rw [← hzz, g16, g15, g14, g12, g10, g8, g6, g4, g2]; rfl
  refine ⟨fun izz hizz mzz hmzz => ?_, fun jzz hj => ⟨by rw [a5]; exact cpy0 i8zz hj, by rw [a6]; exact cpy0 i8zz hj⟩, by rw [← hzz, g16, g15]; rfl, by rw [← hzz, g16]; rfl⟩
  rcases (show izz = 0 ∨ izz = 1 ∨ izz = 2 ∨ izz = 3 ∨ izz = 4 by omega) with ezz | ezz | ezz | ezz | ezz
  · rw [ezz, a0zz]; exact cpy0 i7zz hmzz
  · rw [ezz, a1zz]; exact cpy0 i7zz hmzz
  · rw [ezz, a2]; exact cpy0 i7zz hmzz
  · rw [ezz, a3]; exact cpy0 i7zz hmzz
  · rw [ezz, a4]; exact cpy0 i7zz hmzz
set_option maxHeartbeats 200000 in
theorem LwE.loc {oc : Ob} {Gzz G' : Nat → Int32} {l : Nat} (hzz : LwE oc Gzz l) (ezz : ∀ jzz, 84 + 900 * l ≤ jzz → jzz < 84 + 900 * l + 900 → G' jzz = Gzz jzz) : LwE oc G' l := by
  obtain ⟨n, K1, K2, h1, h2, h3, h4, h5, h6, h7⟩ := hzz
  refine ⟨n, K1, K2, h1, h2, h3, h4, h5, by rw [ezz _ (by omega) (by omega)]; exact h6, fun mzz hmzz => (h7 mzz hmzz).mv (fun _ _ => rfl) (fun _ _ => ⟨rfl, rfl⟩) (fun izz hizz => ?_) (fun jzz hj => ⟨?_, ?_⟩) (Nat.le_refl _) (Nat.le_refl _)⟩
  · show G' (84 + 900 * l + 2 + (8 * mzz + izz)) = Gzz (84 + 900 * l + 2 + (8 * mzz + izz))
    exact ezz _ (by omega) (by omega)
  · show G' (84 + 900 * l + 98 + 2 * jzz) = Gzz (84 + 900 * l + 98 + 2 * jzz)
    exact ezz _ (by omega) (by omega)
  · show G' (84 + 900 * l + 98 + 2 * jzz + 1) = Gzz (84 + 900 * l + 98 + 2 * jzz + 1)
    exact ezz _ (by omega) (by omega)
set_option maxHeartbeats 200000 in
theorem pfind_new {pl : List CR} {czz : CR} (hzz : ∀ c' ∈ pl, c'.1 ≠ czz.1) : pfind (pl ++ [czz]) czz.1 = some czz := by
  unfold pfind
  rw [List.find?_append]
  have ezz : pl.find? (fun c' => Nat.beq c'.1 czz.1) = none := List.find?_eq_none.mpr (fun xzz hx qzz => hzz xzz hx (Nat.eq_of_beq_eq_true qzz))
  have qzz : [czz].find? (fun c' => Nat.beq c'.1 czz.1) = some czz := List.find?_cons_of_pos (Nat.beq_refl czz.1)
  rw [ezz, qzz]; rfl
set_option maxHeartbeats 200000 in
theorem tf_law_no {pl : List CR} {o0zz o1 o4zz o5zz o8zz o6 o11 o9 o1' : Ob} {im0 im1 : Option IR} {vzz : Int32} {z3 : Int32 × Ob} {y' : Int32 × Ob} (ht : TF pl o0zz o1 o4zz o5zz o8zz o6 o11 o9 im0 im1) (hv : vzz = -5 ∨ vzz = -6) (k3zz : f_X8_refuse o0zz vzz = some z3) (h2 : f_X9_law o9 = some y') (e1zz : y'.1 = vzz) (e3zz : gA y'.2 3 = gA o9 3) (eT : gA o1' 0 = gA o1 0) (e2zz : gI o1' 2 = 0) : z3.1 = y'.1 ∧ TF pl z3.2 o1' o4zz o5zz o8zz o6 o11 y'.2 im0 im1 := by
  have fzz := fr_f_X9_law h2
  obtain ⟨v', qzz, fq, kzz⟩ := glw h2
  have evzz : v' = vzz := (tell_3 kzz).1.symm.trans e1zz
  rw [evzz] at kzz
  have sq : StT o0zz qzz := ht.2.2.2.1.eq rfl rfl (fq.I 1 rfl) (fq.A 2 rfl)
  have s3zz := (st_refuse sq (by rcases hv with ezz | ezz; exact Or.inr (Or.inr (Or.inr (Or.inl ezz))); exact Or.inr (Or.inr (Or.inr (Or.inr ezz)))) k3zz kzz).2.2
  have fa := fr_f_X8_refuse k3zz
  obtain ⟨⟨h1', h2'⟩, h3, ⟨h4, h4'⟩, h5, h6, h7, h8, h9, h10⟩ := ht
  exact ⟨(refuse_ret k3zz).trans e1zz.symm, ⟨by rw [e2zz, law9_13 h2], by rw [eT, fzz.A 12 rfl]; exact h2'⟩, by rw [fa.I 13 rfl, fzz.I 11 rfl]; exact h3, ⟨h4.eq (fzz.M 31 rfl) (fzz.M 32 rfl), h4'.eq2 (fzz.M 33 rfl) (fzz.M 54 rfl)⟩, s3zz, by rw [fa.I 14 rfl, fzz.I 58 rfl]; exact h6, h7.eq (fzz.I 62 rfl) (fzz.A 61 rfl), by rw [e3zz]; exact h8, by rw [e3zz]; exact h9.eq (fzz.I 8 rfl) (fzz.A 6 rfl) (fzz.A 7 rfl), h10.eq (fa.R 7 rfl) (fzz.A 5 rfl) (fzz.A 4 rfl)⟩
set_option maxHeartbeats 200000 in
theorem tf_law_y {pl : List CR} {o0zz o1 o2 o4zz o5zz o8zz o6 o11 o9 oc : Ob} {im0 im1 : Option IR} {z1 : Int32 × Ob × Ob} {czz : CR} {yzz : Int32 × Ob × Ob} {y' : Int32 × Ob} (ht : TF pl o0zz o1 o4zz o5zz o8zz o6 o11 o9 im0 im1) (hr : 0 ≤ (gI o1 2).toInt ∧ (gI o1 2).toInt ≤ 400) (c1zz : gI o4zz 9 < (6 : Int32)) (ez1 : f_X6_readText 12 400 o1 o2 1 = some z1) (c2zz : ¬ z1.1 = 0) (eT : gA z1.2.1 0 = gA o1 0) (eoc : f_X0_kept 12 400 z1.2.2 = some oc) (ecc : czz.2.2.2.2.2 = oc) (hfr : ∀ c' ∈ pl, c'.1 ≠ czz.1) (ey : f_X8_law_b (pl ++ [czz]) o0zz o4zz (some czz.1) = some yzz) (h2 : f_X9_law o9 = some y') : yzz.1 = y'.1 ∧ TF (pl ++ [czz]) yzz.2.1 (sI z1.2.1 2 0) yzz.2.2 o5zz o8zz o6 o11 y'.2 im0 im1 := by
  have fzz := fr_f_X9_law h2
  obtain ⟨v', qzz, fq, kzz⟩ := glw h2
  obtain ⟨t1zz, t2zz, t3zz, t4zz⟩ := ht.2.2.2.2.2.2.1
  have r9 := t2zz.2.1
  obtain ⟨l, el⟩ : ∃ l : Nat, (gA o9 3 2).toInt = (l : Int) := ⟨(gA o9 3 2).toInt.toNat, by omega⟩
  have d1zz := cv_lt (a := (l : Int)) (b := 6) (by rw [r9.1]; exact el) (by decide) c1zz
  have hl : l < 6 := by omega
  rcases law9_eq el hl ⟨ht.1.1, ht.1.2, by rw [← ht.1.1]; exact hr.1, by rw [← ht.1.1]; exact hr.2⟩ ht.2.2.1.1 ht.2.2.1.2 ez1 h2 with ⟨b1, -⟩ | ⟨b1, b2, b3, b4, wzz, k1zz, k2zz, n, b5, b6, b7, b8, b9, b10, b11⟩
  · exact absurd b1 c2zz
  · obtain ⟨x1zz, x2zz, x3, x4zz, x5zz, x6⟩ := b8
    have xk1 := x1zz.2.2.2.2.1
    have hk2 : k2zz ≤ 400 := x1zz.2.2.2.2.2.2.2.1
    have hk1 : k1zz ≤ 400 := by
      have q1zz := x1zz.2.2.2.2.2.2.1
      obtain ⟨u1zz, -, -, -, azz, bzz, ua, ubzz, uab, ub13, -⟩ := x1zz.1
      have q2zz := u1zz.2.2.2
      omega
    obtain ⟨p1zz, p2zz, p3zz, p4zz⟩ := kept_d x3 xk1 eoc
    have lw : LwE oc (gA y'.2 3) l := by
      refine ⟨n, k1zz, k2zz, b7, hk1, hk2, by rw [p3zz]; exact x3, by rw [p4zz]; exact xk1, b9, fun mzz hmzz => (x6 mzz hmzz).mv (fun izz hizz => p1zz izz hizz mzz hmzz) p2zz (fun izz hizz => ?_) (fun jzz hj => ?_) (Nat.le_refl _) (Nat.le_refl _)⟩
      · show gA y'.2 3 (84 + 900 * l + 2 + (8 * mzz + izz)) = gA wzz 22 (8 * mzz + izz)
        exact b10 (8 * mzz + izz) (by omega)
      · show gA y'.2 3 (84 + 900 * l + 98 + 2 * jzz) = gA wzz 24 jzz ∧ gA y'.2 3 (84 + 900 * l + 98 + 2 * jzz + 1) = gA wzz 25 jzz
        exact b11 jzz hj
    unfold f_X8_law_b at ey
    obtain ⟨z3, k3zz, ey⟩ := z_bd ey
    obtain ⟨z4, k4zz, ey⟩ := z_bd ey
    have ey := Option.some.inj ey
    unfold f_X2_addLaw_Q at k3zz
    have k3zz := (z_gd (z_gd (z_t k3zz c1zz)).2).2
    obtain ⟨m3zz, g3zz, k3zz⟩ := z_lt k3zz
    obtain ⟨m4zz, g4, k3zz⟩ := z_lt k3zz
    have k3zz := Option.some.inj k3zz
    have il : (gI o4zz 9).toNatClampNeg = l := tnc_eq (by rw [r9.1]; exact el)
    rw [il] at g3zz
    have v4zz : m4zz = sI (tR o4zz 6 l (some czz.1)) 9 (gI o4zz 9 + 1) := by rw [g4, g3zz]; rfl
    have el1 : (gA o9 3 2 + 1).toInt = (l : Int) + 1 := i32_add el (by decide) (by omega) (by omega)
    have ez31 : z3.1 = gA o9 3 2 := by
      rw [← k3zz]
      show gI m4zz 9 - 1 = _
      rw [v4zz]
      show (gI o4zz 9 + 1) - 1 = _
      rw [r9.1]
      exact Int32.toInt_inj.mp (by rw [i32_sub el1 (by decide : (1 : Int32).toInt = 1) (by omega) (by omega), el]; omega)
    have ez32 : z3.2 = m4zz := by rw [← k3zz]
    have evzz : v' = gA o9 3 2 := (tell_3 kzz).1.symm.trans b2
    rw [evzz] at kzz
    rw [ez31] at k4zz
    have sq : StT o0zz qzz := ht.2.2.2.1.eq rfl rfl (fq.I 1 rfl) (fq.A 2 rfl)
    obtain ⟨s1zz, s2zz, s3zz⟩ := st_grant sq (by rw [el]; omega) k4zz kzz
    have fg := fr_f_X8_grant k4zz
    have fnd := pfind_new hfr
    have Ezz : ∀ jzz, jzz ≠ 2 → jzz < 84 + 900 * l → gA y'.2 3 jzz = gA o9 3 jzz := fun jzz hzz h' => b4 jzz hzz (Or.inl h')
    have E0zz : gA y'.2 3 0 = gA o9 3 0 := Ezz 0 (by omega) (by omega)
    obtain ⟨⟨h1', h2'⟩, h3, ⟨h4, h4'⟩, h5, h6, h7, -, h9, h10⟩ := ht
    rw [← ey]
    refine ⟨s1zz.trans s2zz.symm, ⟨(law9_13 h2).symm, ?_⟩, by rw [fg.I 13 rfl, fzz.I 11 rfl]; exact h3, ⟨h4.eq (fzz.M 31 rfl) (fzz.M 32 rfl), h4'.eq2 (fzz.M 33 rfl) (fzz.M 54 rfl)⟩, s3zz, by rw [fg.I 14 rfl, fzz.I 58 rfl]; exact h6, h7.eq (fzz.I 62 rfl) (fzz.A 61 rfl), ⟨?_, ?_, t3zz.ext (fun _ _ => rfl) (fun _ _ => rfl) rfl rfl rfl (fun jzz j1 j2zz => Ezz jzz (by omega) (by omega)), fun jzz hj => ?_⟩, ?_, h10.app.eq (fg.R 7 rfl) (fzz.A 5 rfl) (fzz.A 4 rfl)⟩
    · show gA z1.2.1 0 = gA y'.2 12
      rw [eT, fzz.A 12 rfl]; exact h2'
    · rw [ez32, v4zz]
      exact t1zz.eq rfl rfl rfl rfl rfl (fun jzz hj => Ezz jzz (by omega) (by omega))
    · rw [ez32, v4zz]
      obtain ⟨v1zz, v2, v3, v4', v5, v6⟩ := t2zz
      refine ⟨⟨by rw [E0zz]; exact v1zz.1, fun jzz hj => by rw [Ezz (36 + jzz) (by omega) (by omega)]; exact v1zz.2.1 jzz hj, by rw [Ezz 6 (by omega) (by omega)]; exact v1zz.2.2⟩, ⟨by rw [b3, ← r9.1]; rfl, by rw [b3, el1]; omega, by rw [b3, el1]; omega⟩, ⟨by rw [Ezz 3 (by omega) (by omega)]; exact v3.1, by rw [Ezz 3 (by omega) (by omega)]; exact v3.2.1, by rw [Ezz 3 (by omega) (by omega), b3, el1]; have := v3.2.2; omega⟩, by rw [Ezz 5 (by omega) (by omega)]; exact v4', fun jzz hj => by rw [Ezz (71 + 2 * jzz) (by omega) (by omega), Ezz (72 + 2 * jzz) (by omega) (by omega)]; exact v5 jzz hj, fun izz hizz => ?_⟩
      rw [b3, el1] at hizz
      by_cases c0zz : izz = l
      · rw [c0zz]
        refine ⟨czz.1, czz, ?_, fnd, by rw [ecc]; exact lw⟩
        show (if l = l then some czz.1 else gR o4zz 6 l) = some czz.1
        rw [if_pos rfl]
      · obtain ⟨aa, cc, r1zz, r2, r3⟩ := v6 izz (by omega)
        refine ⟨aa, cc, ?_, pfind_app r2, r3.loc (fun jzz j1 j2zz => b4 jzz (by omega) (by omega))⟩
        show (if izz = l then some czz.1 else gR o4zz 6 izz) = some aa
        rw [if_neg c0zz]; exact r1zz
    · have g0 := t2zz.1.1.2.1
      rw [E0zz] at hj
      rw [Ezz jzz (by omega) (by omega)]
      exact t4zz jzz hj
    · rw [E0zz]
      exact h9.cell (fzz.I 8 rfl) (fzz.A 6 rfl) (fzz.A 7 rfl) (fun jzz hj => Ezz jzz (by omega) (by omega))
set_option maxHeartbeats 200000 in
theorem tf_law_bad {pl : List CR} {o0zz o1 o2 o4zz o5zz o8zz o6 o11 o9 : Ob} {im0 im1 : Option IR} {z1 : Int32 × Ob × Ob} {z3 : Int32 × Ob} {y' : Int32 × Ob} (ht : TF pl o0zz o1 o4zz o5zz o8zz o6 o11 o9 im0 im1) (hr : 0 ≤ (gI o1 2).toInt ∧ (gI o1 2).toInt ≤ 400) (c1zz : gI o4zz 9 < (6 : Int32)) (ez1 : f_X6_readText 12 400 o1 o2 1 = some z1) (c2zz : z1.1 = 0) (eT : gA z1.2.1 0 = gA o1 0) (k3zz : f_X8_refuse o0zz (-6) = some z3) (h2 : f_X9_law o9 = some y') : z3.1 = y'.1 ∧ TF pl z3.2 (sI z1.2.1 2 0) o4zz o5zz o8zz o6 o11 y'.2 im0 im1 := by
  have r9 := ht.2.2.2.2.2.2.1.2.1.2.1
  obtain ⟨l, el⟩ : ∃ l : Nat, (gA o9 3 2).toInt = (l : Int) := ⟨(gA o9 3 2).toInt.toNat, by omega⟩
  have d1zz := cv_lt (a := (l : Int)) (b := 6) (by rw [r9.1]; exact el) (by decide) c1zz
  rcases law9_eq el (by omega) ⟨ht.1.1, ht.1.2, by rw [← ht.1.1]; exact hr.1, by rw [← ht.1.1]; exact hr.2⟩ ht.2.2.1.1 ht.2.2.1.2 ez1 h2 with ⟨b1, b2, b3, -⟩ | ⟨b1, -⟩
  · exact tf_law_no ht (Or.inr rfl) k3zz h2 b2 b3 (by show gA z1.2.1 0 = gA o1 0; exact eT) rfl
  · rw [c2zz] at b1; exact absurd b1 (by decide)
set_option maxHeartbeats 200000 in
theorem tf_law_full {pl : List CR} {o0zz o1 o4zz o5zz o8zz o6 o11 o9 : Ob} {im0 im1 : Option IR} {z3 : Int32 × Ob} {y' : Int32 × Ob} (ht : TF pl o0zz o1 o4zz o5zz o8zz o6 o11 o9 im0 im1) (c1zz : ¬ gI o4zz 9 < (6 : Int32)) (k3zz : f_X8_refuse o0zz (-5) = some z3) (h2 : f_X9_law o9 = some y') : z3.1 = y'.1 ∧ TF pl z3.2 (sI o1 2 0) o4zz o5zz o8zz o6 o11 y'.2 im0 im1 := by
  have r9 := ht.2.2.2.2.2.2.1.2.1.2.1
  have d1zz := cv_nlt (a := (gA o9 3 2).toInt) (b := 6) (by rw [r9.1]) (by decide) c1zz
  have h6 : gA o9 3 2 = 6 := Int32.toInt_inj.mp (by rw [(by decide : (6 : Int32).toInt = 6)]; omega)
  obtain ⟨b1, b2, -⟩ := law9_full h6 h2
  exact tf_law_no ht (Or.inl rfl) k3zz h2 b1 b2 rfl rfl
set_option maxHeartbeats 200000 in
theorem TzI.loc {pl : List CR} {isl isl' : Ob} {Gzz G' : Nat → Int32} (hzz : TzI pl isl Gzz) (i7zz : gI isl' 7 = gI isl 7) (i9zz : gI isl' 9 = gI isl 9) (i10zz : gI isl' 10 = gI isl 10) (i11zz : gI isl' 11 = gI isl 11) (i12zz : gI isl' 12 = gI isl 12) (a2 : ∀ jzz, jzz < 28 → gA isl' 2 jzz = gA isl 2 jzz) (a4 : ∀ jzz, jzz < 6 → gA isl' 4 jzz = gA isl 4 jzz) (a5 : ∀ jzz, jzz < 6 → gA isl' 5 jzz = gA isl 5 jzz) (aR : ∀ jzz, jzz < 6 → gR isl' 6 jzz = gR isl 6 jzz)
    (eg : ∀ jzz, jzz < 5484 → G' jzz = Gzz jzz) : TzI pl isl' G' := by
  have e0zz : G' 0 = Gzz 0 := eg 0 (by omega)
  have e2zz : G' 2 = Gzz 2 := eg 2 (by omega)
  have e3zz : G' 3 = Gzz 3 := eg 3 (by omega)
  have e5zz : G' 5 = Gzz 5 := eg 5 (by omega)
  have e6zz : G' 6 = Gzz 6 := eg 6 (by omega)
  unfold TzI WiL
  rw [e0zz, e2zz, e3zz, e5zz, e6zz, i7zz, i9zz, i10zz, i11zz, i12zz]
  refine ⟨⟨hzz.1.1, fun jzz hj => ?_, hzz.1.2.2⟩, hzz.2.1, hzz.2.2.1, hzz.2.2.2.1, fun jzz hj => ?_, fun l hl => ?_⟩
  · rw [a2 jzz hj, eg (36 + jzz) (by omega)]; exact hzz.1.2.1 jzz hj
  · rw [a4 jzz hj, a5 jzz hj, eg (71 + 2 * jzz) (by omega), eg (72 + 2 * jzz) (by omega)]; exact hzz.2.2.2.2.1 jzz hj
  · obtain ⟨azz, czz, r1zz, r2, r3⟩ := hzz.2.2.2.2.2 l hl
    have := hzz.2.1.2.2
    exact ⟨azz, czz, by rw [aR l (by omega)]; exact r1zz, r2, r3.loc (fun jzz j1 j2zz => eg jzz (by omega))⟩
set_option maxHeartbeats 200000 in
theorem Tia.cp {pl pl' : List CR} {oi onzz a0zz a0n : Ob} {zzz : Ob × Ob} {Gzz G' : Nat → Int32} (hzz : f_X2_set_O oi onzz pl' a0zz a0n = some zzz) (ht : Tia pl a0zz a0n Gzz) (eg : ∀ jzz, jzz < 5484 → G' jzz = Gzz jzz) : Tia pl zzz.1 zzz.2 G' := by
  obtain ⟨s1zz, ⟨s7, s8, s9, s10, s11, s12⟩, r1zz, r2, r3, r4, r5zz, rR⟩ := setIsl hzz
  obtain ⟨m0zz, m1zz, m2zz, m3zz, m4zz⟩ := setM s1zz
  obtain ⟨t1zz, t2zz, t3zz, t4zz⟩ := ht
  refine ⟨Tis.cp hzz t1zz (fun jzz hj => eg jzz (by omega)), t2zz.loc s7 s9 s10 s11 s12 r2 r4 r5zz rR eg, t3zz.ext m0zz m1zz m2zz m3zz m4zz (fun jzz j1 j2zz => eg jzz (by omega)), fun jzz hj => ?_⟩
  have g0 := t2zz.1.1.2.1
  rw [eg 0 (by omega)] at hj
  rw [eg jzz (by omega)]
  exact t4zz jzz hj
set_option maxHeartbeats 200000 in
theorem Tia.loc {pl : List CR} {isl mv : Ob} {Gzz G' : Nat → Int32} (hzz : Tia pl isl mv Gzz) (eg : ∀ jzz, jzz < 5484 → G' jzz = Gzz jzz) : Tia pl isl mv G' := by
  obtain ⟨t1zz, t2zz, t3zz, t4zz⟩ := hzz
  refine ⟨t1zz.eq rfl rfl rfl rfl rfl (fun jzz hj => eg jzz (by omega)), t2zz.loc rfl rfl rfl rfl rfl (fun _ _ => rfl) (fun _ _ => rfl) (fun _ _ => rfl) (fun _ _ => rfl) eg, t3zz.ext (fun _ _ => rfl) (fun _ _ => rfl) rfl rfl rfl (fun jzz j1 j2zz => eg jzz (by omega)), fun jzz hj => ?_⟩
  have g0 := t2zz.1.1.2.1
  rw [eg 0 (by omega)] at hj
  rw [eg jzz (by omega)]
  exact t4zz jzz hj
set_option maxHeartbeats 200000 in
theorem TslF.put {pl : List CR} {o0' o9 o9' : Ob} {kzz : Nat} {gzz : Nat → Option Nat} {rzz : IR} (e0zz : ∀ jzz, gR o0' 7 jzz = if jzz = kzz then some rzz.1 else gzz jzz) (e5zz : ∀ jzz, gA o9' 5 jzz = if jzz = kzz then 1 else gA o9 5 jzz) (ht : Tia pl rzz.2.2.2.2.2.2.1 rzz.2.2.2.2.2.2.2 (fun jzz => gA o9' 4 (5484 * kzz + jzz))) : TslF pl o0' o9' kzz (some rzz) := by
  refine ⟨(fun qzz => by cases qzz), fun r' qzz => ?_⟩
  rw [← Option.some.inj qzz]
  exact ⟨by rw [e0zz, if_pos rfl], by rw [e5zz, if_pos rfl]; decide, ht⟩
set_option maxHeartbeats 200000 in
theorem TslF.oth {pl : List CR} {o0zz o9 o0' o9' : Ob} {kzz k' : Nat} {azz : Option Nat} {im : Option IR} (hzz : TslF pl o0zz o9 k' im) (hk : kzz < 2) (hk' : k' < 2) (hn : k' ≠ kzz) (e0zz : ∀ jzz, gR o0' 7 jzz = if jzz = kzz then azz else gR o0zz 7 jzz) (e5zz : ∀ jzz, gA o9' 5 jzz = if jzz = kzz then 1 else gA o9 5 jzz) (e4zz : ∀ jzz, jzz < 5484 * kzz ∨ 5484 * kzz + 5484 ≤ jzz → gA o9' 4 jzz = gA o9 4 jzz) : TslF pl o0' o9' k' im := by
  refine ⟨fun qzz => ?_, fun rzz qzz => ?_⟩
  · rw [e0zz, if_neg hn, e5zz, if_neg hn]; exact hzz.1 qzz
  · obtain ⟨a1zz, a2, a3⟩ := hzz.2 rzz qzz
    rw [e0zz, if_neg hn, e5zz, if_neg hn]
    exact ⟨a1zz, a2, a3.loc (fun jzz hj => e4zz (5484 * k' + jzz) (by omega))⟩
set_option maxHeartbeats 200000 in
theorem TimF.put0 {pl : List CR} {o0zz o9 o0' o9' : Ob} {kzz : Nat} {im0 im1 : Option IR} {rzz : IR} (hk : kzz < 2) (ta : TslF pl o0zz o9 kzz im0) (tbzz : TslF pl o0zz o9 (1 - kzz) im1) (e0zz : ∀ jzz, gR o0' 7 jzz = if jzz = kzz then some rzz.1 else gR o0zz 7 jzz) (e5zz : ∀ jzz, gA o9' 5 jzz = if jzz = kzz then 1 else gA o9 5 jzz) (e4zz : ∀ jzz, jzz < 5484 * kzz ∨ 5484 * kzz + 5484 ≤ jzz → gA o9' 4 jzz = gA o9 4 jzz) (ht : Tia pl rzz.2.2.2.2.2.2.1 rzz.2.2.2.2.2.2.2 (fun jzz => gA o9' 4 (5484 * kzz + jzz))) : TimF pl o0' o9' (some rzz) im1 :=
  ⟨kzz, hk, TslF.put e0zz e5zz ht, tbzz.oth hk (by omega) (by omega) e0zz e5zz e4zz⟩
set_option maxHeartbeats 200000 in
theorem TimF.put1 {pl : List CR} {o0zz o9 o0' o9' : Ob} {kzz : Nat} {im0 im1 : Option IR} {rzz : IR} (hk : kzz < 2) (ta : TslF pl o0zz o9 (1 - kzz) im0) (tbzz : TslF pl o0zz o9 kzz im1) (e0zz : ∀ jzz, gR o0' 7 jzz = if jzz = kzz then some rzz.1 else gR o0zz 7 jzz) (e5zz : ∀ jzz, gA o9' 5 jzz = if jzz = kzz then 1 else gA o9 5 jzz) (e4zz : ∀ jzz, jzz < 5484 * kzz ∨ 5484 * kzz + 5484 ≤ jzz → gA o9' 4 jzz = gA o9 4 jzz) (ht : Tia pl rzz.2.2.2.2.2.2.1 rzz.2.2.2.2.2.2.2 (fun jzz => gA o9' 4 (5484 * kzz + jzz))) : TimF pl o0' o9' im0 (some rzz) := by
  have ezz : 1 - (1 - kzz) = kzz := by omega
  exact ⟨1 - kzz, by omega, ta.oth hk (by omega) (by omega) e0zz e5zz e4zz, by rw [ezz]; exact TslF.put e0zz e5zz ht⟩
set_option maxHeartbeats 200000 in
theorem TimF.ik {pl : List CR} {o0zz o9 : Ob} {im0 im1 : Option IR} (hzz : TimF pl o0zz o9 im0 im1) (h2 : ∀ jzz, 2 ≤ jzz → gR o0zz 7 jzz = none) : IK (gR o0zz 7) im0 im1 := by
  obtain ⟨s, hs, azz, bzz⟩ := hzz
  exact IK.of ⟨s, hs, ⟨azz.1, fun rzz hr => ⟨(azz.2 rzz hr).1, (azz.2 rzz hr).2.1, (azz.2 rzz hr).2.2.1⟩⟩, bzz.1, fun rzz hr => ⟨(bzz.2 rzz hr).1, (bzz.2 rzz hr).2.1, (bzz.2 rzz hr).2.2.1⟩⟩ h2
def dIm : DD := ([0, 8], [], [3, 4, 5], [], [])
set_option maxHeartbeats 200000 in
theorem img_t {yzz : Int32 × Ob} {v1zz : Int32} : ∀ (Nzz : Nat) (v2 : Int32) (o : Ob), lp_X9_image_23 Nzz (v1zz, v2, o) = some yzz → ∃ qzz : Ob, FrX dIm o qzz ∧ f_X9_tell qzz 0 = some yzz := by
  intro Nzz
  induction Nzz with
  | zero => intro v2 o hzz; cases hzz
  | succ Nzz ihzz =>
    intro v2 o hzz
    have hzz : lb_X9_image_23 (lp_X9_image_23 Nzz) v1zz v2 o = some yzz := hzz
    unfold lb_X9_image_23 at hzz
    rcases z_if hzz with ⟨-, hzz⟩ | ⟨-, hzz⟩
    · have hzz := (z_gd hzz).2
      obtain ⟨qzz, gzz, hzz⟩ := z_lt hzz
      obtain ⟨zzz, kzz, hzz⟩ := z_bd hzz
      rw [← Option.some.inj hzz]
      exact ⟨qzz, by rw [gzz]; exact FrX.tA FrX.rf rfl, kzz⟩
    · have hzz := (z_gd (z_gd hzz).2).2
      obtain ⟨q1zz, g1, hzz⟩ := z_lt hzz
      obtain ⟨xzz, gx, hzz⟩ := z_lt hzz
      obtain ⟨qzz, fzz, kzz⟩ := ihzz xzz q1zz hzz
      exact ⟨qzz, (by rw [g1]; exact FrX.tA FrX.rf rfl : FrX dIm o q1zz).tr fzz, kzz⟩
set_option maxHeartbeats 200000 in
theorem bck_t {yzz : Int32 × Ob} {v1zz : Int32} : ∀ (Nzz : Nat) (v2 : Int32) (o : Ob), lp_X9_back_39 Nzz (v1zz, v2, o) = some yzz → ∃ qzz : Ob, FrX dIm o qzz ∧ gI qzz 8 = 0 ∧ f_X9_tell qzz 0 = some yzz := by
  intro Nzz
  induction Nzz with
  | zero => intro v2 o hzz; cases hzz
  | succ Nzz ihzz =>
    intro v2 o hzz
    have hzz : lb_X9_back_39 (lp_X9_back_39 Nzz) v1zz v2 o = some yzz := hzz
    unfold lb_X9_back_39 at hzz
    rcases z_if hzz with ⟨-, hzz⟩ | ⟨-, hzz⟩
    · obtain ⟨zzz, kzz, hzz⟩ := z_bd hzz
      unfold f_X9_settled at kzz
      have kzz := z_t kzz (by decide)
      unfold bk_X9_settled_13 at kzz
      obtain ⟨q2zz, g2, kzz⟩ := z_lt kzz
      obtain ⟨z2, k2zz, kzz⟩ := z_bd kzz
      refine ⟨q2zz, by rw [g2]; exact FrX.sI FrX.rf rfl, by rw [g2]; rfl, ?_⟩
      rw [k2zz, ← Option.some.inj hzz, ← Option.some.inj kzz]
    · have hzz := (z_gd (z_gd hzz).2).2
      obtain ⟨q1zz, g1, hzz⟩ := z_lt hzz
      obtain ⟨xzz, gx, hzz⟩ := z_lt hzz
      obtain ⟨qzz, fzz, e8, kzz⟩ := ihzz xzz q1zz hzz
      exact ⟨qzz, (by rw [g1]; exact FrX.tA FrX.rf rfl : FrX dIm o q1zz).tr fzz, e8, kzz⟩
set_option maxHeartbeats 200000 in
theorem tf_img_no {pl : List CR} {o0zz o1 o4zz o5zz o8zz o6 o11 o9 : Ob} {im0 im1 : Option IR} {pzz : Int32} {zzz y' : Int32 × Ob} (ht : TF pl o0zz o1 o4zz o5zz o8zz o6 o11 o9 im0 im1) (hp : ¬ (0 ≤ pzz.toInt ∧ pzz.toInt ≤ 1)) (k1zz : f_X8_refuse o0zz (-1) = some zzz) (h2 : f_X9_image o9 pzz = some y') : zzz.1 = y'.1 ∧ TF pl zzz.2 o1 o4zz o5zz o8zz o6 o11 y'.2 im0 im1 := by
  unfold f_X9_image at h2
  obtain ⟨q1zz, g1, h2⟩ := z_lt h2
  have ht1 : TF pl o0zz o1 o4zz o5zz o8zz o6 o11 q1zz im0 im1 := by rw [g1]; exact ht.sI0
  obtain ⟨w2zz, l2, h2⟩ := z_bd h2
  rcases in9 (m := 0) (n := 1) (by decide) (by decide) l2 with ⟨uzz, -⟩ | ⟨-, uzz⟩
  · obtain ⟨wzz, l, h2⟩ := z_bd (z_t h2 uzz)
    rw [← Option.some.inj h2]
    exact ht1.no (Or.inl rfl) k1zz l
  · exact absurd uzz hp
set_option maxHeartbeats 200000 in
theorem tf_img_ok {pl : List CR} {o0zz oz o1 o4zz o5zz o8zz o6 o11 o9 : Ob} {im0 im1 im0' im1' : Option IR} {pzz : Int32} {zzz y' : Int32 × Ob} (ht : TF pl o0zz o1 o4zz o5zz o8zz o6 o11 o9 im0 im1) (hp : 0 ≤ pzz.toInt ∧ pzz.toInt ≤ 1) (ez : (∀ izz, gI oz izz = gI o0zz izz) ∧ ∀ izz, gA oz izz = gA o0zz izz) (k1zz : f_X8_grant oz 0 = some zzz) (h2 : f_X9_image o9 pzz = some y') (tm : TimF pl zzz.2 y'.2 im0' im1') : zzz.1 = y'.1 ∧ TF pl zzz.2 o1 o4zz o5zz o8zz o6 o11 y'.2 im0' im1' := by
  have fzz := fr_f_X9_image h2
  unfold f_X9_image at h2
  obtain ⟨q1zz, g1, h2⟩ := z_lt h2
  obtain ⟨w2zz, l2, h2⟩ := z_bd h2
  rcases in9 (m := 0) (n := 1) (by decide) (by decide) l2 with ⟨-, uzz⟩ | ⟨uzz, -⟩
  · exact absurd hp uzz
  · obtain ⟨qzz, fq, kzz⟩ := img_t zfu 0 q1zz (z_f h2 uzz)
    have sq : StT oz qzz := ht.2.2.2.1.eq (ez.1 12) (ez.2 11) (by rw [fq.I 1 rfl, g1]; rfl) (by rw [fq.A 2 rfl, g1]; rfl)
    obtain ⟨s1zz, s2zz, s3zz⟩ := st_grant sq (by decide) k1zz kzz
    have fg := fr_f_X8_grant k1zz
    obtain ⟨⟨h1', h2'⟩, h3, ⟨h4, h4'⟩, h5, h6, h7, h8, h9, -⟩ := ht
    exact ⟨s1zz.trans s2zz.symm, ⟨by rw [fzz.I 13 rfl]; exact h1', by rw [fzz.A 12 rfl]; exact h2'⟩, by rw [fg.I 13 rfl, ez.1 13, fzz.I 11 rfl]; exact h3, ⟨h4.eq (fzz.M 31 rfl) (fzz.M 32 rfl), h4'.eq2 (fzz.M 33 rfl) (fzz.M 54 rfl)⟩, s3zz, by rw [fg.I 14 rfl, ez.1 14, fzz.I 58 rfl]; exact h6, h7.eq (fzz.I 62 rfl) (fzz.A 61 rfl), by rw [fzz.A 3 rfl]; exact h8, by rw [fzz.A 3 rfl]; exact h9.eq (fzz.I 8 rfl) (fzz.A 6 rfl) (fzz.A 7 rfl), tm⟩
set_option maxHeartbeats 200000 in
theorem tf_backN {pl : List CR} {o0zz o1 o4zz o5zz o8zz o6 o11 o9 : Ob} {im0 im1 : Option IR} {pzz : Int32} {yzz y' : Int32 × Ob} (ht : TF pl o0zz o1 o4zz o5zz o8zz o6 o11 o9 im0 im1) (h1 : f_X8_back_N o0zz pzz = some yzz) (h2 : f_X9_back o9 pzz = some y') (qzz : gR o0zz 7 pzz.toNatClampNeg = none) : yzz.1 = y'.1 ∧ TF pl yzz.2 o1 o4zz o5zz o8zz o6 o11 y'.2 im0 im1 := by
  unfold f_X9_back at h2
  obtain ⟨q1zz, g1, h2⟩ := z_lt h2
  have ht1 : TF pl o0zz o1 o4zz o5zz o8zz o6 o11 q1zz im0 im1 := by rw [g1]; exact ht.sI0
  obtain ⟨w2zz, l2, h2⟩ := z_bd h2
  have i9zz := in9 (m := 0) (n := 1) (by decide) (by decide) l2
  have no : ¬ (0 ≤ pzz.toInt ∧ pzz.toInt ≤ 1) → bk_X8_back_N_9 o0zz = some yzz → yzz.1 = y'.1 ∧ TF pl yzz.2 o1 o4zz o5zz o8zz o6 o11 y'.2 im0 im1 := by
    intro hp h1
    unfold bk_X8_back_N_9 at h1
    obtain ⟨zzz, kzz, h1⟩ := z_bd h1
    rcases i9zz with ⟨uzz, -⟩ | ⟨-, uzz⟩
    · obtain ⟨wzz, l, h2⟩ := z_bd (z_t h2 uzz)
      rw [← Option.some.inj h1, ← Option.some.inj h2]
      exact ht1.no (Or.inl rfl) kzz l
    · exact absurd uzz hp
  unfold f_X8_back_N at h1
  by_cases c1zz : pzz < (0 : Int32)
  · exact no (by have czz := cv_lt (a := pzz.toInt) (b := 0) rfl (by decide) c1zz; omega) (z_t h1 c1zz)
  have h1 := z_f h1 c1zz
  by_cases c2zz : pzz < (2 : Int32)
  · have d1zz := cv_nlt (a := pzz.toInt) (b := 0) rfl (by decide) c1zz
    have d2zz := cv_lt (a := pzz.toInt) (b := 2) rfl (by decide) c2zz
    obtain ⟨zzz, kzz, h1⟩ := z_bd (z_gd (z_t h1 c2zz)).2
    rcases i9zz with ⟨-, uzz⟩ | ⟨uzz, -⟩
    · exact absurd ⟨d1zz, by omega⟩ uzz
    · have h2 := (z_gd (z_f h2 uzz)).2
      obtain ⟨k', ek⟩ : ∃ k' : Nat, pzz.toInt = (k' : Int) := ⟨pzz.toInt.toNat, by omega⟩
      have ik : pzz.toNatClampNeg = k' := tnc_eq ek
      rw [ik] at h2 qzz
      have z5 : gA q1zz 5 k' = 0 := by
        obtain ⟨s, hs, ta, tbzz⟩ := ht1.2.2.2.2.2.2.2.2
        rcases (show k' = s ∨ k' = 1 - s by omega) with ezz | ezz
        · rw [ezz] at qzz ⊢
          rcases opt_c im0 with e0zz | ⟨rzz, e0zz⟩
          · exact (ta.1 e0zz).2
          · rw [(ta.2 rzz e0zz).1] at qzz; cases qzz
        · rw [ezz] at qzz ⊢
          rcases opt_c im1 with e0zz | ⟨rzz, e0zz⟩
          · exact (tbzz.1 e0zz).2
          · rw [(tbzz.2 rzz e0zz).1] at qzz; cases qzz
      obtain ⟨wzz, l, h2⟩ := z_bd (z_t h2 z5)
      rw [← Option.some.inj h1, ← Option.some.inj h2]
      exact ht1.no (Or.inr (Or.inl rfl)) kzz l
  · exact no (by have czz := cv_nlt (a := pzz.toInt) (b := 2) rfl (by decide) c2zz; omega) (z_f h1 c2zz)
set_option maxHeartbeats 200000 in
theorem tf_backO {pl : List CR} {o0zz o1 o4zz o5zz o8zz o6 o11 o9 : Ob} {im0 im1 : Option IR} {rzz : IR} {pzz : Int32} {yzz : Int32 × Ob × Ob × Ob × Ob} {y' : Int32 × Ob} (ht : TF pl o0zz o1 o4zz o5zz o8zz o6 o11 o9 im0 im1) (h1 : f_X8_back_O o0zz o4zz o5zz o11 pl rzz.2.2.2.2.2.2.1 rzz.2.2.2.2.2.2.2 pzz = some yzz) (h2 : f_X9_back o9 pzz = some y') (h5 : ¬ gA o9 5 pzz.toNatClampNeg = 0) (hr : Tia pl rzz.2.2.2.2.2.2.1 rzz.2.2.2.2.2.2.2 (fun jzz => gA o9 4 (5484 * pzz.toNatClampNeg + jzz))) : yzz.1 = y'.1 ∧ TF pl yzz.2.1 o1 yzz.2.2.1 yzz.2.2.2.1 o8zz o6 yzz.2.2.2.2 y'.2 im0 im1 := by
  have fzz := fr_f_X9_back h2
  have h2c := h2
  unfold f_X9_back at h2
  obtain ⟨q1zz, g1, h2⟩ := z_lt h2
  have ht1 : TF pl o0zz o1 o4zz o5zz o8zz o6 o11 q1zz im0 im1 := by rw [g1]; exact ht.sI0
  obtain ⟨w2zz, l2, h2⟩ := z_bd h2
  have i9zz := in9 (m := 0) (n := 1) (by decide) (by decide) l2
  have no : ¬ (0 ≤ pzz.toInt ∧ pzz.toInt ≤ 1) → bk_X8_back_O_9 pl rzz.2.2.2.2.2.2.1 rzz.2.2.2.2.2.2.2 o0zz o4zz o5zz o11 = some yzz → yzz.1 = y'.1 ∧ TF pl yzz.2.1 o1 yzz.2.2.1 yzz.2.2.2.1 o8zz o6 yzz.2.2.2.2 y'.2 im0 im1 := by
    intro hp h1
    unfold bk_X8_back_O_9 at h1
    obtain ⟨zzz, kzz, h1⟩ := z_bd h1
    rcases i9zz with ⟨uzz, -⟩ | ⟨-, uzz⟩
    · obtain ⟨wzz, l, h2⟩ := z_bd (z_t h2 uzz)
      rw [← Option.some.inj h1, ← Option.some.inj h2]
      exact ht1.no (Or.inl rfl) kzz l
    · exact absurd uzz hp
  unfold f_X8_back_O at h1
  by_cases c1zz : pzz < (0 : Int32)
  · exact no (by have czz := cv_lt (a := pzz.toInt) (b := 0) rfl (by decide) c1zz; omega) (z_t h1 c1zz)
  have h1 := z_f h1 c1zz
  by_cases c2zz : pzz < (2 : Int32)
  · have d1zz := cv_nlt (a := pzz.toInt) (b := 0) rfl (by decide) c1zz
    have d2zz := cv_lt (a := pzz.toInt) (b := 2) rfl (by decide) c2zz
    obtain ⟨z4, k4zz, h1⟩ := z_bd (z_gd (z_gd (z_t h1 c2zz)).2).2
    obtain ⟨z5, k5zz, h1⟩ := z_bd h1
    obtain ⟨z6, k6zz, h1⟩ := z_bd h1
    have h1 := Option.some.inj h1
    rcases i9zz with ⟨-, uzz⟩ | ⟨uzz, -⟩
    · exact absurd ⟨d1zz, by omega⟩ uzz
    · obtain ⟨k', ek⟩ : ∃ k' : Nat, pzz.toInt = (k' : Int) := ⟨pzz.toInt.toNat, by omega⟩
      have ik : pzz.toNatClampNeg = k' := tnc_eq ek
      rw [ik] at h5 hr
      obtain ⟨q3zz, q4zz, q5zz⟩ := back9 (k := k') h2c ek (by omega) h5
      have h2 := (z_gd (z_f h2 uzz)).2
      have h2 := z_f h2 (by rw [ik, g1]; exact h5)
      obtain ⟨qzz, fq, e8, kzz⟩ := bck_t zfu 0 q1zz h2
      have ec := clear_d k5zz
      have ft := fr_f_X9_tell kzz
      have sq : StT o0zz qzz := ht1.2.2.2.1.eq rfl rfl (fq.I 1 rfl) (fq.A 2 rfl)
      obtain ⟨s1zz, s2zz, s3zz⟩ := st_grant sq (by decide) k6zz kzz
      have fg := fr_f_X8_grant k6zz
      have hTzz := Tia.cp k4zz hr (G' := gA y'.2 3) (fun jzz hj => q3zz jzz hj)
      obtain ⟨⟨h1', h2'⟩, h3, ⟨h4, h4'⟩, h5', h6, h7, h8, h9, h10⟩ := ht
      rw [← h1]
      exact ⟨s1zz.trans s2zz.symm, ⟨by rw [fzz.I 13 rfl]; exact h1', by rw [fzz.A 12 rfl]; exact h2'⟩, by rw [fg.I 13 rfl, fzz.I 11 rfl]; exact h3, ⟨h4.eq (fzz.M 31 rfl) (fzz.M 32 rfl), h4'.eq2 (fzz.M 33 rfl) (fzz.M 54 rfl)⟩, s3zz, by rw [fg.I 14 rfl, fzz.I 58 rfl]; exact h6, h7.eq (fzz.I 62 rfl) (fzz.A 61 rfl), hTzz, PaT.emp ec.1 ec.2 ((ft.I 8 rfl).trans e8), h10.eq (fg.R 7 rfl) q5zz q4zz⟩
  · exact no (by have czz := cv_nlt (a := pzz.toInt) (b := 2) rfl (by decide) c2zz; omega) (z_f h1 c2zz)
set_option maxHeartbeats 200000 in
theorem image_b2 {o4zz o5zz : Ob} {pl : List CR} {o9 oi onzz : Ob} {yzz : Int32 × Ob × Ob × Ob} (hzz : f_X8_image_b o4zz o5zz pl o9 oi onzz = some yzz) : f_X8_grant o9 0 = some (yzz.1, yzz.2.1) ∧ f_X2_set_O oi onzz pl o4zz o5zz = some (yzz.2.2.1, yzz.2.2.2) := by
  unfold f_X8_image_b at hzz
  obtain ⟨z2, e2zz, hzz⟩ := z_bd hzz
  obtain ⟨z3, e3zz, hzz⟩ := z_bd hzz
  rw [← Option.some.inj hzz]
  exact ⟨e3zz, e2zz⟩
