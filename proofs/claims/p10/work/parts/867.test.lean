-- a number or a word
set_option maxHeartbeats 200000 in
theorem l32 {xzz : Int64} (h0 : 0 ≤ xzz.toInt) (h1 : xzz.toInt ≤ 10000009) : xzz.toInt32.toInt = xzz.toInt := by
  rw [Int64.toInt_toInt32]; exact Int.bmod_eq_of_le (by omega) (by omega)
set_option maxHeartbeats 200000 in
theorem leaf_no {o zzz : Ob} {p0zz p1zz p2zz : Int32} (h19 : gI o 19 = 0) (hn : p0zz = 0 ∨ 50 ≤ (gI o 26).toInt) (hzz : f_X9_leaf o p0zz p1zz p2zz = some zzz) : zzz = sI (sI o 19 1) 18 (gI o 14) := by
  unfold f_X9_leaf at hzz
  have h18 : bk_X9_leaf_18 p1zz p2zz o = some zzz → zzz = sI (sI o 19 1) 18 (gI o 14) := by
    intro hzz
    unfold bk_X9_leaf_18 bk_X9_leaf_19 at hzz
    obtain ⟨z1, ez, hzz⟩ := z_bd hzz
    have ezz := mu_no h19 ez
    have kzz : gI z1 19 = 1 := by rw [ezz]; rfl
    rw [← Option.some.inj (z_f hzz (by rw [kzz]; decide))]; exact ezz
  by_cases czz : p0zz = 0
  · exact h18 (z_t hzz czz)
  · rcases hn with qzz | qzz
    · exact absurd qzz czz
    · exact h18 (z_t (z_f hzz czz) (Int32.le_iff_toInt_le.mpr (by have : (50 : Int32).toInt = 50 := (by decide); omega)))
set_option maxHeartbeats 200000 in
theorem leaf_ok {o zzz : Ob} {p1zz p2zz : Int32} {k2zz : Nat} (h19 : gI o 19 = 0) (hn : (gI o 26).toInt < 50) (h0 : 0 ≤ (gI o 26).toInt) (ek : (gI o 23).toInt = (k2zz : Int)) (hk : k2zz ≤ 400) (hzz : f_X9_leaf o 1 p1zz p2zz = some zzz) : ∃ o1, f_X9_next o = some o1 ∧ (FR9 o o1 → RF o zzz ∧ ckp k2zz o zzz ∧ (gI zzz 23).toInt = (k2zz : Int) + 1 ∧ gI zzz 29 = gI o 29 ∧ gA zzz 24 k2zz = p1zz ∧ gA zzz 25 k2zz = p2zz ∧ k2zz < 400 ∧ gA zzz 27 = gA o 27 ∧ gA zzz 28 = gA o 28 ∧ gI zzz 30 = gI o 30 ∧ gI zzz 19 = 0 ∧ gI zzz 26 = gI o 26 + 1 ∧ gI zzz 14 = gI o1 14 ∧ gI zzz 15 = gI o1 15 ∧ gI zzz 16 = gI o1 16 ∧ gL zzz 17 = gL o1 17) := by
  unfold f_X9_leaf at hzz
  have hzz := z_f (z_f hzz (by decide)) (fun czz => by have czz := cv_le (a := 50) (b := (gI o 26).toInt) (by decide) rfl czz; omega)
  unfold bk_X9_leaf_19 at hzz
  obtain ⟨o1, ez, hzz⟩ := z_bd hzz
  have ez := mu_ok h19 (by decide) ez
  refine ⟨o1, ez, fun fzz => ?_⟩
  have k19 : gI o1 19 = 0 := (fzz.1 19 (by decide) (by decide) (by decide)).trans h19
  obtain ⟨z2, ez2, hzz⟩ := z_bd (z_t hzz k19)
  obtain ⟨o3zz, e3zz, hzz⟩ := z_lt hzz
  obtain ⟨g1, g2, g3zz, g4, g5zz, g6, g7⟩ := emit9 (czz := k2zz) (by rw [fzz.1 23 (by decide) (by decide) (by decide)]; exact ek) hk ez2
  have f3zz : RF z2 o3zz := by rw [e3zz]; exact ⟨fun izz _ _ _ _ _ _ azz _ _ => fset_ne azz, fun _ _ _ _ _ => rfl, rfl⟩
  rw [← Option.some.inj hzz]
  have kAzz : ∀ izz, izz ≠ 24 → izz ≠ 25 → gA o3zz izz = gA o izz := fun izz azz bzz => by
    have wzz : gA o3zz izz = gA z2 izz := by rw [e3zz]; rfl
    exact wzz.trans ((g1.2.2.1 izz azz bzz).trans (fzz.gA izz))
  have k26 : gI z2 26 = gI o 26 := (g1.1 26 (by decide) (by decide)).trans (fzz.1 26 (by decide) (by decide) (by decide))
  refine ⟨fzz.rr.tr (g1.rr.tr f3zz), fun jzz hj => ⟨?_, ?_⟩, by rw [e3zz]; exact g3zz, ?_, by rw [e3zz]; exact g5zz, by rw [e3zz]; exact g6, g7, kAzz 27 (by decide) (by decide), kAzz 28 (by decide) (by decide), ?_, ?_, ?_, ?_, ?_, ?_, ?_⟩
  · have wzz : gA o3zz 24 jzz = gA z2 24 jzz := by rw [e3zz]; rfl
    rw [wzz, (g2 jzz hj).1, fzz.gA 24]
  · have wzz : gA o3zz 25 jzz = gA z2 25 jzz := by rw [e3zz]; rfl
    rw [wzz, (g2 jzz hj).2, fzz.gA 25]
  · have wzz : gI o3zz 29 = gI z2 29 := by rw [e3zz]; rfl
    rw [wzz, g4]; exact fzz.1 29 (by decide) (by decide) (by decide)
  · have wzz : gI o3zz 30 = gI z2 30 := by rw [e3zz]; rfl
    rw [wzz, g1.1 30 (by decide) (by decide)]; exact fzz.1 30 (by decide) (by decide) (by decide)
  · have wzz : gI o3zz 19 = gI z2 19 := by rw [e3zz]; rfl
    rw [wzz, g1.1 19 (by decide) (by decide)]; exact k19
  · rw [e3zz]; show gI z2 26 + 1 = _; rw [k26]
  · have wzz : gI o3zz 14 = gI z2 14 := by rw [e3zz]; rfl
    rw [wzz]; exact g1.1 14 (by decide) (by decide)
  · have wzz : gI o3zz 15 = gI z2 15 := by rw [e3zz]; rfl
    rw [wzz]; exact g1.1 15 (by decide) (by decide)
  · have wzz : gI o3zz 16 = gI z2 16 := by rw [e3zz]; rfl
    rw [wzz]; exact g1.1 16 (by decide) (by decide)
  · have wzz : gL o3zz 17 = gL z2 17 := by rw [e3zz]; rfl
    rw [wzz]; exact congrFun g1.2.1 17
set_option maxHeartbeats 200000 in
/-- TT looks at the token alone -/
theorem TT.cg {rd o rd' o' : Ob} (hzz : TT rd o) (a2 : gI rd' 2 = gI rd 2) (aA : gA rd' 0 = gA rd 0) (a6 : gI rd' 6 = gI rd 6) (a7 : gI rd' 7 = gI rd 7) (a8 : gI rd' 8 = gI rd 8) (a9 : gI rd' 9 = gI rd 9) (b13 : gI o' 13 = gI o 13) (bA : gA o' 12 = gA o 12) (b14 : gI o' 14 = gI o 14) (b15 : gI o' 15 = gI o 15) (b16zz : gI o' 16 = gI o 16) (b17 : gL o' 17 = gL o 17) : TT rd' o' := by
  obtain ⟨⟨z1, z2, z3, z4⟩, e6zz, e7zz, e8, azz, bzz, ea, eb, hab, hbzz, hx⟩ := hzz
  refine ⟨⟨by rw [a2, b13]; exact z1, by rw [aA, bA]; exact z2, by rw [b13]; exact z3, by rw [b13]; exact z4⟩, by rw [a6, b16zz]; exact e6zz, by rw [a7, b14]; exact e7zz, by rw [a8, b15]; exact e8, azz, bzz, by rw [b14]; exact ea, by rw [b15]; exact eb, hab, by rw [b13]; exact hbzz, ?_⟩
  rw [b16zz, b13, bA, b17, a9]; exact hx
def Good1 (od : Bool) (rd oc o rd' oc' o' : Ob) (k1zz k2zz pzz bzz n k1' k2' : Nat) : Prop := PSt od rd' oc' o' k1' k2' pzz bzz ∧ RF o o' ∧ CF rd oc rd' oc' ∧ (∀ jzz, jzz < bzz → gA o' 27 jzz = gA o 27 jzz ∧ gA o' 28 jzz = gA o 28 jzz) ∧ gI o' 30 = gI o 30 ∧ (∀ jzz, jzz < k1zz → gA oc' 5 jzz = gA oc 5 jzz ∧ gA oc' 6 jzz = gA oc 6 jzz) ∧ ckp k2zz o o' ∧ (gI o' 26).toInt = (gI o 26).toInt + (n : Int) ∧ Sx od (gA oc' 5) (gA oc' 6) (gA o' 24) (gA o' 25) false k1zz k1' k2zz k2' n
set_option maxHeartbeats 200000 in
/-- what a leaf leaves: the class's reader has stepped (rd2), its code has one step more -/
theorem leaf_fin {od : Bool} {rd oc o rd2 oc2 o1 zo : Ob} {k1zz k2zz pzz bzz : Nat} {s wzz op arg : Int32} (hzz : PSt od rd oc o k1zz k2zz pzz bzz) (hTzz : TT rd2 o1) (f9zz : FR9 o o1) (c6zz : ∀ izz, izz ≠ 5 → izz ≠ 6 → izz ≠ 7 → izz ≠ 8 → izz ≠ 9 → gI rd2 izz = gI rd izz) (c62 : rd2.2 = rd.2) (c5zz : gI rd2 5 = gI rd 5 + 1) (hpos : ((k1zz + 1 + pzz : Nat) : Int) ≤ (gI o1 14).toInt) (h50 : (gI o 26).toInt < 50)
    (a1zz : (gI oc2 8).toInt = (k1zz : Int) + 1) (a2 : gA oc2 5 k1zz = s) (a3 : gA oc2 6 k1zz = wzz) (a4 : ∀ jzz, jzz ≠ k1zz → gA oc2 5 jzz = gA oc 5 jzz ∧ gA oc2 6 jzz = gA oc 6 jzz) (a5 : ∀ izz, izz ≠ 8 → gI oc2 izz = gI oc izz) (a6 : ∀ izz, izz ≠ 5 → izz ≠ 6 → gA oc2 izz = gA oc izz)
    (hz : RF o zo ∧ ckp k2zz o zo ∧ (gI zo 23).toInt = (k2zz : Int) + 1 ∧ gI zo 29 = gI o 29 ∧ gA zo 24 k2zz = op ∧ gA zo 25 k2zz = arg ∧ k2zz < 400 ∧ gA zo 27 = gA o 27 ∧ gA zo 28 = gA o 28 ∧ gI zo 30 = gI o 30 ∧ gI zo 19 = 0 ∧ gI zo 26 = gI o 26 + 1 ∧ gI zo 14 = gI o1 14 ∧ gI zo 15 = gI o1 15 ∧ gI zo 16 = gI o1 16 ∧ gL zo 17 = gL o1 17)
    (hs : (s = 0 ∧ op = 0 ∧ wzz = arg) ∨ (s = 1 ∧ WD od wzz op arg)) : Good1 od rd oc o rd2 oc2 zo k1zz k2zz pzz bzz 1 (k1zz + 1) (k2zz + 1) := by
  obtain ⟨-, h19, e5zz, hr, ek1, ek2, hp, eb, hbzz, hk2, hMzz⟩ := hzz
  obtain ⟨r1zz, r2, r3, r4, r5zz, r6, r7, r8, r9, r10, r11, r12, r13, r14, r15, r16⟩ := hz
  have t26 : (gI zo 26).toInt = (gI o 26).toInt + 1 := by rw [r12]; exact i32_add rfl (by decide) (by omega) (by omega)
  have cfzz : CF rd oc rd2 oc2 := ⟨fun izz _ azz bzz czz d ezz => c6zz izz azz bzz czz d ezz, c62, a5, a6⟩
  have k13 : gI zo 13 = gI o1 13 := (r1zz.1 13 (by decide) (by decide) (by decide) (by decide) (by decide) (by decide) (by decide) (by decide) (by decide)).trans (f9zz.1 13 (by decide) (by decide) (by decide)).symm
  have kAzz : gA zo 12 = gA o1 12 := (r1zz.2.1 12 (by decide) (by decide) (by decide) (by decide)).trans (f9zz.gA 12).symm
  refine ⟨⟨hTzz.cg rfl rfl rfl rfl rfl rfl k13 kAzz r13 r14 r15 r16, r11, by rw [c5zz, r12, e5zz], ⟨by omega, by omega⟩, by omega, by omega, by rw [r13]; omega, by rw [r4]; exact eb, hbzz, by omega, hMzz.fr cfzz r1zz⟩, r1zz, cfzz, fun jzz hj => by rw [r8, r9]; exact ⟨rfl, rfl⟩, r10, fun jzz hj => a4 jzz (by omega), r2, by rw [t26]; rfl, ?_⟩
  have cl := Sx.cl od (gA oc2 5) (gA oc2 6) (gA zo 24) (gA zo 25)
  rcases hs with ⟨s1zz, s2zz, s3zz⟩ | ⟨s1zz, s2zz⟩
  · exact cl.1 k1zz k2zz (by rw [a2]; exact s1zz) (by rw [r5zz]; exact s2zz) (by rw [a3, r6]; exact s3zz)
  · exact cl.2.1 k1zz k2zz (by rw [a2]; exact s1zz) (by rw [a3, r5zz, r6]; exact s2zz)
