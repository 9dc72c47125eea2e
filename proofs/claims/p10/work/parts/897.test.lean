-- what can be undone: the class's ring, the reference's rows
set_option maxHeartbeats 200000 in
theorem TzM.ext {mv mv' : Ob} {Gzz G' : Nat → Int32} (hzz : TzM mv Gzz) (a0zz : ∀ jzz, jzz < 7 → gA mv' 0 jzz = gA mv 0 jzz) (a1zz : ∀ jzz, jzz < 7 → gA mv' 1 jzz = gA mv 1 jzz) (i2zz : gI mv' 2 = gI mv 2) (i3zz : gI mv' 3 = gI mv 3) (i4zz : gI mv' 4 = gI mv 4) (eg : ∀ jzz, 4 ≤ jzz → jzz < 29 → G' jzz = Gzz jzz) : TzM mv' G' := by
  refine ⟨fun jzz hj => ?_, fun jzz hj => ?_, ?_, ?_, hzz.2.2.2.2.1.of i2zz (fun jzz h1 h2 => eg jzz (by omega) h2), by rw [i2zz]; exact hzz.2.2.2.2.2⟩
  · rw [a0zz jzz hj, eg _ (by omega) (by omega)]; exact hzz.1 jzz hj
  · rw [a1zz jzz hj, eg _ (by omega) (by omega)]; exact hzz.2.1 jzz hj
  · rw [i3zz, eg 7 (by omega) (by omega)]; exact hzz.2.2.1
  · rw [i4zz, eg 4 (by omega) (by omega)]; exact hzz.2.2.2.1
def mvAt (gzz : Nat → Int32) (bzz : Nat) : Ob := (fun izz => if izz = 2 then gzz (bzz + 14) else if izz = 3 then gzz (bzz + 15) else gzz (bzz + 16), fun _ => 0, fun izz jzz => if izz = 0 then gzz (bzz + jzz) else gzz (bzz + 7 + jzz), fun _ _ => 0, fun _ _ => none)
def unAt (uzz : Nat → Int32) (kzz : Nat) : Nat → Int32 := fun jzz => uzz (25 * kzz + (jzz - 4))
def RwS (n : Nat) (Gzz Uzz : Nat → Int32) : Prop := ∀ jzz, (jzz = 5 ∨ jzz = 6 ∨ (15 + n ≤ jzz ∧ jzz < 22) ∨ (22 + n ≤ jzz ∧ jzz < 29)) → Uzz jzz = Gzz jzz
def PaE (pa o : Ob) (n : Nat) (Gzz : Nat → Int32) (s izz : Nat) : Prop := gA pa 0 s = gA o 7 izz ∧ (0 ≤ (gA o 7 izz).toInt ∧ (gA o 7 izz).toInt ≤ 3) ∧ TzM (mvAt (gA pa 1) (17 * s)) (unAt (gA o 6) izz) ∧ RwS n Gzz (unAt (gA o 6) izz)
def PaT (pa o : Ob) (n : Nat) (Gzz : Nat → Int32) : Prop := gI pa 3 = gI o 8 ∧ ∃ sz fi : Nat, (gI pa 3).toInt = (sz : Int) ∧ sz ≤ 16 ∧ (gI pa 2).toInt = (fi : Int) ∧ fi < 16 ∧ ∀ izz, izz < sz → PaE pa o n Gzz ((fi + izz) % 16) izz
set_option maxHeartbeats 200000 in
theorem PaE.mv {pa pa' o o' : Ob} {n : Nat} {Gzz G' : Nat → Int32} {s izz i' : Nat} (hzz : PaE pa o n Gzz s izz) (a0zz : gA pa' 0 s = gA pa 0 s) (a1zz : ∀ t, t < 17 → gA pa' 1 (17 * s + t) = gA pa 1 (17 * s + t)) (b7 : gA o' 7 i' = gA o 7 izz) (b6 : ∀ t, t < 25 → gA o' 6 (25 * i' + t) = gA o 6 (25 * izz + t)) (eg : ∀ jzz, (jzz = 5 ∨ jzz = 6 ∨ (15 + n ≤ jzz ∧ jzz < 22) ∨ (22 + n ≤ jzz ∧ jzz < 29)) → G' jzz = Gzz jzz) : PaE pa' o' n G' s i' := by
  refine ⟨by rw [a0zz, b7]; exact hzz.1, by rw [b7]; exact hzz.2.1, hzz.2.2.1.ext (fun jzz hj => a1zz jzz (by omega)) (fun jzz hj => ?_) (a1zz 14 (by omega)) (a1zz 15 (by omega)) (a1zz 16 (by omega)) (fun jzz h1 h2 => b6 (jzz - 4) (by omega)), fun jzz hj => ?_⟩
  · have wzz := a1zz (7 + jzz) (by omega)
    rw [← Nat.add_assoc] at wzz
    exact wzz
  · rw [eg jzz hj]
    exact (b6 (jzz - 4) (by omega)).trans (hzz.2.2.2 jzz hj)
set_option maxHeartbeats 200000 in
theorem PaT.rw' {pa o : Ob} {n : Nat} {Gzz G' : Nat → Int32} (hzz : PaT pa o n Gzz) (wzz : RwC n Gzz G') : PaT pa o n G' := by
  obtain ⟨h0, sz, fi, h1, h2, h3, h4, h5⟩ := hzz
  exact ⟨h0, sz, fi, h1, h2, h3, h4, fun izz hizz => (h5 izz hizz).mv rfl (fun _ _ => rfl) rfl (fun _ _ => rfl) (fun jzz hj => wzz jzz (by omega))⟩
set_option maxHeartbeats 200000 in
theorem PaT.eq {pa o o' : Ob} {n : Nat} {Gzz : Nat → Int32} (hzz : PaT pa o n Gzz) (e8 : gI o' 8 = gI o 8) (e6zz : gA o' 6 = gA o 6) (e7zz : gA o' 7 = gA o 7) : PaT pa o' n Gzz := by
  obtain ⟨h0, sz, fi, h1, h2, h3, h4, h5⟩ := hzz
  exact ⟨h0.trans e8.symm, sz, fi, h1, h2, h3, h4, fun izz hizz => (h5 izz hizz).mv rfl (fun _ _ => rfl) (by rw [e7zz]) (fun _ _ => by rw [e6zz]) (fun _ _ => rfl)⟩
set_option maxHeartbeats 200000 in
theorem rem16 : ∀ s, s < 32 → (Int32.ofNat s) - (Int32.ofNat s) / (16 : Int32) * (16 : Int32) = Int32.ofNat (s % 16) := by decide +kernel
set_option maxHeartbeats 200000 in
theorem rem16_of {xzz : Int32} {s : Nat} (hzz : xzz.toInt = (s : Int)) (hs : s < 32) : (xzz - xzz / (16 : Int32) * (16 : Int32)).toInt = ((s % 16 : Nat) : Int) := by
  rw [i32_of hzz (by omega), rem16 s hs]
  exact Int32.toInt_ofNat_of_lt (by omega)
def wrv (mv : Ob) (t : Nat) : Int32 := if t < 7 then gA mv 0 t else if t < 14 then gA mv 1 (t - 7) else if t = 14 then gI mv 2 else if t = 15 then gI mv 3 else gI mv 4
set_option maxHeartbeats 200000 in
theorem wr_desc {mv pa pa' : Ob} {pzz : Int32} {bzz : Nat} (eb : pzz.toInt = (bzz : Int)) (hbzz : bzz ≤ 255) (hzz : f_X4_writeTo_AX5_1 mv pa pzz = some pa') : pa'.1 = pa.1 ∧ gA pa' 0 = gA pa 0 ∧ ∀ jzz, gA pa' 1 jzz = if bzz ≤ jzz ∧ jzz < bzz + 17 then wrv mv (jzz - bzz) else gA pa 1 jzz := by
  have n0zz : (0 : Int32).toNatClampNeg = 0 := by decide
  have n7 : (7 : Int32).toNatClampNeg = 7 := by decide
  have ib : pzz.toNatClampNeg = bzz := tnc_eq eb
  have t7 : (pzz + (7 : Int32)).toInt = (bzz : Int) + 7 := i32_add eb (by decide) (by omega) (by omega)
  have i7zz : (pzz + (7 : Int32)).toNatClampNeg = bzz + 7 := tnc_eq (by rw [t7]; omega)
  have t17 : (pzz + (17 : Int32)).toInt = (bzz : Int) + 17 := i32_add eb (by decide) (by omega) (by omega)
  have i14 : ((pzz + (17 : Int32)) - (3 : Int32)).toNatClampNeg = bzz + 14 := tnc_eq (by rw [i32_sub t17 (by decide : (3 : Int32).toInt = 3) (by omega) (by omega)]; omega)
  have i15 : ((pzz + (17 : Int32)) - (2 : Int32)).toNatClampNeg = bzz + 15 := tnc_eq (by rw [i32_sub t17 (by decide : (2 : Int32).toInt = 2) (by omega) (by omega)]; omega)
  have i16 : ((pzz + (17 : Int32)) - (1 : Int32)).toNatClampNeg = bzz + 16 := tnc_eq (by rw [i32_sub t17 (by decide : (1 : Int32).toInt = 1) (by omega) (by omega)]; omega)
  unfold f_X4_writeTo_AX5_1 at hzz
  have hzz := z_f hzz (fun czz => by have czz := cv_lt (a := (bzz : Int)) (b := 0) eb (by decide) czz; omega)
  have hzz := z_t hzz (Int32.le_iff_toInt_le.mpr (by rw [eb]; have : (255 : Int32).toInt = 255 := (by decide); omega))
  rw [i14, i15, i16] at hzz
  have hzz := (z_gd hzz).2
  obtain ⟨o2, e2zz, hzz⟩ := z_lt hzz
  have hzz := (z_gd hzz).2
  obtain ⟨o4zz, e4zz, hzz⟩ := z_lt hzz
  have hzz := (z_gd hzz).2
  obtain ⟨o6, e6zz, hzz⟩ := z_lt hzz
  have hzz := (z_gd hzz).2
  obtain ⟨o8zz, e8, hzz⟩ := z_lt hzz
  have hzz := (z_gd hzz).2
  obtain ⟨o10, e10zz, hzz⟩ := z_lt hzz
  have hzz := Option.some.inj hzz
  unfold cA at e2zz e4zz
  rw [n0zz, n7, ib] at e2zz
  rw [n0zz, n7, i7zz] at e4zz
  subst e2zz e4zz e6zz e8 e10zz hzz
  refine ⟨rfl, rfl, fun jzz => ?_⟩
  have t : gA (tA (tA (tA (sA (sA pa 1 (va_cpy (gA mv 0) (gA pa 1) 0 bzz 7)) 1 (va_cpy (gA mv 1) (gA (sA pa 1 (va_cpy (gA mv 0) (gA pa 1) 0 bzz 7)) 1) 0 (bzz + 7) 7)) 1 (bzz + 14) (gI mv 2)) 1 (bzz + 15) (gI mv 3)) 1 (bzz + 16) (gI mv 4)) 1 jzz = if jzz = bzz + 16 then gI mv 4 else if jzz = bzz + 15 then gI mv 3 else if jzz = bzz + 14 then gI mv 2 else if bzz + 7 ≤ jzz ∧ jzz < bzz + 7 + 7 then gA mv 1 (0 + (jzz - (bzz + 7))) else if bzz ≤ jzz ∧ jzz < bzz + 7 then gA mv 0 (0 + (jzz - bzz)) else gA pa 1 jzz := rfl
  refine t.trans ?_
  unfold wrv
  by_cases czz : bzz ≤ jzz ∧ jzz < bzz + 17
  · rw [if_pos czz]
    by_cases c1zz : jzz = bzz + 16
    · rw [if_pos c1zz, if_neg (by omega), if_neg (by omega), if_neg (by omega), if_neg (by omega)]
    · rw [if_neg c1zz]
      by_cases c2zz : jzz = bzz + 15
      · rw [if_pos c2zz, if_neg (by omega), if_neg (by omega), if_neg (by omega), if_pos (by omega)]
      · rw [if_neg c2zz]
        by_cases c3zz : jzz = bzz + 14
        · rw [if_pos c3zz, if_neg (by omega), if_neg (by omega), if_pos (by omega)]
        · rw [if_neg c3zz]
          by_cases c4zz : bzz + 7 ≤ jzz
          · have ej : 0 + (jzz - (bzz + 7)) = jzz - bzz - 7 := by omega
            rw [if_pos ⟨c4zz, by omega⟩, if_neg (by omega), if_pos (by omega), ej]
          · have ej : 0 + (jzz - bzz) = jzz - bzz := by omega
            rw [if_neg (by omega), if_pos ⟨czz.1, by omega⟩, if_pos (by omega), ej]
  · rw [if_neg czz, if_neg (by omega), if_neg (by omega), if_neg (by omega), if_neg (by omega), if_neg (by omega)]
set_option maxHeartbeats 200000 in
/-- the class keeps a move -/
theorem keep_desc {pa mv pa' : Ob} {kzz : Int32} {sz fi : Nat} (e3zz : (gI pa 3).toInt = (sz : Int)) (h16zz : sz ≤ 16) (e2zz : (gI pa 2).toInt = (fi : Int)) (hf : fi < 16) (hzz : f_X5_keep_O pa mv kzz = some pa') :
    ∃ sz' fi' : Nat, ((sz = 16 ∧ sz' = 15 ∧ fi' = (fi + 1) % 16) ∨ (sz < 16 ∧ sz' = sz ∧ fi' = fi)) ∧ (gI pa' 3).toInt = (sz' : Int) + 1 ∧ (gI pa' 2).toInt = (fi' : Int) ∧ (∀ jzz, gA pa' 0 jzz = if jzz = (fi' + sz') % 16 then kzz else gA pa 0 jzz) ∧ (∀ jzz, gA pa' 1 jzz = if 17 * ((fi' + sz') % 16) ≤ jzz ∧ jzz < 17 * ((fi' + sz') % 16) + 17 then wrv mv (jzz - 17 * ((fi' + sz') % 16)) else gA pa 1 jzz) := by
  have mainzz : ∀ (qzz : Ob) (sz' fi' : Nat), (gI qzz 3).toInt = (sz' : Int) → sz' ≤ 15 → (gI qzz 2).toInt = (fi' : Int) → fi' < 16 → bk_X5_keep_O_32 mv kzz qzz = some pa' → (gI pa' 3).toInt = (sz' : Int) + 1 ∧ (gI pa' 2).toInt = (fi' : Int) ∧ (∀ jzz, gA pa' 0 jzz = if jzz = (fi' + sz') % 16 then kzz else gA qzz 0 jzz) ∧ (∀ jzz, gA pa' 1 jzz = if 17 * ((fi' + sz') % 16) ≤ jzz ∧ jzz < 17 * ((fi' + sz') % 16) + 17 then wrv mv (jzz - 17 * ((fi' + sz') % 16)) else gA qzz 1 jzz) := by
    intro qzz sz' fi' q3zz hs q2zz hf' hbzz
    unfold bk_X5_keep_O_32 at hbzz
    obtain ⟨x1zz, g1, hbzz⟩ := z_lt hbzz
    have hbzz := (z_gd hbzz).2
    obtain ⟨o3zz, g3zz, hbzz⟩ := z_lt hbzz
    obtain ⟨z4, g4, hbzz⟩ := z_bd hbzz
    obtain ⟨o5zz, g5zz, hbzz⟩ := z_lt hbzz
    have hbzz := Option.some.inj hbzz
    have tx : x1zz.toInt = (((fi' + sz') % 16 : Nat) : Int) := by
      rw [g1]
      exact rem16_of (s := fi' + sz') (by rw [i32_add q2zz q3zz (by omega) (by omega)]; omega) (by omega)
    have ix : x1zz.toNatClampNeg = (fi' + sz') % 16 := tnc_eq tx
    have tbzz : (x1zz * (17 : Int32)).toInt = ((17 * ((fi' + sz') % 16) : Nat) : Int) := by
      rw [i32_mul tx (by decide : (17 : Int32).toInt = 17) (by omega) (by omega)]; omega
    obtain ⟨w1zz, w2zz, w3zz⟩ := wr_desc tbzz (by omega) g4
    rw [ix] at g3zz
    have k3zz : gI z4 3 = gI qzz 3 := by
      show z4.1 3 = _
      rw [w1zz, g3zz]; rfl
    have k2zz : gI z4 2 = gI qzz 2 := by
      show z4.1 2 = _
      rw [w1zz, g3zz]; rfl
    rw [← hbzz, g5zz]
    refine ⟨?_, ?_, fun jzz => ?_, fun jzz => ?_⟩
    · show (gI z4 3 + (1 : Int32)).toInt = _
      rw [k3zz]; exact i32_add q3zz (by decide) (by omega) (by omega)
    · show (gI z4 2).toInt = _
      rw [k2zz]; exact q2zz
    · show gA z4 0 jzz = _
      rw [w2zz, g3zz]; rfl
    · show gA z4 1 jzz = _
      rw [w3zz, g3zz]; rfl
  unfold f_X5_keep_O at hzz
  rcases z_if hzz with ⟨czz, hzz⟩ | ⟨czz, hzz⟩
  · have czz := cv_eq (a := (sz : Int)) (b := 16) e3zz (by decide) czz
    obtain ⟨o6, g6, hzz⟩ := z_lt hzz
    obtain ⟨o7, g7, hzz⟩ := z_lt hzz
    have t2zz : (gI o7 2).toInt = (((fi + 1) % 16 : Nat) : Int) := by
      rw [g7, g6]
      exact rem16_of (s := fi + 1) (by rw [i32_add e2zz (by decide : (1 : Int32).toInt = 1) (by omega) (by omega)]; omega) (by omega)
    have t3zz : (gI o7 3).toInt = ((15 : Nat) : Int) := by
      rw [g7, g6]
      show (gI pa 3 - (1 : Int32)).toInt = _
      rw [i32_sub e3zz (by decide : (1 : Int32).toInt = 1) (by omega) (by omega)]; omega
    obtain ⟨r1zz, r2, r3, r4⟩ := mainzz o7 15 ((fi + 1) % 16) t3zz (Nat.le_refl _) t2zz (by omega) hzz
    refine ⟨15, (fi + 1) % 16, Or.inl ⟨by omega, rfl, rfl⟩, r1zz, r2, fun jzz => ?_, fun jzz => ?_⟩
    · rw [r3, g7, g6]; rfl
    · rw [r4, g7, g6]; rfl
  · have czz := cv_ne (a := (sz : Int)) (b := 16) e3zz (by decide) czz
    obtain ⟨r1zz, r2, r3, r4⟩ := mainzz pa sz fi e3zz (by omega) e2zz hf hzz
    exact ⟨sz, fi, Or.inr ⟨by omega, rfl, rfl⟩, r1zz, r2, r3, r4⟩
set_option maxHeartbeats 200000 in
theorem keepAll_lp {o' : Ob} {pzz : Int32} {mzz : Nat} (em : pzz.toInt = (mzz : Int)) (hmzz : mzz < 18) : ∀ (Nzz : Nat) (vzz : Int32) (o : Ob) (izz : Nat), vzz.toInt = (izz : Int) → izz ≤ 25 → lp_X9_keepAll_2 Nzz (pzz, vzz, o) = some o' → ∀ jzz, gA o' 6 jzz = if 25 * mzz + izz ≤ jzz ∧ jzz < 25 * mzz + 25 then gA o 3 (4 + (jzz - 25 * mzz)) else gA o 6 jzz := by
  intro Nzz
  induction Nzz with
  | zero => intro vzz o izz _ _ hzz; cases hzz
  | succ Nzz ihzz =>
    intro vzz o izz evzz hizz hzz jzz
    have hzz : lb_X9_keepAll_2 (lp_X9_keepAll_2 Nzz) pzz vzz o = some o' := hzz
    unfold lb_X9_keepAll_2 at hzz
    rcases z_if hzz with ⟨czz, hzz⟩ | ⟨czz, hzz⟩
    · have czz := cv_le (a := 25) (b := (izz : Int)) (by decide) evzz czz
      rw [← Option.some.inj hzz, if_neg (by omega)]
    · have czz := cv_nle (a := 25) (b := (izz : Int)) (by decide) evzz czz
      have i1zz : ((4 : Int32) + vzz).toNatClampNeg = 4 + izz := tnc_eq (by rw [i32_add (by decide : (4 : Int32).toInt = 4) evzz (by omega) (by omega)]; omega)
      have i2zz : (((25 : Int32) * pzz) + vzz).toNatClampNeg = 25 * mzz + izz := tnc_eq (by rw [i32_add (i32_mul (by decide : (25 : Int32).toInt = 25) em (by omega) (by omega)) evzz (by omega) (by omega)]; omega)
      rw [i1zz, i2zz] at hzz
      have hzz := (z_gd (z_gd hzz).2).2
      obtain ⟨o3zz, e3zz, hzz⟩ := z_lt hzz
      obtain ⟨x4zz, e4zz, hzz⟩ := z_lt hzz
      have wzz := ihzz x4zz o3zz (izz + 1) (by rw [e4zz]; exact Eq.trans (i32_add evzz (by decide : (1 : Int32).toInt = 1) (by omega) (by omega)) (by omega)) (by omega) hzz jzz
      have a6 : gA o3zz 6 jzz = if jzz = 25 * mzz + izz then gA o 3 (4 + izz) else gA o 6 jzz := by rw [e3zz]; rfl
      have a3 : gA o3zz 3 = gA o 3 := by rw [e3zz]; rfl
      rw [wzz, a3, a6]
      by_cases d : jzz = 25 * mzz + izz
      · have ej : 4 + (jzz - 25 * mzz) = 4 + izz := by omega
        rw [if_neg (by omega), if_pos d, if_pos (by omega), ej]
      · by_cases d2zz : 25 * mzz + izz ≤ jzz ∧ jzz < 25 * mzz + 25
        · rw [if_pos (by omega), if_pos d2zz]
        · rw [if_neg (by omega), if_neg d, if_neg d2zz]
set_option maxHeartbeats 200000 in
theorem putBack_lp {o' : Ob} {pzz : Int32} {mzz : Nat} (em : pzz.toInt = (mzz : Int)) (hmzz : mzz < 18) : ∀ (Nzz : Nat) (vzz : Int32) (o : Ob) (izz : Nat), vzz.toInt = (izz : Int) → izz ≤ 25 → lp_X9_putBack_2 Nzz (pzz, vzz, o) = some o' → ∀ jzz, gA o' 3 jzz = if 4 + izz ≤ jzz ∧ jzz < 29 then gA o 6 (25 * mzz + (jzz - 4)) else gA o 3 jzz := by
  intro Nzz
  induction Nzz with
  | zero => intro vzz o izz _ _ hzz; cases hzz
  | succ Nzz ihzz =>
    intro vzz o izz evzz hizz hzz jzz
    have hzz : lb_X9_putBack_2 (lp_X9_putBack_2 Nzz) pzz vzz o = some o' := hzz
    unfold lb_X9_putBack_2 at hzz
    rcases z_if hzz with ⟨czz, hzz⟩ | ⟨czz, hzz⟩
    · have czz := cv_le (a := 25) (b := (izz : Int)) (by decide) evzz czz
      rw [← Option.some.inj hzz, if_neg (by omega)]
    · have czz := cv_nle (a := 25) (b := (izz : Int)) (by decide) evzz czz
      have i1zz : ((4 : Int32) + vzz).toNatClampNeg = 4 + izz := tnc_eq (by rw [i32_add (by decide : (4 : Int32).toInt = 4) evzz (by omega) (by omega)]; omega)
      have i2zz : (((25 : Int32) * pzz) + vzz).toNatClampNeg = 25 * mzz + izz := tnc_eq (by rw [i32_add (i32_mul (by decide : (25 : Int32).toInt = 25) em (by omega) (by omega)) evzz (by omega) (by omega)]; omega)
      rw [i1zz, i2zz] at hzz
      have hzz := (z_gd (z_gd hzz).2).2
      obtain ⟨o3zz, e3zz, hzz⟩ := z_lt hzz
      obtain ⟨x4zz, e4zz, hzz⟩ := z_lt hzz
      have wzz := ihzz x4zz o3zz (izz + 1) (by rw [e4zz]; exact Eq.trans (i32_add evzz (by decide : (1 : Int32).toInt = 1) (by omega) (by omega)) (by omega)) (by omega) hzz jzz
      have a3 : gA o3zz 3 jzz = if jzz = 4 + izz then gA o 6 (25 * mzz + izz) else gA o 3 jzz := by rw [e3zz]; rfl
      have a6 : gA o3zz 6 = gA o 6 := by rw [e3zz]; rfl
      rw [wzz, a6, a3]
      by_cases d : jzz = 4 + izz
      · have ej : 25 * mzz + (jzz - 4) = 25 * mzz + izz := by omega
        rw [if_neg (by omega), if_pos d, if_pos (by omega), ej]
      · by_cases d2zz : 4 + izz ≤ jzz ∧ jzz < 29
        · rw [if_pos (by omega), if_pos d2zz]
        · rw [if_neg (by omega), if_neg d, if_neg d2zz]
set_option maxHeartbeats 200000 in
theorem rem_lp11 {o' : Ob} {kzz : Int32} : ∀ (Nzz : Nat) (vzz : Int32) (o : Ob) (izz : Nat), vzz.toInt = (izz : Int) → izz ≤ 375 → lp_X9_remember_11 Nzz (kzz, vzz, o) = some o' → ∃ o1, lp_X9_remember_41 zfu (kzz, 0, o1) = some o' ∧ (∀ jzz, gA o1 6 jzz = if izz ≤ jzz ∧ jzz < 375 then gA o 6 (jzz + 25) else gA o 6 jzz) ∧ gA o1 7 = gA o 7 ∧ gA o1 3 = gA o 3 ∧ gI o1 8 = gI o 8 := by
  intro Nzz
  induction Nzz with
  | zero => intro vzz o izz _ _ hzz; cases hzz
  | succ Nzz ihzz =>
    intro vzz o izz evzz hizz hzz
    have hzz : lb_X9_remember_11 (lp_X9_remember_11 Nzz) kzz vzz o = some o' := hzz
    unfold lb_X9_remember_11 at hzz
    rcases z_if hzz with ⟨czz, hzz⟩ | ⟨czz, hzz⟩
    · have czz := cv_le (a := 375) (b := (izz : Int)) (by decide) evzz czz
      exact ⟨o, hzz, fun jzz => by rw [if_neg (by omega)], rfl, rfl, rfl⟩
    · have czz := cv_nle (a := 375) (b := (izz : Int)) (by decide) evzz czz
      have i1zz : (vzz + (25 : Int32)).toNatClampNeg = izz + 25 := tnc_eq (by rw [i32_add evzz (by decide : (25 : Int32).toInt = 25) (by omega) (by omega)]; omega)
      have ivzz : vzz.toNatClampNeg = izz := tnc_eq evzz
      rw [i1zz, ivzz] at hzz
      have hzz := (z_gd (z_gd hzz).2).2
      obtain ⟨o3zz, e3zz, hzz⟩ := z_lt hzz
      obtain ⟨x4zz, e4zz, hzz⟩ := z_lt hzz
      obtain ⟨o1, r0, r1zz, r2, r3, r4⟩ := ihzz x4zz o3zz (izz + 1) (by rw [e4zz]; exact Eq.trans (i32_add evzz (by decide : (1 : Int32).toInt = 1) (by omega) (by omega)) (by omega)) (by omega) hzz
      have a6 : ∀ jzz, gA o3zz 6 jzz = if jzz = izz then gA o 6 (izz + 25) else gA o 6 jzz := fun jzz => by rw [e3zz]; rfl
      refine ⟨o1, r0, fun jzz => ?_, r2.trans (by rw [e3zz]; rfl), r3.trans (by rw [e3zz]; rfl), r4.trans (by rw [e3zz]; rfl)⟩
      rw [r1zz, a6, a6]
      by_cases d : jzz = izz
      · rw [if_neg (by omega), if_pos d, if_pos (by omega), d]
      · by_cases d2zz : izz ≤ jzz ∧ jzz < 375
        · rw [if_pos (by omega), if_neg (by omega), if_pos d2zz]
        · rw [if_neg (by omega), if_neg d, if_neg d2zz]
set_option maxHeartbeats 200000 in
theorem rem_lp41 {o' : Ob} {kzz : Int32} : ∀ (Nzz : Nat) (vzz : Int32) (o : Ob) (izz : Nat), vzz.toInt = (izz : Int) → izz ≤ 15 → lp_X9_remember_41 Nzz (kzz, vzz, o) = some o' → ∃ o1, bk_X9_remember_77 kzz o1 = some o' ∧ (∀ jzz, gA o1 7 jzz = if izz ≤ jzz ∧ jzz < 15 then gA o 7 (jzz + 1) else gA o 7 jzz) ∧ gA o1 6 = gA o 6 ∧ gA o1 3 = gA o 3 ∧ gI o1 8 = gI o 8 - 1 := by
  intro Nzz
  induction Nzz with
  | zero => intro vzz o izz _ _ hzz; cases hzz
  | succ Nzz ihzz =>
    intro vzz o izz evzz hizz hzz
    have hzz : lb_X9_remember_41 (lp_X9_remember_41 Nzz) kzz vzz o = some o' := hzz
    unfold lb_X9_remember_41 at hzz
    rcases z_if hzz with ⟨czz, hzz⟩ | ⟨czz, hzz⟩
    · have czz := cv_le (a := 15) (b := (izz : Int)) (by decide) evzz czz
      obtain ⟨o5zz, e5zz, hzz⟩ := z_lt hzz
      exact ⟨o5zz, hzz, fun jzz => by rw [if_neg (by omega), e5zz]; rfl, by rw [e5zz]; rfl, by rw [e5zz]; rfl, by rw [e5zz]; rfl⟩
    · have czz := cv_nle (a := 15) (b := (izz : Int)) (by decide) evzz czz
      have i1zz : (vzz + (1 : Int32)).toNatClampNeg = izz + 1 := tnc_eq (by rw [i32_add evzz (by decide : (1 : Int32).toInt = 1) (by omega) (by omega)]; omega)
      have ivzz : vzz.toNatClampNeg = izz := tnc_eq evzz
      rw [i1zz, ivzz] at hzz
      have hzz := (z_gd (z_gd hzz).2).2
      obtain ⟨o3zz, e3zz, hzz⟩ := z_lt hzz
      obtain ⟨x4zz, e4zz, hzz⟩ := z_lt hzz
      obtain ⟨o1, r0, r1zz, r2, r3, r4⟩ := ihzz x4zz o3zz (izz + 1) (by rw [e4zz]; exact Eq.trans (i32_add evzz (by decide : (1 : Int32).toInt = 1) (by omega) (by omega)) (by omega)) (by omega) hzz
      have a7 : ∀ jzz, gA o3zz 7 jzz = if jzz = izz then gA o 7 (izz + 1) else gA o 7 jzz := fun jzz => by rw [e3zz]; rfl
      refine ⟨o1, r0, fun jzz => ?_, r2.trans (by rw [e3zz]; rfl), r3.trans (by rw [e3zz]; rfl), r4.trans (by rw [e3zz]; rfl)⟩
      rw [r1zz, a7, a7]
      by_cases d : jzz = izz
      · rw [if_neg (by omega), if_pos d, if_pos (by omega), d]
      · by_cases d2zz : izz ≤ jzz ∧ jzz < 15
        · rw [if_pos (by omega), if_neg (by omega), if_pos d2zz]
        · rw [if_neg (by omega), if_neg d, if_neg d2zz]
set_option maxHeartbeats 200000 in
theorem rem77 {o o' : Ob} {kzz : Int32} {mzz : Nat} (em : (gI o 8).toInt = (mzz : Int)) (hmzz : mzz < 16) (hzz : bk_X9_remember_77 kzz o = some o') : (∀ jzz, gA o' 6 jzz = if 25 * mzz ≤ jzz ∧ jzz < 25 * mzz + 25 then gA o 3 (4 + (jzz - 25 * mzz)) else gA o 6 jzz) ∧ (∀ jzz, gA o' 7 jzz = if jzz = mzz then kzz else gA o 7 jzz) ∧ (gI o' 8).toInt = (mzz : Int) + 1 := by
  unfold bk_X9_remember_77 at hzz
  obtain ⟨z1, e1zz, hzz⟩ := z_bd hzz
  have f1zz := fr_f_X9_keepAll e1zz
  unfold f_X9_keepAll at e1zz
  have d1zz := keepAll_lp em (by omega) zfu 0 o 0 (by decide) (Nat.zero_le _) e1zz
  have hzz := (z_gd hzz).2
  obtain ⟨o3zz, e3zz, hzz⟩ := z_lt hzz
  obtain ⟨o4zz, e4zz, hzz⟩ := z_lt hzz
  have hzz := Option.some.inj hzz
  have k8zz : gI z1 8 = gI o 8 := f1zz.I 8 rfl
  have im : (gI z1 8).toNatClampNeg = mzz := tnc_eq (by rw [k8zz]; exact em)
  rw [im] at e3zz
  rw [← hzz]
  refine ⟨fun jzz => ?_, fun jzz => ?_, ?_⟩
  · have wzz := d1zz jzz
    rw [Nat.add_zero] at wzz
    rw [e4zz, e3zz]
    exact wzz
  · rw [e4zz, e3zz]
    show (if jzz = mzz then kzz else gA z1 7 jzz) = _
    rw [f1zz.A 7 rfl]
  · rw [e4zz, e3zz]
    show (gI z1 8 + (1 : Int32)).toInt = _
    rw [k8zz]; exact i32_add em (by decide) (by omega) (by omega)
set_option maxHeartbeats 200000 in
/-- the reference remembers a move -/
theorem rem_desc {o o' : Ob} {kzz : Int32} {sz : Nat} (e8 : (gI o 8).toInt = (sz : Int)) (h16zz : sz ≤ 16) (hzz : f_X9_remember o kzz = some o') :
    ∃ sz' d : Nat, ((sz = 16 ∧ sz' = 15 ∧ d = 1) ∨ (sz < 16 ∧ sz' = sz ∧ d = 0)) ∧ (gI o' 8).toInt = (sz' : Int) + 1 ∧ (∀ izz, izz < sz' → gA o' 7 izz = gA o 7 (izz + d) ∧ ∀ t, t < 25 → gA o' 6 (25 * izz + t) = gA o 6 (25 * (izz + d) + t)) ∧ gA o' 7 sz' = kzz ∧ (∀ t, t < 25 → gA o' 6 (25 * sz' + t) = gA o 3 (4 + t)) ∧ ∀ jzz, 400 ≤ jzz → gA o' 6 jzz = gA o 6 jzz := by
  unfold f_X9_remember at hzz
  rcases z_if hzz with ⟨czz, hzz⟩ | ⟨czz, hzz⟩
  · have czz := cv_eq (a := (sz : Int)) (b := 16) e8 (by decide) czz
    obtain ⟨o1, hzz, a1zz, a2, a3, a4⟩ := rem_lp11 zfu 0 o 0 (by decide) (Nat.zero_le _) hzz
    obtain ⟨o2, hzz, b1, b2, b3, b4⟩ := rem_lp41 zfu 0 o1 0 (by decide) (Nat.zero_le _) hzz
    have t8 : (gI o2 8).toInt = ((15 : Nat) : Int) := by
      rw [b4, a4, i32_sub e8 (by decide : (1 : Int32).toInt = 1) (by omega) (by omega)]; omega
    obtain ⟨r1zz, r2, r3⟩ := rem77 t8 (by decide) hzz
    refine ⟨15, 1, Or.inl ⟨by omega, rfl, rfl⟩, r3, fun izz hizz => ⟨?_, fun t ht => ?_⟩, by rw [r2, if_pos rfl], fun t ht => ?_, fun jzz hj => ?_⟩
    · rw [r2, if_neg (by omega), b1, if_pos (by omega), a2]
    · have ei : 25 * izz + t + 25 = 25 * (izz + 1) + t := by omega
      rw [r1zz, if_neg (by omega), b2, a1zz, if_pos (by omega), ei]
    · have et : 25 * 15 + t - 25 * 15 = t := by omega
      rw [r1zz, if_pos (by omega), b3, a3, et]
    · rw [r1zz, if_neg (by omega), b2, a1zz, if_neg (by omega)]
  · have czz := cv_ne (a := (sz : Int)) (b := 16) e8 (by decide) czz
    obtain ⟨r1zz, r2, r3⟩ := rem77 e8 (by omega) hzz
    refine ⟨sz, 0, Or.inr ⟨by omega, rfl, rfl⟩, r3, fun izz hizz => ⟨?_, fun t ht => ?_⟩, by rw [r2, if_pos rfl], fun t ht => ?_, fun jzz hj => ?_⟩
    · rw [r2, if_neg (by omega)]; rfl
    · rw [r1zz, if_neg (by omega)]; rfl
    · have et : 25 * sz + t - 25 * sz = t := by omega
      rw [r1zz, if_pos (by omega), et]
    · rw [r1zz, if_neg (by omega)]
set_option maxHeartbeats 200000 in
/-- both keep a move -/
theorem keep_eq {pa mv pa' o o' : Ob} {kzz : Int32} {n : Nat} (hP : PaT pa o n (gA o 3)) (hMzz : TzM mv (gA o 3)) (hk : 0 ≤ kzz.toInt ∧ kzz.toInt ≤ 3) (h1 : f_X5_keep_O pa mv kzz = some pa') (h2 : f_X9_remember o kzz = some o') : PaT pa' o' n (gA o 3) := by
  obtain ⟨h0, sz, fi, e3zz, h16zz, e2zz, hf, hE⟩ := hP
  obtain ⟨sz1, fi1, q1zz, k3zz, k2zz, ka0, ka1⟩ := keep_desc e3zz h16zz e2zz hf h1
  obtain ⟨sz2, d, q2zz, m8zz, mold, m7zz, m6zz, -⟩ := rem_desc (by rw [← h0]; exact e3zz) h16zz h2
  have es : sz2 = sz1 := by omega
  subst es
  have hs15 : sz2 ≤ 15 := by omega
  have hfi : fi1 < 16 := by omega
  refine ⟨Int32.toInt_inj.mp (by rw [k3zz, m8zz]), sz2 + 1, fi1, by rw [k3zz]; omega, by omega, k2zz, hfi, fun izz hizz => ?_⟩
  by_cases czz : izz < sz2
  · have es : (fi1 + izz) % 16 = (fi + (izz + d)) % 16 := by omega
    have ns : (fi1 + izz) % 16 ≠ (fi1 + sz2) % 16 := by omega
    obtain ⟨u7, u6⟩ := mold izz czz
    have wzz := hE (izz + d) (by omega)
    rw [← es] at wzz
    refine wzz.mv (by rw [ka0, if_neg ns]) (fun t ht => ?_) u7 u6 (fun _ _ => rfl)
    rw [ka1, if_neg (by omega)]
  · have ei : izz = sz2 := by omega
    subst ei
    have n1zz : (fi1 + izz) % 16 < 16 := by omega
    refine ⟨by rw [ka0, if_pos rfl, m7zz], by rw [m7zz]; exact hk, hMzz.ext (fun jzz hj => ?_) (fun jzz hj => ?_) ?_ ?_ ?_ (fun jzz g1 g2 => ?_), fun jzz hj => ?_⟩
    · show gA pa' 1 (17 * ((fi1 + izz) % 16) + jzz) = _
      have et : 17 * ((fi1 + izz) % 16) + jzz - 17 * ((fi1 + izz) % 16) = jzz := by omega
      rw [ka1, if_pos (by omega), et]
      unfold wrv
      rw [if_pos hj]
    · show gA pa' 1 (17 * ((fi1 + izz) % 16) + 7 + jzz) = _
      have et : 17 * ((fi1 + izz) % 16) + 7 + jzz - 17 * ((fi1 + izz) % 16) = 7 + jzz := by omega
      have e7zz : 7 + jzz - 7 = jzz := by omega
      rw [ka1, if_pos (by omega), et]
      unfold wrv
      rw [if_neg (by omega), if_pos (by omega), e7zz]
    · show gA pa' 1 (17 * ((fi1 + izz) % 16) + 14) = _
      have et : 17 * ((fi1 + izz) % 16) + 14 - 17 * ((fi1 + izz) % 16) = 14 := by omega
      rw [ka1, if_pos (by omega), et]; rfl
    · show gA pa' 1 (17 * ((fi1 + izz) % 16) + 15) = _
      have et : 17 * ((fi1 + izz) % 16) + 15 - 17 * ((fi1 + izz) % 16) = 15 := by omega
      rw [ka1, if_pos (by omega), et]; rfl
    · show gA pa' 1 (17 * ((fi1 + izz) % 16) + 16) = _
      have et : 17 * ((fi1 + izz) % 16) + 16 - 17 * ((fi1 + izz) % 16) = 16 := by omega
      rw [ka1, if_pos (by omega), et]; rfl
    · have ej : 4 + (jzz - 4) = jzz := by omega
      exact (m6zz (jzz - 4) (by omega)).trans (by rw [ej])
    · have ej : 4 + (jzz - 4) = jzz := by omega
      exact (m6zz (jzz - 4) (by omega)).trans (by rw [ej])
set_option maxHeartbeats 200000 in
theorem rem_hi {pa o o' : Ob} {kzz : Int32} {n : Nat} {Gzz : Nat → Int32} (hP : PaT pa o n Gzz) (h2 : f_X9_remember o kzz = some o') : ∀ jzz, 400 ≤ jzz → gA o' 6 jzz = gA o 6 jzz := by
  obtain ⟨h0, sz, fi, e3zz, h16zz, -⟩ := hP
  obtain ⟨_, _, _, _, _, _, _, wzz⟩ := rem_desc (by rw [← h0]; exact e3zz) h16zz h2
  exact wzz
