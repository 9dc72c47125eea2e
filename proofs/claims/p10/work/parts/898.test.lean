-- moves in both
set_option maxHeartbeats 200000 in
theorem rd_desc {mv pa mv' : Ob} {pzz : Int32} {bzz : Nat} (eb : pzz.toInt = (bzz : Int)) (hbzz : bzz ≤ 255) (hzz : f_X4_readFrom_AX5_1 mv pa pzz = some mv') : (∀ jzz, jzz < 7 → gA mv' 0 jzz = gA pa 1 (bzz + jzz)) ∧ (∀ jzz, jzz < 7 → gA mv' 1 jzz = gA pa 1 (bzz + 7 + jzz)) ∧ gI mv' 2 = gA pa 1 (bzz + 14) ∧ gI mv' 3 = gA pa 1 (bzz + 15) ∧ gI mv' 4 = gA pa 1 (bzz + 16) := by
  have n0zz : (0 : Int32).toNatClampNeg = 0 := by decide
  have n7 : (7 : Int32).toNatClampNeg = 7 := by decide
  have ib : pzz.toNatClampNeg = bzz := tnc_eq eb
  have t7 : (pzz + (7 : Int32)).toInt = (bzz : Int) + 7 := i32_add eb (by decide) (by omega) (by omega)
  have i7zz : (pzz + (7 : Int32)).toNatClampNeg = bzz + 7 := tnc_eq (by rw [t7]; omega)
  have t17 : (pzz + (17 : Int32)).toInt = (bzz : Int) + 17 := i32_add eb (by decide) (by omega) (by omega)
  have i14 : ((pzz + (17 : Int32)) - (3 : Int32)).toNatClampNeg = bzz + 14 := tnc_eq (by rw [i32_sub t17 (by decide : (3 : Int32).toInt = 3) (by omega) (by omega)]; omega)
  have i15 : ((pzz + (17 : Int32)) - (2 : Int32)).toNatClampNeg = bzz + 15 := tnc_eq (by rw [i32_sub t17 (by decide : (2 : Int32).toInt = 2) (by omega) (by omega)]; omega)
  have i16 : ((pzz + (17 : Int32)) - (1 : Int32)).toNatClampNeg = bzz + 16 := tnc_eq (by rw [i32_sub t17 (by decide : (1 : Int32).toInt = 1) (by omega) (by omega)]; omega)
  unfold f_X4_readFrom_AX5_1 at hzz
  have hzz := z_f hzz (fun czz => by have czz := cv_lt (a := (bzz : Int)) (b := 0) eb (by decide) czz; omega)
  have hzz := z_t hzz (Int32.le_iff_toInt_le.mpr (by rw [eb]; have : (255 : Int32).toInt = 255 := (by decide); omega))
  rw [i14, i15, i16] at hzz
  have hzz := (z_gd hzz).2
  obtain ⟨o2, e2zz, hzz⟩ := z_lt hzz
  have hzz := (z_gd hzz).2
  obtain ⟨o4zz, e4zz, hzz⟩ := z_lt hzz
  have hzz := (z_gd hzz).2
  obtain ⟨o6, e6zz, hzz⟩ := z_lt hzz
  have hzz := (z_gd hzz).2
  obtain ⟨o8zz, e8, hzz⟩ := z_lt hzz
  have hzz := (z_gd hzz).2
  obtain ⟨o10, e10zz, hzz⟩ := z_lt hzz
  have hzz := Option.some.inj hzz
  unfold cA at e2zz e4zz
  rw [n0zz, n7, ib] at e2zz
  rw [n0zz, n7, i7zz] at e4zz
  subst e2zz e4zz e6zz e8 e10zz hzz
  refine ⟨fun jzz hj => ?_, fun jzz hj => ?_, rfl, rfl, rfl⟩
  · show (if 0 ≤ jzz ∧ jzz < 0 + 7 then gA pa 1 (bzz + (jzz - 0)) else gA mv 0 jzz) = _
    rw [if_pos (by omega)]; rfl
  · show (if 0 ≤ jzz ∧ jzz < 0 + 7 then gA pa 1 (bzz + 7 + (jzz - 0)) else _) = _
    rw [if_pos (by omega)]; rfl
set_option maxHeartbeats 200000 in
/-- all that moves are told of -/
def TzS (pl : List CR) (isl mv pa o : Ob) (n : Nat) : Prop := WiL isl (gA o 3) ∧ TzM mv (gA o 3) ∧ PaT pa o n (gA o 3) ∧ (∀ zzz, f_X2_lawInForce isl = some zzz → LwP pl zzz (gA o 3) (gA o 3 3)) ∧ gI o 20 = 0 ∧ (gA o 3 0).toInt = (n : Int) ∧ ∀ jzz, ((15 + n ≤ jzz ∧ jzz < 22) ∨ (22 + n ≤ jzz ∧ jzz < 29)) → gA o 3 jzz = 0
set_option maxHeartbeats 200000 in
theorem TzS.mv {pl : List CR} {isl mv pa o mv' pa' o' : Ob} {n : Nat} (hzz : TzS pl isl mv pa o n) (wzz : RwC n (gA o 3) (gA o' 3)) (hMzz : TzM mv' (gA o' 3)) (hP : PaT pa' o' n (gA o' 3)) (e20 : gI o' 20 = gI o 20) : TzS pl isl mv' pa' o' n := ⟨hzz.1.rw' wzz, hMzz, hP, fun zzz ez => (hzz.2.2.2.1 zzz ez).rw' wzz, e20.trans hzz.2.2.2.2.1, by rw [wzz 0 (by omega)]; exact hzz.2.2.2.2.2.1, fun jzz hj => (wzz jzz (by omega)).trans (hzz.2.2.2.2.2.2 jzz hj)⟩
set_option maxHeartbeats 200000 in
theorem TzS.sc {pl : List CR} {isl mv pa o o' : Ob} {n : Nat} (hzz : TzS pl isl mv pa o n) (e3zz : gA o' 3 = gA o 3) (e8 : gI o' 8 = gI o 8) (e6zz : gA o' 6 = gA o 6) (e7zz : gA o' 7 = gA o 7) (e20 : gI o' 20 = gI o 20) : TzS pl isl mv pa o' n := hzz.mv (by rw [e3zz]; exact RwC.rf) (by rw [e3zz]; exact hzz.2.1) (by rw [e3zz]; exact hzz.2.2.1.eq e8 e6zz e7zz) e20
/-- what a move answers and leaves -/
def MvE (pl : List CR) (isl mv o : Ob) (n : Nat) (vzz v' : Int32) (mv' pa' o' : Ob) : Prop := vzz = v' ∧ TzS pl isl mv' pa' o' n ∧ RwC n (gA o 3) (gA o' 3) ∧ ((v' = -1 ∨ v' = -2 ∨ v' = -3) ∨ 0 ≤ v'.toInt) ∧ ∀ jzz, 400 ≤ jzz → gA o' 6 jzz = gA o 6 jzz
set_option maxHeartbeats 200000 in
theorem enter_move {pl : List CR} {isl mv pa czz mezz o : Ob} {n : Nat} {xzz : Int32} {yzz : Int32 × Ob × Ob × Ob × Ob} {y' : Int32 × Ob} (hSzz : TzS pl isl mv pa o n) (h1 : f_X1_moved_O czz isl mv mezz pl pa 1 xzz = some yzz) (h2 : f_X9_enterNow o xzz = some y') : MvE pl isl mv o n yzz.1 y'.1 yzz.2.2.1 yzz.2.2.2.2 y'.2 := by
  obtain ⟨hI, hMzz, hP, hL, h20, en, hZ⟩ := id hSzz
  have hn7 : n ≤ 7 := by have := hI.1.2.2; omega
  unfold f_X1_moved_O at h1
  have h1 := z_f (z_f h1 (by decide)) (by decide)
  obtain ⟨z1, e1zz, h1⟩ := z_bd h1
  unfold f_X9_enterNow at h2
  obtain ⟨w1zz, k1zz, h2⟩ := z_bd h2
  have p2zz := isP2 e1zz
  have p9zz := isP9 k1zz hI.1.2
  rw [hI.1.1] at p2zz
  rcases p9zz with ⟨q9zz, r9⟩ | ⟨q9zz, r9⟩
  · have q2zz : z1 = 0 := by
      rcases p2zz with ⟨qzz, -⟩ | ⟨-, qzz⟩
      · exact qzz
      · exact absurd qzz r9
    have h1 := z_t h1 q2zz
    unfold bk_X1_moved_O_116 bk_X1_moved_O_118 at h1
    have h1 := Option.some.inj (z_f h1 (by decide))
    have h2 := Option.some.inj (z_t h2 q9zz)
    rw [← h1, ← h2]
    exact ⟨rfl, hSzz, RwC.rf, Or.inl (Or.inr (Or.inl rfl)), fun _ _ => rfl⟩
  · have q2zz : ¬ z1 = 0 := by
      rcases p2zz with ⟨-, qzz⟩ | ⟨qzz, -⟩
      · exact absurd r9 qzz
      · exact qzz
    have h1 := z_f (z_f h1 q2zz) (by decide)
    unfold bk_X1_moved_O_115 bk_X1_moved_O_116 bk_X1_moved_O_118 at h1
    have h1 := z_t h1 rfl
    obtain ⟨pa2, e2zz, h1⟩ := z_bd h1
    unfold bk_X1_moved_O_142 at h1
    have h1 := z_t (z_f h1 (by decide)) rfl
    obtain ⟨z5, e5zz, h1⟩ := z_bd h1
    have h1 := Option.some.inj h1
    have h2 := z_f h2 q9zz
    obtain ⟨w2zz, k2zz, h2⟩ := z_bd h2
    have f2zz := fr_f_X9_remember k2zz
    have eG : gA w2zz 3 = gA o 3 := f2zz.A 3 rfl
    have h2 := (z_gd (z_gd h2).2).2
    obtain ⟨Pzz, eP⟩ : ∃ Pzz : Nat, xzz.toInt = (Pzz : Int) := ⟨xzz.toInt.toNat, by omega⟩
    have i22 : ((22 : Int32) + xzz).toNatClampNeg = 22 + Pzz := tnc_eq (by rw [i32_add (by decide : (22 : Int32).toInt = 22) eP (by omega) (by omega)]; omega)
    rw [i22] at h2
    obtain ⟨o5zz, k5zz, h2⟩ := z_lt h2
    have h2 := Option.some.inj (z_gd h2).2
    have e5G : gA o5zz 3 = upd (gA o 3) (22 + Pzz) ((1 : Int32) - gA o 3 (22 + Pzz)) := by rw [k5zz, ← eG]; rfl
    obtain ⟨r1zz, r2, r3, r4⟩ := entr_eq hMzz eP (by omega) hn7 e5zz e5G
    have hP2 := keep_eq hP hMzz (by decide) e2zz k2zz
    rw [← h1, ← h2]
    refine ⟨r1zz, hSzz.mv r4 r3 ?_ ?_, r4, Or.inr r2, fun jzz hj => ?_⟩
    · exact (hP2.rw' r4).eq (by rw [k5zz]; rfl) (by rw [k5zz]; rfl) (by rw [k5zz]; rfl)
    · rw [k5zz]; exact f2zz.I 20 rfl
    · rw [k5zz]; exact rem_hi hP k2zz jzz hj
set_option maxHeartbeats 200000 in
theorem take_move {pl : List CR} {isl mv pa czz mezz o : Ob} {n : Nat} {xzz : Int32} {yzz : Int32 × Ob × Ob × Ob × Ob} {y' : Int32 × Ob} (hSzz : TzS pl isl mv pa o n) (h1 : f_X1_moved_O czz isl mv mezz pl pa 2 xzz = some yzz) (h2 : f_X9_takeNow o xzz = some y') : MvE pl isl mv o n yzz.1 y'.1 yzz.2.2.1 yzz.2.2.2.2 y'.2 := by
  obtain ⟨hI, hMzz, hP, hL, h20, en, hZ⟩ := id hSzz
  have hn7 : n ≤ 7 := by have := hI.1.2.2; omega
  have n7 : (7 : Int32).toNatClampNeg = 7 := by decide
  unfold f_X1_moved_O at h1
  have h1 := z_f (z_f h1 (by decide)) (by decide)
  obtain ⟨z1, e1zz, h1⟩ := z_bd h1
  unfold f_X9_takeNow at h2
  rw [n7] at h2
  obtain ⟨w1zz, k1zz, h2⟩ := z_bd h2
  have p2zz := isP2 e1zz
  have p9zz := isP9 k1zz hI.1.2
  rw [hI.1.1] at p2zz
  rcases p9zz with ⟨q9zz, r9⟩ | ⟨q9zz, r9⟩
  · have q2zz : z1 = 0 := by
      rcases p2zz with ⟨qzz, -⟩ | ⟨-, qzz⟩
      · exact qzz
      · exact absurd qzz r9
    have h1 := z_t h1 q2zz
    unfold bk_X1_moved_O_116 bk_X1_moved_O_118 at h1
    have h1 := Option.some.inj (z_f h1 (by decide))
    have h2 := Option.some.inj (z_t h2 q9zz)
    rw [← h1, ← h2]
    exact ⟨rfl, hSzz, RwC.rf, Or.inl (Or.inr (Or.inl rfl)), fun _ _ => rfl⟩
  · have q2zz : ¬ z1 = 0 := by
      rcases p2zz with ⟨-, qzz⟩ | ⟨qzz, -⟩
      · exact absurd r9 qzz
      · exact qzz
    have h1 := z_t (z_f h1 q2zz) rfl
    have h2 := z_f h2 q9zz
    obtain ⟨x2zz, q7zz, h2⟩ := z_lt h2
    have e7zz : gI mv 3 = x2zz := by rw [q7zz]; exact hMzz.2.2.1.1
    rw [e7zz] at h1
    by_cases czz : x2zz = 0
    · have h1 := z_t h1 czz
      unfold bk_X1_moved_O_116 bk_X1_moved_O_118 at h1
      have h1 := Option.some.inj (z_f h1 (by decide))
      have h2 := Option.some.inj (z_t h2 czz)
      rw [← h1, ← h2]
      exact ⟨rfl, hSzz, RwC.rf, Or.inl (Or.inr (Or.inr rfl)), fun _ _ => rfl⟩
    · have h1 := z_f h1 czz
      unfold bk_X1_moved_O_115 bk_X1_moved_O_116 bk_X1_moved_O_118 at h1
      have h1 := z_t h1 rfl
      obtain ⟨pa2, e2zz, h1⟩ := z_bd h1
      unfold bk_X1_moved_O_142 at h1
      have h1 := z_t (z_f (z_f h1 (by decide)) (by decide)) rfl
      obtain ⟨z6, e6zz, h1⟩ := z_bd h1
      have h1 := Option.some.inj h1
      have h2 := z_f h2 czz
      obtain ⟨w3zz, k3zz, h2⟩ := z_bd h2
      have f3zz := fr_f_X9_remember k3zz
      have eG : gA w3zz 3 = gA o 3 := f3zz.A 3 rfl
      obtain ⟨w4zz, k4zz, h2⟩ := z_bd h2
      have f4zz := fr_f_X9_takeIt k4zz
      have h2 := Option.some.inj h2
      obtain ⟨Pzz, eP⟩ : ∃ Pzz : Nat, xzz.toInt = (Pzz : Int) := ⟨xzz.toInt.toNat, by omega⟩
      obtain ⟨r1zz, r2, r3, r4⟩ := take_eq (o := w3zz) (n := n) (by rw [eG]; exact hMzz) eP (by omega) hn7 e6zz k4zz
      rw [eG] at r1zz r2 r4
      have hP2 := keep_eq hP hMzz (by decide) e2zz k3zz
      rw [← h1, ← h2]
      refine ⟨r1zz.trans q7zz.symm, hSzz.mv r4 r3 ?_ ?_, r4, Or.inr (by show 0 ≤ x2zz.toInt; rw [q7zz]; exact r2), fun jzz hj => ?_⟩
      · exact (hP2.rw' r4).eq (f4zz.I 8 rfl) (f4zz.A 6 rfl) (f4zz.A 7 rfl)
      · exact (f4zz.I 20 rfl).trans (f3zz.I 20 rfl)
      · rw [f4zz.A 6 rfl]; exact rem_hi hP k3zz jzz hj
set_option maxHeartbeats 200000 in
theorem pass_move {pl : List CR} {isl mv pa czz mezz o : Ob} {n : Nat} {xzz : Int32} {yzz : Int32 × Ob × Ob × Ob × Ob} {y' : Int32 × Ob} (hSzz : TzS pl isl mv pa o n) (h1 : f_X1_moved_O czz isl mv mezz pl pa 3 xzz = some yzz) (h2 : f_X9_passNow o = some y') : MvE pl isl mv o n yzz.1 y'.1 yzz.2.2.1 yzz.2.2.2.2 y'.2 := by
  obtain ⟨hI, hMzz, hP, hL, h20, en, hZ⟩ := id hSzz
  have n4zz : (4 : Int32).toNatClampNeg = 4 := by decide
  have hy := hMzz.2.2.2.1
  unfold f_X1_moved_O at h1
  have h1 := z_t (z_f h1 (by decide)) rfl
  unfold f_X9_passNow at h2
  rw [n4zz] at h2
  rw [hy.1] at h1
  have z9 : (999 : Int32).toInt = 999 := by decide
  by_cases czz : gA o 3 4 = 999
  · have h1 := z_f h1 (fun qzz => by have qzz := cv_lt (a := (gA o 3 4).toInt) (b := 999) rfl z9 qzz; rw [czz, z9] at qzz; omega)
    unfold bk_X1_moved_O_71 bk_X1_moved_O_118 at h1
    have h1 := Option.some.inj (z_f h1 (by decide))
    have h2 := Option.some.inj (z_t h2 czz)
    rw [← h1, ← h2]
    exact ⟨rfl, hSzz, RwC.rf, Or.inl (Or.inr (Or.inr rfl)), fun _ _ => rfl⟩
  · have c' := cv_ne (a := (gA o 3 4).toInt) (b := 999) rfl z9 czz
    have h1 := z_t h1 (Int32.lt_iff_toInt_lt.mpr (by rw [z9]; omega))
    unfold bk_X1_moved_O_71 bk_X1_moved_O_118 at h1
    have h1 := z_t h1 rfl
    obtain ⟨pa2, e2zz, h1⟩ := z_bd h1
    unfold bk_X1_moved_O_142 at h1
    have h1 := z_f (z_f (z_f h1 (by decide)) (by decide)) (by decide)
    obtain ⟨z7, e7zz, h1⟩ := z_bd h1
    have h1 := Option.some.inj h1
    have h2 := z_f h2 czz
    obtain ⟨w1zz, k1zz, h2⟩ := z_bd h2
    have f1zz := fr_f_X9_remember k1zz
    have eG : gA w1zz 3 = gA o 3 := f1zz.A 3 rfl
    obtain ⟨w2zz, k2zz, h2⟩ := z_bd h2
    have f2zz := fr_f_X9_passIt k2zz
    have h2 := Option.some.inj h2
    obtain ⟨r1zz, r2, r3, r4⟩ := pass_eq (o := w1zz) (n := n) (by rw [eG]; exact hL) (by rw [eG]; exact hI) (by rw [eG]; exact hMzz) ((f1zz.I 20 rfl).trans h20) (by rw [eG]; exact en) (by rw [eG]; omega) e7zz k2zz
    rw [eG] at r4
    have hP2 := keep_eq hP hMzz (by decide) e2zz k1zz
    rw [← h1, ← h2]
    refine ⟨r1zz, hSzz.mv r4 r3 ?_ ?_, r4, Or.inr r2, fun jzz hj => ?_⟩
    · exact (hP2.rw' r4).eq (f2zz.I 8 rfl) (f2zz.A 6 rfl) (f2zz.A 7 rfl)
    · exact (f2zz.I 20 rfl).trans (f1zz.I 20 rfl)
    · rw [f2zz.A 6 rfl]; exact rem_hi hP k1zz jzz hj
set_option maxHeartbeats 200000 in
theorem race_move {pl : List CR} {isl mv pa czz mezz o : Ob} {n : Nat} {xzz : Int32} {yzz : Int32 × Ob × Ob × Ob × Ob} {y' : Int32 × Ob} (hSzz : TzS pl isl mv pa o n) (h1 : f_X1_moved_O czz isl mv mezz pl pa 0 xzz = some yzz) (h2 : f_X9_raceNow o xzz = some y') : MvE pl isl mv o n yzz.1 y'.1 yzz.2.2.1 yzz.2.2.2.2 y'.2 := by
  obtain ⟨hI, hMzz, hP, hL, h20, en, hZ⟩ := id hSzz
  unfold f_X1_moved_O at h1
  have h1 := z_t h1 rfl
  obtain ⟨z8, e8, h1⟩ := z_bd h1
  unfold f_X9_raceNow at h2
  obtain ⟨w1zz, k1zz, h2⟩ := z_bd h2
  rcases isR9 k1zz with ⟨q9zz, r9⟩ | ⟨q9zz, r9⟩
  · have q8zz : z8 = 0 := by
      rcases isR8 e8 with ⟨qzz, -⟩ | ⟨-, qzz⟩
      · exact qzz
      · exact absurd qzz r9
    have h1 := z_t h1 q8zz
    unfold bk_X1_moved_O_39 bk_X1_moved_O_118 at h1
    have h1 := Option.some.inj (z_f h1 (by decide))
    have h2 := Option.some.inj (z_t h2 q9zz)
    rw [← h1, ← h2]
    exact ⟨rfl, hSzz, RwC.rf, Or.inl (Or.inl rfl), fun _ _ => rfl⟩
  · have q8zz : ¬ z8 = 0 := by
      rcases isR8 e8 with ⟨-, qzz⟩ | ⟨qzz, -⟩
      · exact absurd r9 qzz
      · exact qzz
    have h1 := z_f h1 q8zz
    have h2 := z_f h2 q9zz
    obtain ⟨z9, e9zz, h1⟩ := z_bd h1
    obtain ⟨z10, e10zz, h1⟩ := z_bd h1
    obtain ⟨w2zz, k2zz, h2⟩ := z_bd h2
    have f2zz := fr_f_X9_layPlaces k2zz
    have eG : gA w2zz 3 = gA o 3 := f2zz.A 3 rfl
    obtain ⟨R, eR⟩ : ∃ R : Nat, xzz.toInt = (R : Int) := ⟨xzz.toInt.toNat, by omega⟩
    obtain ⟨kzz, hkn, hTzz, hz⟩ := line_eq (hL z9 e9zz) (WtL.of hI hMzz) hMzz.2.2.2.2.1 h20 en eR (by omega) e10zz k2zz
    rw [hz, hTzz.1] at h1
    have hS2 : TzS pl isl mv pa w2zz n := hSzz.sc eG (f2zz.I 8 rfl) (f2zz.A 6 rfl) (f2zz.A 7 rfl) (f2zz.I 20 rfl)
    have r0 : RwC n (gA o 3) (gA w2zz 3) := by rw [eG]; exact RwC.rf
    by_cases c0zz : gI w2zz 43 = 0
    · have h1 := z_t h1 c0zz
      unfold bk_X1_moved_O_39 bk_X1_moved_O_118 at h1
      have h1 := Option.some.inj (z_f h1 (by decide))
      have h2 := Option.some.inj (z_t h2 c0zz)
      rw [← h1, ← h2]
      exact ⟨rfl, hS2, r0, Or.inl (Or.inr (Or.inr rfl)), fun jzz _ => by rw [f2zz.A 6 rfl]⟩
    · have h1 := z_f h1 c0zz
      have h2 := z_f h2 c0zz
      unfold bk_X1_moved_O_39 bk_X1_moved_O_118 at h1
      have h1 := z_t h1 rfl
      obtain ⟨pa2, e2zz, h1⟩ := z_bd h1
      unfold bk_X1_moved_O_142 at h1
      have h1 := z_t h1 rfl
      obtain ⟨z4, e4zz, h1⟩ := z_bd h1
      have h1 := Option.some.inj h1
      obtain ⟨w3zz, k3zz, h2⟩ := z_bd h2
      have f3zz := fr_f_X9_remember k3zz
      obtain ⟨w4zz, k4zz, h2⟩ := z_bd h2
      have f4zz := fr_f_X9_raceIt k4zz
      have h2 := Option.some.inj h2
      have eG3 : gA w3zz 3 = gA o 3 := (f3zz.A 3 rfl).trans eG
      have hk : 1 ≤ kzz := by
        have wzz := hTzz.2.1
        rw [hTzz.1] at wzz
        have c1zz := cv_ne (a := (kzz : Int)) (b := 0) wzz (by decide) c0zz
        omega
      have hT3 : Lne z10.2.1 w3zz n kzz := hTzz.lne.eq (f3zz.I 43 rfl) (f3zz.A 42 rfl)
      obtain ⟨r1zz, r2, r3, r4⟩ := race_eq (o := w3zz) (n := n) (kzz := kzz) (by rw [eG3]; exact hL) (by rw [eG3]; exact WtL.of hI hMzz) (by rw [eG3]; exact hMzz) (((f3zz.I 20 rfl).trans (f2zz.I 20 rfl)).trans h20) (by rw [eG3]; exact en) eR (by omega) hT3 hk hkn e4zz k4zz
      rw [eG3] at r4
      have hP2 := keep_eq (o := w2zz) (n := n) hS2.2.2.1 (by rw [eG]; exact hMzz) (by decide) e2zz k3zz
      rw [eG] at hP2
      rw [← h1, ← h2]
      refine ⟨r1zz, hSzz.mv r4 r3 ?_ ?_, r4, Or.inr r2, fun jzz hj => ?_⟩
      · exact (hP2.rw' r4).eq (f4zz.I 8 rfl) (f4zz.A 6 rfl) (f4zz.A 7 rfl)
      · exact (f4zz.I 20 rfl).trans ((f3zz.I 20 rfl).trans (f2zz.I 20 rfl))
      · rw [f4zz.A 6 rfl, rem_hi hS2.2.2.1 k3zz jzz hj, f2zz.A 6 rfl]
/-- any move -/
theorem act_move {pl : List CR} {isl mv pa czz mezz o : Ob} {n : Nat} {Kzz xzz : Int32} {yzz : Int32 × Ob × Ob × Ob × Ob} {y' : Int32 × Ob} (hSzz : TzS pl isl mv pa o n) (hKzz : Kzz = 0 ∨ Kzz = 1 ∨ Kzz = 2 ∨ Kzz = 3) (h1 : f_X1_moved_O czz isl mv mezz pl pa Kzz xzz = some yzz) (h2 : f_X9_act o Kzz xzz = some y') : MvE pl isl mv o n yzz.1 y'.1 yzz.2.2.1 yzz.2.2.2.2 y'.2 := by
  unfold f_X9_act at h2
  rcases hKzz with qzz | qzz | qzz | qzz <;> subst qzz
  · have h2 := z_t h2 rfl
    obtain ⟨wzz, kzz, h2⟩ := z_bd h2
    have h2 := Option.some.inj h2
    rw [← h2]
    exact race_move hSzz h1 kzz
  · have h2 := z_t (z_f h2 (by decide)) rfl
    obtain ⟨wzz, kzz, h2⟩ := z_bd h2
    have h2 := Option.some.inj h2
    rw [← h2]
    exact enter_move hSzz h1 kzz
  · have h2 := z_t (z_f (z_f h2 (by decide)) (by decide)) rfl
    obtain ⟨wzz, kzz, h2⟩ := z_bd h2
    have h2 := Option.some.inj h2
    rw [← h2]
    exact take_move hSzz h1 kzz
  · have h2 := z_f (z_f (z_f h2 (by decide)) (by decide)) (by decide)
    obtain ⟨wzz, kzz, h2⟩ := z_bd h2
    have h2 := Option.some.inj h2
    rw [← h2]
    exact pass_move hSzz h1 kzz
set_option maxHeartbeats 200000 in
/-- a move undone -/
theorem bring_eq {pl : List CR} {isl mv pa o o2 o3zz : Ob} {n : Nat} {zzz : Int32 × Ob × Ob} (hSzz : TzS pl isl mv pa o n) (h0 : ¬ gI pa 3 = 0) (h1 : f_X5_bringBack_O pa mv = some zzz) (e2zz : o2 = sI o 8 (gI o 8 - 1)) (h2 : f_X9_putBack o2 (gI o2 8) = some o3zz) : zzz.1 = gA o3zz 7 (gI o3zz 8).toNatClampNeg ∧ 0 ≤ zzz.1.toInt ∧ TzS pl isl zzz.2.2 zzz.2.1 o3zz n ∧ RwC n (gA o 3) (gA o3zz 3) := by
  obtain ⟨hI, hMzz, ⟨h08, sz, fi, e3zz, h16zz, ef, hf, hE⟩, hL, h20, en, hZ⟩ := id hSzz
  have hsz : 1 ≤ sz := by
    have := cv_ne (a := (sz : Int)) (b := 0) e3zz (by decide) h0
    omega
  unfold f_X5_bringBack_O at h1
  have h1 := z_f h1 h0
  obtain ⟨p1zz, g1, h1⟩ := z_lt h1
  obtain ⟨x2zz, g2, h1⟩ := z_lt h1
  obtain ⟨z3, k3zz, h1⟩ := z_bd h1
  have h1 := Option.some.inj (z_gd h1).2
  have t3zz : (gI p1zz 3).toInt = ((sz - 1 : Nat) : Int) := by
    rw [g1]
    show (gI pa 3 - (1 : Int32)).toInt = _
    rw [i32_sub e3zz (by decide : (1 : Int32).toInt = 1) (by omega) (by omega)]; omega
  have t2zz : (gI p1zz 2).toInt = (fi : Int) := by rw [g1]; exact ef
  have tx : x2zz.toInt = (((fi + (sz - 1)) % 16 : Nat) : Int) := by
    rw [g2]
    exact rem16_of (s := fi + (sz - 1)) (by rw [i32_add t2zz t3zz (by omega) (by omega)]; omega) (by omega)
  have ix : x2zz.toNatClampNeg = (fi + (sz - 1)) % 16 := tnc_eq tx
  have tbzz : (x2zz * (17 : Int32)).toInt = ((17 * ((fi + (sz - 1)) % 16) : Nat) : Int) := by
    rw [i32_mul tx (by decide : (17 : Int32).toInt = 17) (by omega) (by omega)]; omega
  obtain ⟨d0zz, d1zz, d2zz, d3zz, d4zz⟩ := rd_desc tbzz (by omega) k3zz
  have eA1 : gA p1zz 1 = gA pa 1 := by rw [g1]; rfl
  have eA0 : gA p1zz 0 = gA pa 0 := by rw [g1]; rfl
  rw [eA1] at d0zz d1zz d2zz d3zz d4zz
  have wzz := hE (sz - 1) (by omega)
  have t8 : (gI o2 8).toInt = ((sz - 1 : Nat) : Int) := by
    rw [e2zz]
    show (gI o 8 - (1 : Int32)).toInt = _
    rw [← h08, i32_sub e3zz (by decide : (1 : Int32).toInt = 1) (by omega) (by omega)]; omega
  have fpzz := fr_f_X9_putBack h2
  unfold f_X9_putBack at h2
  have dp := putBack_lp t8 (by omega) zfu 0 o2 0 (by decide) (Nat.zero_le _) h2
  have e23zz : gA o2 3 = gA o 3 := by rw [e2zz]; rfl
  have e26zz : gA o2 6 = gA o 6 := by rw [e2zz]; rfl
  rw [e23zz, e26zz] at dp
  have rw1 : RwC n (gA o 3) (gA o3zz 3) := by
    intro jzz hj
    rw [dp]
    by_cases czz : 4 + 0 ≤ jzz ∧ jzz < 29
    · rw [if_pos czz]
      exact wzz.2.2.2 jzz (by omega)
    · rw [if_neg czz]
  have e37 : gA o3zz 7 = gA o 7 := (fpzz.A 7 rfl).trans (by rw [e2zz]; rfl)
  have e38 : gI o3zz 8 = gI o2 8 := fpzz.I 8 rfl
  have e36 : gA o3zz 6 = gA o 6 := (fpzz.A 6 rfl).trans e26zz
  have i8zz : (gI o3zz 8).toNatClampNeg = sz - 1 := tnc_eq (by rw [e38]; exact t8)
  have hv : gA p1zz 0 x2zz.toNatClampNeg = gA o3zz 7 (gI o3zz 8).toNatClampNeg := by rw [ix, i8zz, eA0, e37]; exact wzz.1
  rw [← h1]
  refine ⟨hv, ?_, hSzz.mv rw1 (wzz.2.2.1.ext d0zz d1zz d2zz d3zz d4zz (fun jzz j1 j2zz => ?_)) ?_ ?_, rw1⟩
  · show 0 ≤ (gA p1zz 0 x2zz.toNatClampNeg).toInt
    rw [hv, i8zz, e37]; exact wzz.2.1.1
  · rw [dp, if_pos ⟨by omega, j2zz⟩]; rfl
  · refine PaT.rw' (Gzz := gA o 3) ⟨Int32.toInt_inj.mp (by rw [t3zz, e38, t8]), sz - 1, fi, t3zz, by omega, t2zz, hf, fun izz hizz => ?_⟩ rw1
    exact (hE izz (by omega)).mv (by rw [eA0]) (fun t _ => by rw [eA1]) (by rw [e37]) (fun t _ => by rw [e36]) (fun _ _ => rfl)
  · rw [fpzz.I 20 rfl, e2zz]; rfl
