-- centuries on paper
set_option maxHeartbeats 200000 in
theorem i32_remE {xzz yzz : Int32} {mzz : Int} (hy : yzz.toInt = mzz) (hmzz : 0 < mzz) (hx : 0 ≤ xzz.toInt) : (xzz - xzz / yzz * yzz).toInt = xzz.toInt % mzz := by
  have hr := i32_rg xzz
  have hr2 := i32_rg yzz
  have h1 : 0 ≤ xzz.toInt / mzz := Int.ediv_nonneg hx (by omega)
  have h2 : xzz.toInt / mzz * mzz ≤ xzz.toInt := Int.ediv_mul_le _ (by omega)
  have h2b : xzz.toInt / mzz ≤ xzz.toInt := Int.ediv_le_self _ hx
  have h3 : (xzz / yzz).toInt = xzz.toInt / mzz := by
    rw [Int32.toInt_div, hy, Int.tdiv_eq_ediv_of_nonneg hx]
    exact Int.bmod_eq_of_le (by omega) (by omega)
  have h0 : 0 ≤ xzz.toInt / mzz * mzz := Int.mul_nonneg h1 (by omega)
  have h4 : (xzz / yzz * yzz).toInt = xzz.toInt / mzz * mzz := i32_mul h3 hy (by omega) (by omega)
  have h5 : (xzz - xzz / yzz * yzz).toInt = xzz.toInt - xzz.toInt / mzz * mzz := i32_sub rfl h4 (by omega) (by omega)
  have h8 : xzz.toInt % mzz = xzz.toInt - mzz * (xzz.toInt / mzz) := Int.emod_def _ _
  have h9 : mzz * (xzz.toInt / mzz) = xzz.toInt / mzz * mzz := Int.mul_comm _ _
  rw [h5, h8, h9]
set_option maxHeartbeats 200000 in
theorem i64_remE {xzz yzz : Int64} {mzz : Int} (hy : yzz.toInt = mzz) (hmzz : 0 < mzz) (hx : 0 ≤ xzz.toInt) : (xzz - xzz / yzz * yzz).toInt = xzz.toInt % mzz := by
  have hr := i64_rg xzz
  have hr2 := i64_rg yzz
  have h1 : 0 ≤ xzz.toInt / mzz := Int.ediv_nonneg hx (by omega)
  have h2 : xzz.toInt / mzz * mzz ≤ xzz.toInt := Int.ediv_mul_le _ (by omega)
  have h2b : xzz.toInt / mzz ≤ xzz.toInt := Int.ediv_le_self _ hx
  have h3 : (xzz / yzz).toInt = xzz.toInt / mzz := by
    rw [Int64.toInt_div, hy, Int.tdiv_eq_ediv_of_nonneg hx]
    exact Int.bmod_eq_of_le (by omega) (by omega)
  have h0 : 0 ≤ xzz.toInt / mzz * mzz := Int.mul_nonneg h1 (by omega)
  have h4 : (xzz / yzz * yzz).toInt = xzz.toInt / mzz * mzz := i64_mul h3 hy (by omega) (by omega)
  have h5 : (xzz - xzz / yzz * yzz).toInt = xzz.toInt - xzz.toInt / mzz * mzz := i64_sub rfl h4 (by omega) (by omega)
  have h8 : xzz.toInt % mzz = xzz.toInt - mzz * (xzz.toInt / mzz) := Int.emod_def _ _
  have h9 : mzz * (xzz.toInt / mzz) = xzz.toInt / mzz * mzz := Int.mul_comm _ _
  rw [h5, h8, h9]
def DrT (s : Int32) (o : Ob) : Prop := s.toInt64 = gL o 60 ∧ 0 ≤ s.toInt ∧ s.toInt ≤ 1000002
set_option maxHeartbeats 200000 in
theorem draw_eq {o : Ob} {s zzz pzz : Int32} {wzz : Int32 × Ob} {Pzz : Int} (hzz : DrT s o) (ep : pzz.toInt = Pzz) (hp : 1 ≤ Pzz ∧ Pzz ≤ 7) (h1 : f_X8_nextDraw s = some zzz) (h2 : f_X9_draw o pzz = some wzz) : DrT zzz wzz.2 ∧ wzz.1 = zzz - zzz / pzz * pzz ∧ 0 ≤ wzz.1.toInt ∧ wzz.1.toInt < Pzz ∧ gA wzz.2 = gA o ∧ gI wzz.2 = gI o := by
  have hdzz := hzz.2
  unfold f_X8_nextDraw at h1
  have h1 := Option.some.inj h1
  unfold f_X9_draw at h2
  obtain ⟨o1, e1zz, h2⟩ := z_lt h2
  have h2 := Option.some.inj (z_gd h2).2
  rw [hzz.1] at h1
  have eg : (gL o 60).toInt = s.toInt := by rw [← hzz.1]; exact Int32.toInt_toInt64 s
  have m1zz : ((gL o 60) * (1103 : Int64)).toInt = s.toInt * 1103 := i64_mul eg (by decide) (by omega) (by omega)
  have m2zz : (((gL o 60) * (1103 : Int64)) + (12345 : Int64)).toInt = s.toInt * 1103 + 12345 := i64_add m1zz (by decide) (by omega) (by omega)
  have m3zz := i64_remE (xzz := ((gL o 60) * (1103 : Int64)) + (12345 : Int64)) (yzz := 1000003) (mzz := 1000003) (by decide) (by decide) (by omega)
  have r1zz := Int.emod_nonneg (((gL o 60) * (1103 : Int64)) + (12345 : Int64)).toInt (show (1000003 : Int) ≠ 0 by decide)
  have r2 := Int.emod_lt_of_pos (((gL o 60) * (1103 : Int64)) + (12345 : Int64)).toInt (show (0 : Int) < 1000003 by decide)
  rw [← m3zz] at r1zz r2
  have k60 : gL o1 60 = ((gL o 60) * (1103 : Int64)) + (12345 : Int64) - (((gL o 60) * (1103 : Int64)) + (12345 : Int64)) / (1000003 : Int64) * (1000003 : Int64) := by rw [e1zz]; rfl
  rw [← k60] at r1zz r2 h1
  have zt : zzz.toInt = (gL o1 60).toInt := by rw [← h1]; exact l2i_eq (by omega) (by omega)
  have z64zz : zzz.toInt64 = gL o1 60 := Int64.toInt_inj.mp (by rw [Int32.toInt_toInt64]; exact zt)
  have ep64 : (pzz.toInt64).toInt = Pzz := by rw [Int32.toInt_toInt64]; exact ep
  have q1zz := i64_remE (xzz := gL o1 60) (yzz := pzz.toInt64) (mzz := Pzz) ep64 (by omega) r1zz
  have q2zz := i32_remE (xzz := zzz) (yzz := pzz) (mzz := Pzz) ep (by omega) (by rw [zt]; exact r1zz)
  have s1zz := Int.emod_nonneg (gL o1 60).toInt (show Pzz ≠ 0 by omega)
  have s2zz := Int.emod_lt_of_pos (gL o1 60).toInt (show 0 < Pzz by omega)
  have wt : ((gL o1 60) - (gL o1 60) / pzz.toInt64 * pzz.toInt64).toInt32.toInt = (gL o1 60).toInt % Pzz := by rw [l2i_eq (by omega) (by omega)]; exact q1zz
  rw [← h2]
  refine ⟨⟨z64zz, by rw [zt]; exact r1zz, by rw [zt]; omega⟩, ?_, ?_, ?_, by rw [e1zz]; rfl, by rw [e1zz]; rfl⟩
  · exact Int32.toInt_inj.mp (by rw [wt, q2zz, zt])
  · show 0 ≤ ((gL o1 60) - (gL o1 60) / pzz.toInt64 * pzz.toInt64).toInt32.toInt
    rw [wt]; exact s1zz
  · show ((gL o1 60) - (gL o1 60) / pzz.toInt64 * pzz.toInt64).toInt32.toInt < Pzz
    rw [wt]; exact s2zz
/-- without a past -/
def TzN (pl : List CR) (isl mv o : Ob) (n : Nat) : Prop := WiL isl (gA o 3) ∧ TzM mv (gA o 3) ∧ (∀ zzz, f_X2_lawInForce isl = some zzz → LwP pl zzz (gA o 3) (gA o 3 3)) ∧ gI o 20 = 0 ∧ (gA o 3 0).toInt = (n : Int)
set_option maxHeartbeats 200000 in
theorem TzN.mv {pl : List CR} {isl mv o mv' o' : Ob} {n : Nat} (hzz : TzN pl isl mv o n) (wzz : RwC n (gA o 3) (gA o' 3)) (hMzz : TzM mv' (gA o' 3)) (e20 : gI o' 20 = gI o 20) : TzN pl isl mv' o' n := ⟨hzz.1.rw' wzz, hMzz, fun zzz ez => (hzz.2.2.1 zzz ez).rw' wzz, e20.trans hzz.2.2.2.1, by rw [wzz 0 (by omega)]; exact hzz.2.2.2.2⟩
set_option maxHeartbeats 200000 in
theorem TzN.sc {pl : List CR} {isl mv o o' : Ob} {n : Nat} (hzz : TzN pl isl mv o n) (e3zz : gA o' 3 = gA o 3) (e20 : gI o' 20 = gI o 20) : TzN pl isl mv o' n := hzz.mv (by rw [e3zz]; exact RwC.rf) (by rw [e3zz]; exact hzz.2.1) e20
/-- what a century's step leaves of the reference -/
def dCe : DD := ([34, 38, 43], [39, 40, 60], [3, 41, 42], [35, 37], [])
set_option maxHeartbeats 200000 in
theorem pap_pass {pl : List CR} {isl mv czz mezz o : Ob} {n : Nat} {yzz : Int32 × Ob × Ob × Ob} {y' : Int32 × Ob} (hSzz : TzN pl isl mv o n) (hy : (gA o 3 4).toInt < 999) (h1 : f_X1_moved_N czz isl mv mezz pl 3 0 = some yzz) (h2 : f_X9_passIt o = some y') : TzN pl isl yzz.2.2.1 y'.2 n ∧ RwC n (gA o 3) (gA y'.2 3) := by
  obtain ⟨hI, hMzz, hL, h20, en⟩ := id hSzz
  unfold f_X1_moved_N at h1
  have h1 := z_t (z_f h1 (by decide)) rfl
  rw [hMzz.2.2.2.1.1] at h1
  have h1 := z_t h1 (Int32.lt_iff_toInt_lt.mpr (by rw [(by decide : (999 : Int32).toInt = 999)]; exact hy))
  unfold bk_X1_moved_N_71 bk_X1_moved_N_118 at h1
  have h1 := z_t h1 rfl
  unfold bk_X1_moved_N_142 at h1
  have h1 := z_f (z_f (z_f h1 (by decide)) (by decide)) (by decide)
  obtain ⟨z6, e6zz, h1⟩ := z_bd h1
  have h1 := Option.some.inj h1
  obtain ⟨r1zz, r2, r3, r4⟩ := pass_eq hL hI hMzz h20 en hy e6zz h2
  rw [← h1]
  exact ⟨hSzz.mv r4 r3 ((fr_f_X9_passIt h2).I 20 rfl), r4⟩
set_option maxHeartbeats 200000 in
theorem pap_take {pl : List CR} {isl mv czz mezz o o' : Ob} {n Pzz : Nat} {xzz : Int32} {yzz : Int32 × Ob × Ob × Ob} (hSzz : TzN pl isl mv o n) (eP : xzz.toInt = (Pzz : Int)) (hP : Pzz < n) (h1 : f_X1_moved_N czz isl mv mezz pl 2 xzz = some yzz) (h2 : f_X9_takeIt o xzz = some o') : TzN pl isl yzz.2.2.1 o' n ∧ RwC n (gA o 3) (gA o' 3) ∧ gI yzz.2.2.1 4 = gI mv 4 := by
  obtain ⟨hI, hMzz, hL, h20, en⟩ := id hSzz
  have hn7 : n ≤ 7 := by have := hI.1.2.2; omega
  have f2zz := fr_f_X9_takeIt h2
  unfold f_X1_moved_N at h1
  have h1 := z_f (z_f h1 (by decide)) (by decide)
  obtain ⟨z1, e1zz, h1⟩ := z_bd h1
  have q1zz : ¬ z1 = 0 := by
    rcases isP2 e1zz with ⟨-, uzz⟩ | ⟨uzz, -⟩
    · exact absurd ⟨by omega, by rw [hI.1.1]; omega⟩ uzz
    · exact uzz
  have h1 := z_t (z_f h1 q1zz) rfl
  rw [hMzz.2.2.1.1] at h1
  by_cases c0zz : gA o 3 7 = 0
  · have h1 := z_t h1 c0zz
    unfold bk_X1_moved_N_116 bk_X1_moved_N_118 at h1
    have h1 := Option.some.inj (z_f h1 (by decide))
    have n7 : (7 : Int32).toNatClampNeg = 7 := by decide
    have i15 : ((15 : Int32) + xzz).toNatClampNeg = 15 + Pzz := tnc_eq (by rw [i32_add (by decide : (15 : Int32).toInt = 15) eP (by omega) (by omega)]; omega)
    unfold f_X9_takeIt at h2
    rw [n7, i15] at h2
    have h2 := (z_gd h2).2
    obtain ⟨w2zz, k2zz, h2⟩ := z_bd h2
    have h2 := (z_gd h2).2
    obtain ⟨o4zz, k4zz, h2⟩ := z_lt h2
    obtain ⟨o5zz, k5zz, h2⟩ := z_lt h2
    have h2 := Option.some.inj h2
    have hp := hMzz.2.1 Pzz (by omega)
    have ea : gA o 3 (15 + Pzz) + gA o 3 7 = gA o 3 (15 + Pzz) := by
      rw [c0zz]; exact Int32.toInt_inj.mp (by rw [i32_add rfl (by decide : (0 : Int32).toInt = 0) (by omega) (by omega)]; omega)
    rw [ea] at k2zz
    have ew := with_id (M := 999) (by decide) ⟨hp.2.1, hp.2.2⟩ k2zz
    have eG : gA o' 3 = gA o 3 := by
      rw [← h2, k5zz, k4zz]
      show upd (upd (gA o 3) (15 + Pzz) w2zz) 7 0 = gA o 3
      rw [upd_own (azz := 15 + Pzz) ew]
      exact upd_own c0zz.symm
    rw [← h1]
    exact ⟨hSzz.sc eG (f2zz.I 20 rfl), by rw [eG]; exact RwC.rf, rfl⟩
  · have h1 := z_f h1 c0zz
    unfold bk_X1_moved_N_115 bk_X1_moved_N_116 bk_X1_moved_N_118 at h1
    have h1 := z_t h1 rfl
    unfold bk_X1_moved_N_142 at h1
    have h1 := z_t (z_f (z_f h1 (by decide)) (by decide)) rfl
    obtain ⟨z5, e5zz, h1⟩ := z_bd h1
    have h1 := Option.some.inj h1
    obtain ⟨r1zz, r2, r3, r4⟩ := take_eq hMzz eP hP hn7 e5zz h2
    rw [← h1]
    exact ⟨hSzz.mv r4 r3 (f2zz.I 20 rfl), r4, (fr_f_X1_takenGap e5zz).I 4 rfl⟩
set_option maxHeartbeats 200000 in
theorem pap_enter {pl : List CR} {isl mv czz mezz o o5zz : Ob} {n Pzz : Nat} {xzz : Int32} {yzz : Int32 × Ob × Ob × Ob} (hSzz : TzN pl isl mv o n) (eP : xzz.toInt = (Pzz : Int)) (hP : Pzz < n) (h1 : f_X1_moved_N czz isl mv mezz pl 1 xzz = some yzz) (e5zz : gA o5zz 3 = upd (gA o 3) (22 + Pzz) ((1 : Int32) - gA o 3 (22 + Pzz))) (e20 : gI o5zz 20 = gI o 20) : TzN pl isl yzz.2.2.1 o5zz n ∧ RwC n (gA o 3) (gA o5zz 3) ∧ gI yzz.2.2.1 4 = gI mv 4 := by
  obtain ⟨hI, hMzz, hL, h20, en⟩ := id hSzz
  have hn7 : n ≤ 7 := by have := hI.1.2.2; omega
  unfold f_X1_moved_N at h1
  have h1 := z_f (z_f h1 (by decide)) (by decide)
  obtain ⟨z1, e1zz, h1⟩ := z_bd h1
  have q1zz : ¬ z1 = 0 := by
    rcases isP2 e1zz with ⟨-, uzz⟩ | ⟨uzz, -⟩
    · exact absurd ⟨by omega, by rw [hI.1.1]; omega⟩ uzz
    · exact uzz
  have h1 := z_f (z_f h1 q1zz) (by decide)
  unfold bk_X1_moved_N_115 bk_X1_moved_N_116 bk_X1_moved_N_118 at h1
  have h1 := z_t h1 rfl
  unfold bk_X1_moved_N_142 at h1
  have h1 := z_t (z_f h1 (by decide)) rfl
  obtain ⟨z4, e4zz, h1⟩ := z_bd h1
  have h1 := Option.some.inj h1
  obtain ⟨r1zz, r2, r3, r4⟩ := entr_eq hMzz eP hP hn7 e4zz e5zz
  rw [← h1]
  exact ⟨hSzz.mv r4 r3 e20, r4, (fr_f_X1_changedEntry e4zz).I 4 rfl⟩
set_option maxHeartbeats 200000 in
theorem held_lp {czz isl : Ob} {pl : List CR} {fzz : Int32} {yzz : Int32 × Ob × Ob} : ∀ (Nzz : Nat) (vzz : Int32) (mv mezz : Ob), lp_X1_heldRace_186 czz isl pl Nzz (fzz, vzz, mv, mezz) = some yzz → yzz.1 = fzz := by
  intro Nzz
  induction Nzz with
  | zero => intro vzz mv mezz hzz; cases hzz
  | succ Nzz ihzz =>
    intro vzz mv mezz hzz
    have hzz : lb_X1_heldRace_186 czz isl pl (lp_X1_heldRace_186 czz isl pl Nzz) fzz vzz mv mezz = some yzz := hzz
    unfold lb_X1_heldRace_186 at hzz
    rcases z_if hzz with ⟨-, hzz⟩ | ⟨-, hzz⟩
    · rw [← Option.some.inj hzz]
    · have hzz := (z_gd hzz).2
      obtain ⟨m9zz, -, hzz⟩ := z_lt hzz
      obtain ⟨x10, -, hzz⟩ := z_lt hzz
      exact ihzz _ _ _ hzz
set_option maxHeartbeats 200000 in
theorem held163 {czz isl mv mezz : Ob} {pl : List CR} {fzz t wzz : Int32} {yzz : Int32 × Ob × Ob} (hzz : bk_X1_heldRace_163 czz isl pl fzz t wzz mv mezz = some yzz) : yzz.1 = fzz := by
  unfold bk_X1_heldRace_163 at hzz
  rcases z_if hzz with ⟨-, hzz⟩ | ⟨-, hzz⟩
  · unfold bk_X1_heldRace_183 at hzz; exact held_lp _ _ _ _ hzz
  · obtain ⟨zzz, -, hzz⟩ := z_bd hzz
    unfold bk_X1_heldRace_183 at hzz; exact held_lp _ _ _ _ hzz
set_option maxHeartbeats 200000 in
theorem held145 {czz isl mv mezz : Ob} {pl : List CR} {fzz t wzz w3zz : Int32} {yzz : Int32 × Ob × Ob} (hzz : bk_X1_heldRace_145 czz isl pl fzz t wzz w3zz mv mezz = some yzz) : yzz.1 = fzz := by
  unfold bk_X1_heldRace_145 at hzz
  rcases z_if hzz with ⟨-, hzz⟩ | ⟨-, hzz⟩
  · exact held163 hzz
  · obtain ⟨zzz, -, hzz⟩ := z_bd hzz
    exact held163 hzz
set_option maxHeartbeats 200000 in
theorem held87 {czz isl mv mezz : Ob} {pl : List CR} {lz : Option Nat} {rc fzz s t w1zz w2zz w3zz : Int32} {yzz : Int32 × Ob × Ob} (hzz : bk_X1_heldRace_87 czz isl pl rc lz fzz s t w1zz w2zz w3zz mv mezz = some yzz) : yzz.1 = fzz := by
  unfold bk_X1_heldRace_87 at hzz
  rcases z_if hzz with ⟨-, hzz⟩ | ⟨-, hzz⟩
  · exact held145 hzz
  · obtain ⟨zzz, -, hzz⟩ := z_bd hzz
    have hzz := (z_gd hzz).2
    obtain ⟨m1zz, -, hzz⟩ := z_lt hzz
    obtain ⟨m2zz, -, hzz⟩ := z_lt hzz
    exact held145 hzz
set_option maxHeartbeats 200000 in
theorem held66 {czz isl mv mezz : Ob} {pl : List CR} {lz : Option Nat} {rc fzz s t w1zz w2zz : Int32} {yzz : Int32 × Ob × Ob} (hzz : bk_X1_heldRace_66 czz isl pl rc lz fzz s t w1zz w2zz mv mezz = some yzz) : yzz.1 = fzz := by
  unfold bk_X1_heldRace_66 at hzz
  rcases z_if hzz with ⟨-, hzz⟩ | ⟨-, hzz⟩
  · exact held87 hzz
  · obtain ⟨zzz, -, hzz⟩ := z_bd hzz
    exact held87 hzz
set_option maxHeartbeats 200000 in
theorem held45 {czz isl mv mezz : Ob} {pl : List CR} {lz : Option Nat} {rc fzz s t w1zz : Int32} {yzz : Int32 × Ob × Ob} (hzz : bk_X1_heldRace_45 czz isl pl rc lz fzz s t w1zz mv mezz = some yzz) : yzz.1 = fzz := by
  unfold bk_X1_heldRace_45 at hzz
  rcases z_if hzz with ⟨-, hzz⟩ | ⟨-, hzz⟩
  · exact held66 hzz
  · obtain ⟨zzz, -, hzz⟩ := z_bd hzz
    exact held66 hzz
set_option maxHeartbeats 200000 in
theorem held_nn {czz isl mv mezz o : Ob} {pl : List CR} {rc : Int32} {n kzz : Nat} {yzz : Int32 × Ob × Ob} (hTzz : Lne czz o n kzz) (hk : 1 ≤ kzz) (hzz : f_X1_heldRace czz isl mv mezz pl rc = some yzz) : ¬ yzz.1 < (0 : Int32) := by
  unfold f_X1_heldRace at hzz
  obtain ⟨lz, el, hzz⟩ := z_bd hzz
  obtain ⟨fzz, ef, hzz⟩ := z_bd hzz
  obtain ⟨s, es, hzz⟩ := z_bd hzz
  obtain ⟨t, et, hzz⟩ := z_bd hzz
  have hf : fzz = gA czz 2 0 := by
    rcases at_eq (izz := 0) hTzz.2.1 (by decide) (by decide) ef with ⟨-, qzz⟩ | ⟨qzz, -⟩
    · exact qzz
    · omega
  have ey : yzz.1 = fzz := by
    rcases z_if hzz with ⟨-, hzz⟩ | ⟨-, hzz⟩
    · exact held45 hzz
    · obtain ⟨zzz, -, hzz⟩ := z_bd hzz
      exact held45 hzz
  rw [ey, hf]
  intro qzz
  have qzz := cv_lt (a := (gA czz 2 0).toInt) (b := 0) rfl (by decide) qzz
  have := (hTzz.2.2 0 (by omega)).2.1
  omega
set_option maxHeartbeats 200000 in
theorem pap_race {pl : List CR} {isl mv czz mezz o w2zz : Ob} {n R : Nat} {xzz : Int32} {yzz : Int32 × Ob × Ob × Ob} (hSzz : TzN pl isl mv o n) (eR : xzz.toInt = (R : Int)) (hR : R < 4) (h1 : f_X1_moved_N czz isl mv mezz pl 0 xzz = some yzz) (k2zz : f_X9_layPlaces o xzz = some w2zz) :
    (yzz.1 < (0 : Int32) ∧ gI w2zz 43 ≤ (0 : Int32) ∧ TzN pl isl yzz.2.2.1 w2zz n ∧ gI yzz.2.2.1 4 = gI mv 4) ∨ (¬ yzz.1 < (0 : Int32) ∧ ¬ gI w2zz 43 ≤ (0 : Int32) ∧ ∀ w4zz, f_X9_raceIt w2zz xzz = some w4zz → TzN pl isl yzz.2.2.1 w4zz.2 n ∧ RwC n (gA o 3) (gA w4zz.2 3) ∧ gI yzz.2.2.1 4 = gI mv 4) := by
  obtain ⟨hI, hMzz, hL, h20, en⟩ := id hSzz
  unfold f_X1_moved_N at h1
  have h1 := z_t h1 rfl
  obtain ⟨z8, e8, h1⟩ := z_bd h1
  have q8zz : ¬ z8 = 0 := by
    rcases isR8 e8 with ⟨-, uzz⟩ | ⟨uzz, -⟩
    · exact absurd ⟨by omega, by omega⟩ uzz
    · exact uzz
  have h1 := z_f h1 q8zz
  obtain ⟨z9, e9zz, h1⟩ := z_bd h1
  obtain ⟨z10, e10zz, h1⟩ := z_bd h1
  have f2zz := fr_f_X9_layPlaces k2zz
  have eG : gA w2zz 3 = gA o 3 := f2zz.A 3 rfl
  obtain ⟨kzz, hkn, hTzz, hz⟩ := line_eq (hL z9 e9zz) (WtL.of hI hMzz) hMzz.2.2.2.2.1 h20 en eR hR e10zz k2zz
  rw [hz, hTzz.1] at h1
  have tk := hTzz.2.1
  rw [hTzz.1] at tk
  by_cases c0zz : gI w2zz 43 = 0
  · have h1 := z_t h1 c0zz
    unfold bk_X1_moved_N_39 bk_X1_moved_N_118 at h1
    have h1 := Option.some.inj (z_f h1 (by decide))
    rw [← h1]
    exact Or.inl ⟨by show (-3 : Int32) < 0; decide, by rw [c0zz]; decide, hSzz.sc eG (f2zz.I 20 rfl), rfl⟩
  · have h1 := z_f h1 c0zz
    have c1zz := cv_ne (a := (kzz : Int)) (b := 0) tk (by decide) c0zz
    unfold bk_X1_moved_N_39 bk_X1_moved_N_118 at h1
    have h1 := z_t h1 rfl
    unfold bk_X1_moved_N_142 at h1
    have h1 := z_t h1 rfl
    obtain ⟨z3, e3zz, h1⟩ := z_bd h1
    have h1 := Option.some.inj h1
    have nlezz : ¬ gI w2zz 43 ≤ (0 : Int32) := fun qzz => by have qzz := cv_le (a := (kzz : Int)) (b := 0) tk (by decide) qzz; omega
    have rr : ∀ w4zz, f_X9_raceIt w2zz xzz = some w4zz → z3.1 = w4zz.1 ∧ 0 ≤ w4zz.1.toInt ∧ TzM z3.2.1 (gA w4zz.2 3) ∧ RwC n (gA w2zz 3) (gA w4zz.2 3) := fun w4zz k4zz => race_eq (o := w2zz) (n := n) (kzz := kzz) (by rw [eG]; exact hL) (by rw [eG]; exact WtL.of hI hMzz) (by rw [eG]; exact hMzz) ((f2zz.I 20 rfl).trans h20) (by rw [eG]; exact en) eR hR hTzz.lne (by omega) hkn e3zz k4zz
    rw [← h1]
    refine Or.inr ⟨?_, nlezz, fun w4zz k4zz => ?_⟩
    · -- the first of the line
      show ¬ z3.1 < (0 : Int32)
      exact held_nn hTzz.lne (by omega) e3zz
    · obtain ⟨-, -, r3, r4⟩ := rr w4zz k4zz
      rw [eG] at r4
      exact ⟨hSzz.mv r4 r3 (((fr_f_X9_raceIt k4zz).I 20 rfl).trans (f2zz.I 20 rfl)), r4, (fr_f_X1_heldRace e3zz).1.I 4 rfl⟩
