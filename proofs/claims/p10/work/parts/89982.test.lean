-- calls that move, under the whole tie
set_option maxHeartbeats 200000 in
theorem TF.sI0 {pl : List CR} {o0zz o1 o4zz o5zz o8zz o6 o11 o9 : Ob} {im0 im1 : Option IR} {vzz : Int32} (hzz : TF pl o0zz o1 o4zz o5zz o8zz o6 o11 o9 im0 im1) : TF pl o0zz o1 o4zz o5zz o8zz o6 o11 (sI o9 0 vzz) im0 im1 := hzz.rd (FrX.sI FrX.rf rfl : FrX (([0], [], [], [], []) : DD) o9 (sI o9 0 vzz)) rfl
/-- what a call that changes the row leaves -/
def dMv : DD := ([0, 1, 8, 20, 34, 38, 43, 56, 57, 59], [39, 40, 60], [2, 3, 6, 7, 9, 10, 41, 42], [35, 36, 37], [])
set_option maxHeartbeats 200000 in
theorem TF.put {pl : List CR} {o0zz o1 o4zz o5zz o8zz o6 o11 o9 o0' mv' pa' o9' : Ob} {im0 im1 : Option IR} {n : Nat} (hzz : TF pl o0zz o1 o4zz o5zz o8zz o6 o11 o9 im0 im1) (fzz : FrX dMv o9 o9') (hn : n = (gA o9 3 0).toInt.toNat) (wzz : RwC n (gA o9 3) (gA o9' 3)) (hMzz : TzM mv' (gA o9' 3)) (hP : PaT pa' o9' n (gA o9' 3)) (hst : StT o0' o9') (e13zz : gI o0' 13 = gI o0zz 13) (e14zz : gI o0' 14 = gI o9' 58) (eR : gR o0' 7 = gR o0zz 7) : TF pl o0' o1 o4zz mv' o8zz o6 pa' o9' im0 im1 := by
  have hNzz := hzz.n
  obtain ⟨⟨h1, h2⟩, h3, ⟨h4, h4'⟩, h5, h6, h7, h8, h9, h10⟩ := hzz
  have e0zz : gA o9' 3 0 = gA o9 3 0 := wzz 0 (by omega)
  refine ⟨⟨by rw [fzz.I 13 rfl]; exact h1, by rw [fzz.A 12 rfl]; exact h2⟩, by rw [fzz.I 11 rfl, e13zz]; exact h3, ⟨h4.eq (fzz.M 31 rfl) (fzz.M 32 rfl), h4'.eq2 (fzz.M 33 rfl) (fzz.M 54 rfl)⟩, hst, e14zz, h7.eq (fzz.I 62 rfl) (fzz.A 61 rfl), h8.mv (by rw [hn]; exact hNzz.1) wzz hMzz, by rw [e0zz, ← hn]; exact hP, h10.eq eR (fzz.A 5 rfl) (fzz.A 4 rfl)⟩
set_option maxHeartbeats 200000 in
theorem ans_eq {o8zz o : Ob} {vzz : Int32} {zzz wzz : Int32 × Ob} (hzz : StT o8zz o) (hv : (vzz = -1 ∨ vzz = -2 ∨ vzz = -3) ∨ 0 ≤ vzz.toInt) (h1 : f_X8_answer o8zz vzz = some zzz) (h2 : f_X9_tell o vzz = some wzz) : zzz.1 = vzz ∧ wzz.1 = vzz ∧ StT zzz.2 wzz.2 := by
  unfold f_X8_answer at h1
  rcases hv with hv | hv
  · have r0 : ¬ (0 : Int32) ≤ vzz := by rcases hv with qzz | qzz | qzz <;> subst qzz <;> decide
    obtain ⟨z2, k2zz, h1⟩ := z_bd (z_f h1 r0)
    have h1 := Option.some.inj h1
    rw [← h1]
    refine st_refuse hzz ?_ k2zz h2
    rcases hv with qzz | qzz | qzz
    · exact Or.inl qzz
    · exact Or.inr (Or.inl qzz)
    · exact Or.inr (Or.inr (Or.inl qzz))
  · have r0 : (0 : Int32) ≤ vzz := Int32.le_iff_toInt_le.mpr (by rw [(by decide : (0 : Int32).toInt = 0)]; exact hv)
    obtain ⟨z1, k1zz, h1⟩ := z_bd (z_t h1 r0)
    have h1 := Option.some.inj h1
    rw [← h1]
    exact st_grant hzz hv k1zz h2
set_option maxHeartbeats 200000 in
theorem TF.move {pl : List CR} {o0zz o1 o4zz o5zz o8zz o6 o11 o9 mv' pa' o' : Ob} {im0 im1 : Option IR} {n : Nat} {vzz v' : Int32} {zzz wzz : Int32 × Ob} (hzz : TF pl o0zz o1 o4zz o5zz o8zz o6 o11 o9 im0 im1) (hn : n = (gA o9 3 0).toInt.toNat) (hmzz : MvE pl o4zz o5zz o9 n vzz v' mv' pa' o') (fzz : FrX d_X9_act_me o9 o') (k1zz : f_X8_answer o0zz vzz = some zzz) (k2zz : f_X9_tell o' v' = some wzz) : zzz.1 = wzz.1 ∧ TF pl zzz.2 o1 o4zz mv' o8zz o6 pa' wzz.2 im0 im1 := by
  obtain ⟨u1zz, u2zz, u3, u4zz, -⟩ := hmzz
  rw [u1zz] at k1zz
  have st' : StT o0zz o' := hzz.2.2.2.1.eq rfl rfl (fzz.I 1 rfl) (fzz.A 2 rfl)
  obtain ⟨s1zz, s2zz, s3zz⟩ := ans_eq st' u4zz k1zz k2zz
  have fa := fr_f_X8_answer k1zz
  have ft := fr_f_X9_tell k2zz
  have e3zz : gA wzz.2 3 = gA o' 3 := ft.A 3 rfl
  refine ⟨s1zz.trans s2zz.symm, hzz.put ((fzz.mono rfl).tr (ft.mono rfl)) hn (by rw [e3zz]; exact u3) (by rw [e3zz]; exact u2zz.2.1) (by rw [e3zz]; exact u2zz.2.2.1.eq (ft.I 8 rfl) (ft.A 6 rfl) (ft.A 7 rfl)) s3zz (fa.I 13 rfl) ?_ (fa.R 7 rfl)⟩
  rw [fa.I 14 rfl, ft.I 58 rfl, fzz.I 58 rfl]; exact hzz.2.2.2.2.1
set_option maxHeartbeats 200000 in
theorem tf_race {pl : List CR} {o0zz o1 mezz o4zz o5zz czz o8zz o6 o11 o9 : Ob} {im0 im1 : Option IR} {pzz : Int32} {yzz : Int32 × Ob × Ob × Ob × Ob × Ob} {y' : Int32 × Ob} (ht : TF pl o0zz o1 o4zz o5zz o8zz o6 o11 o9 im0 im1) (h20 : gI o9 20 = 0) (h1 : f_X8_race o0zz mezz o4zz o5zz czz o11 pl pzz = some yzz) (h2 : f_X9_race o9 pzz = some y') : yzz.1 = y'.1 ∧ TF pl yzz.2.1 o1 o4zz yzz.2.2.2.1 o8zz o6 yzz.2.2.2.2.2 y'.2 im0 im1 := by
  unfold f_X8_race at h1
  unfold f_X9_race at h2
  obtain ⟨z1, k1zz, h1⟩ := z_bd h1
  obtain ⟨z2, k2zz, h1⟩ := z_bd h1
  have h1 := Option.some.inj h1
  obtain ⟨q1zz, g1, h2⟩ := z_lt h2
  obtain ⟨w2zz, l2, h2⟩ := z_bd h2
  obtain ⟨w3zz, l3, h2⟩ := z_bd h2
  have h2 := Option.some.inj h2
  have ht1 : TF pl o0zz o1 o4zz o5zz o8zz o6 o11 q1zz im0 im1 := by rw [g1]; exact ht.sI0
  rw [← h1, ← h2]
  exact ht1.move rfl (race_move (ht1.s (by rw [g1]; exact h20)) k1zz l2) ((fr_f_X9_raceNow l2).mono rfl) k2zz l3
set_option maxHeartbeats 200000 in
theorem tf_enter {pl : List CR} {o0zz o1 mezz o4zz o5zz czz o8zz o6 o11 o9 : Ob} {im0 im1 : Option IR} {pzz : Int32} {yzz : Int32 × Ob × Ob × Ob × Ob × Ob} {y' : Int32 × Ob} (ht : TF pl o0zz o1 o4zz o5zz o8zz o6 o11 o9 im0 im1) (h20 : gI o9 20 = 0) (h1 : f_X8_enter o0zz mezz o4zz o5zz czz o11 pl pzz = some yzz) (h2 : f_X9_enter o9 pzz = some y') : yzz.1 = y'.1 ∧ TF pl yzz.2.1 o1 o4zz yzz.2.2.2.1 o8zz o6 yzz.2.2.2.2.2 y'.2 im0 im1 := by
  unfold f_X8_enter at h1
  unfold f_X9_enter at h2
  obtain ⟨z1, k1zz, h1⟩ := z_bd h1
  obtain ⟨z2, k2zz, h1⟩ := z_bd h1
  have h1 := Option.some.inj h1
  obtain ⟨q1zz, g1, h2⟩ := z_lt h2
  obtain ⟨w2zz, l2, h2⟩ := z_bd h2
  obtain ⟨w3zz, l3, h2⟩ := z_bd h2
  have h2 := Option.some.inj h2
  have ht1 : TF pl o0zz o1 o4zz o5zz o8zz o6 o11 q1zz im0 im1 := by rw [g1]; exact ht.sI0
  rw [← h1, ← h2]
  exact ht1.move rfl (enter_move (ht1.s (by rw [g1]; exact h20)) k1zz l2) ((fr_f_X9_enterNow l2).mono rfl) k2zz l3
set_option maxHeartbeats 200000 in
theorem tf_take {pl : List CR} {o0zz o1 mezz o4zz o5zz czz o8zz o6 o11 o9 : Ob} {im0 im1 : Option IR} {pzz : Int32} {yzz : Int32 × Ob × Ob × Ob × Ob × Ob} {y' : Int32 × Ob} (ht : TF pl o0zz o1 o4zz o5zz o8zz o6 o11 o9 im0 im1) (h20 : gI o9 20 = 0) (h1 : f_X8_take o0zz mezz o4zz o5zz czz o11 pl pzz = some yzz) (h2 : f_X9_take o9 pzz = some y') : yzz.1 = y'.1 ∧ TF pl yzz.2.1 o1 o4zz yzz.2.2.2.1 o8zz o6 yzz.2.2.2.2.2 y'.2 im0 im1 := by
  unfold f_X8_take at h1
  unfold f_X9_take at h2
  obtain ⟨z1, k1zz, h1⟩ := z_bd h1
  obtain ⟨z2, k2zz, h1⟩ := z_bd h1
  have h1 := Option.some.inj h1
  obtain ⟨q1zz, g1, h2⟩ := z_lt h2
  obtain ⟨w2zz, l2, h2⟩ := z_bd h2
  obtain ⟨w3zz, l3, h2⟩ := z_bd h2
  have h2 := Option.some.inj h2
  have ht1 : TF pl o0zz o1 o4zz o5zz o8zz o6 o11 q1zz im0 im1 := by rw [g1]; exact ht.sI0
  rw [← h1, ← h2]
  exact ht1.move rfl (take_move (ht1.s (by rw [g1]; exact h20)) k1zz l2) ((fr_f_X9_takeNow l2).mono rfl) k2zz l3
set_option maxHeartbeats 200000 in
theorem tf_pass {pl : List CR} {o0zz o1 mezz o4zz o5zz czz o8zz o6 o11 o9 : Ob} {im0 im1 : Option IR} {yzz : Int32 × Ob × Ob × Ob × Ob × Ob} {y' : Int32 × Ob} (ht : TF pl o0zz o1 o4zz o5zz o8zz o6 o11 o9 im0 im1) (h20 : gI o9 20 = 0) (h1 : f_X8_pass o0zz mezz o4zz o5zz czz o11 pl = some yzz) (h2 : f_X9_pass o9 = some y') : yzz.1 = y'.1 ∧ TF pl yzz.2.1 o1 o4zz yzz.2.2.2.1 o8zz o6 yzz.2.2.2.2.2 y'.2 im0 im1 := by
  unfold f_X8_pass at h1
  unfold f_X9_pass at h2
  obtain ⟨z1, k1zz, h1⟩ := z_bd h1
  obtain ⟨z2, k2zz, h1⟩ := z_bd h1
  have h1 := Option.some.inj h1
  obtain ⟨q1zz, g1, h2⟩ := z_lt h2
  obtain ⟨w2zz, l2, h2⟩ := z_bd h2
  obtain ⟨w3zz, l3, h2⟩ := z_bd h2
  have h2 := Option.some.inj h2
  have ht1 : TF pl o0zz o1 o4zz o5zz o8zz o6 o11 q1zz im0 im1 := by rw [g1]; exact ht.sI0
  rw [← h1, ← h2]
  exact ht1.move rfl (pass_move (ht1.s (by rw [g1]; exact h20)) k1zz l2) ((fr_f_X9_passNow l2).mono rfl) k2zz l3
set_option maxHeartbeats 200000 in
theorem tf_undo {pl : List CR} {o0zz o1 o4zz o5zz o8zz o6 o11 o9 : Ob} {im0 im1 : Option IR} {yzz : Int32 × Ob × Ob × Ob} {y' : Int32 × Ob} (ht : TF pl o0zz o1 o4zz o5zz o8zz o6 o11 o9 im0 im1) (h20 : gI o9 20 = 0) (h1 : f_X8_undo o0zz o4zz o5zz o11 = some yzz) (h2 : f_X9_undo o9 = some y') : yzz.1 = y'.1 ∧ TF pl yzz.2.1 o1 o4zz yzz.2.2.1 o8zz o6 yzz.2.2.2 y'.2 im0 im1 := by
  unfold f_X8_undo at h1
  unfold f_X9_undo at h2
  obtain ⟨q1zz, g1, h2⟩ := z_lt h2
  have ht1 : TF pl o0zz o1 o4zz o5zz o8zz o6 o11 q1zz im0 im1 := by rw [g1]; exact ht.sI0
  have hSzz := ht1.s (by rw [g1]; exact h20)
  have e8 : gI o11 3 = gI q1zz 8 := hSzz.2.2.1.1
  rw [← e8] at h2
  by_cases czz : gI o11 3 = 0
  · obtain ⟨z3, k3zz, h1⟩ := z_bd (z_t h1 czz)
    obtain ⟨w6zz, l6, h2⟩ := z_bd (z_t h2 czz)
    have h1 := Option.some.inj h1
    have h2 := Option.some.inj h2
    obtain ⟨s1zz, s2zz, s3zz⟩ := st_refuse ht1.2.2.2.1 (Or.inr (Or.inr (Or.inl rfl))) k3zz l6
    have fa := fr_f_X8_refuse k3zz
    have ft := fr_f_X9_tell l6
    have e3zz : gA w6zz.2 3 = gA q1zz 3 := ft.A 3 rfl
    rw [← h1, ← h2]
    refine ⟨s1zz.trans s2zz.symm, ht1.put (ft.mono rfl) rfl (by rw [e3zz]; exact RwC.rf) (by rw [e3zz]; exact hSzz.2.1) (by rw [e3zz]; exact hSzz.2.2.1.eq (ft.I 8 rfl) (ft.A 6 rfl) (ft.A 7 rfl)) s3zz (fa.I 13 rfl) ?_ (fa.R 7 rfl)⟩
    rw [fa.I 14 rfl, ft.I 58 rfl]; exact ht1.2.2.2.2.1
  · obtain ⟨z1, k1zz, h1⟩ := z_bd (z_f h1 czz)
    obtain ⟨z2, k2zz, h1⟩ := z_bd h1
    have h1 := Option.some.inj h1
    obtain ⟨q2zz, g2, h2⟩ := z_lt (z_f h2 czz)
    obtain ⟨w3zz, l3, h2⟩ := z_bd h2
    have h2 := (z_gd h2).2
    obtain ⟨w5, l5, h2⟩ := z_bd h2
    have h2 := Option.some.inj h2
    obtain ⟨r1zz, r2, r3, r4⟩ := bring_eq hSzz czz k1zz (by rw [g2, e8]) l3
    have fpzz := fr_f_X9_putBack l3
    have e21zz : gI q2zz 1 = gI q1zz 1 := by rw [g2]; rfl
    have e2A : ∀ izz, gA q2zz izz = gA q1zz izz := fun izz => by rw [g2]; rfl
    have st3zz : StT o0zz w3zz := ht1.2.2.2.1.eq rfl rfl ((fpzz.I 1 rfl).trans e21zz) ((fpzz.A 2 rfl).trans (e2A 2))
    rw [← r1zz] at l5
    obtain ⟨s1zz, s2zz, s3zz⟩ := st_grant st3zz r2 k2zz l5
    have fa := fr_f_X8_grant k2zz
    have ft := fr_f_X9_tell l5
    have e3zz : gA w5.2 3 = gA w3zz 3 := ft.A 3 rfl
    have Fzz : FrX dMv q1zz w5.2 := ((by rw [g2]; exact FrX.sI FrX.rf rfl : FrX dMv q1zz q2zz).tr (fpzz.mono rfl)).tr (ft.mono rfl)
    rw [← h1, ← h2]
    refine ⟨s1zz.trans s2zz.symm, ht1.put Fzz rfl (by rw [e3zz]; exact r4) (by rw [e3zz]; exact r3.2.1) (by rw [e3zz]; exact r3.2.2.1.eq (ft.I 8 rfl) (ft.A 6 rfl) (ft.A 7 rfl)) s3zz (fa.I 13 rfl) ?_ (fa.R 7 rfl)⟩
    rw [fa.I 14 rfl, Fzz.I 58 rfl]; exact ht1.2.2.2.2.1
set_option maxHeartbeats 200000 in
theorem tf_cent {pl : List CR} {o0zz o1 mezz o4zz o5zz o8zz o6 czz o11 o9 : Ob} {im0 im1 : Option IR} {p0zz p1zz : Int32} {yzz : Int32 × Ob × Ob × Ob × Ob × Ob} {y' : Int32 × Ob} (ht : TF pl o0zz o1 o4zz o5zz o8zz o6 o11 o9 im0 im1) (h20 : gI o9 20 = 0) (h1 : f_X8_centuries o0zz mezz o4zz o5zz o8zz o6 czz pl p0zz p1zz = some yzz) (h2 : f_X9_centuries o9 p0zz p1zz = some y') (e13zz : gI yzz.2.1 13 = gI o0zz 13) (e14zz : gI yzz.2.1 14 = gI o0zz 14) (eR : gR yzz.2.1 7 = gR o0zz 7) : yzz.1 = y'.1 ∧ TF pl yzz.2.1 o1 o4zz o5zz yzz.2.2.2.1 yzz.2.2.2.2.1 o11 y'.2 im0 im1 := by
  obtain ⟨r1zz, r2, r3, r4, r5zz⟩ := cent_eq (ht.s h20) ht.2.2.2.1 ht.2.2.2.2.2.1 h1 h2
  have fzz := fr_f_X9_centuries h2
  obtain ⟨⟨g1, g2⟩, g3zz, ⟨g4, g4'⟩, g5zz, g6, g7, g8, g9, g10⟩ := ht
  refine ⟨r1zz, ⟨by rw [fzz.I 13 rfl]; exact g1, by rw [fzz.A 12 rfl]; exact g2⟩, by rw [fzz.I 11 rfl, e13zz]; exact g3zz, ⟨g4.eq (fzz.M 31 rfl) (fzz.M 32 rfl), g4'.eq2 (fzz.M 33 rfl) (fzz.M 54 rfl)⟩, r4, by rw [e14zz, fzz.I 58 rfl]; exact g6, r5zz, by rw [r3]; exact g8, ?_, g10.eq eR (fzz.A 5 rfl) (fzz.A 4 rfl)⟩
  have wzz := r2.2.2.1
  rw [r3] at wzz ⊢
  exact wzz
