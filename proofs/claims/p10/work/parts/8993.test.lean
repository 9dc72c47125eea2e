-- orders in both
set_option maxHeartbeats 200000 in
theorem setM {mv azz mv' : Ob} (hzz : f_X4_set_O mv azz = some mv') : (∀ jzz, jzz < 7 → gA mv' 0 jzz = gA azz 0 jzz) ∧ (∀ jzz, jzz < 7 → gA mv' 1 jzz = gA azz 1 jzz) ∧ gI mv' 2 = gI azz 2 ∧ gI mv' 3 = gI azz 3 ∧ gI mv' 4 = gI azz 4 := by
  have n0zz : (0 : Int32).toNatClampNeg = 0 := by decide
  have n7 : (7 : Int32).toNatClampNeg = 7 := by decide
  unfold f_X4_set_O at hzz
  have hzz := (z_gd hzz).2
  obtain ⟨o2, e2zz, hzz⟩ := z_lt hzz
  have hzz := (z_gd hzz).2
  obtain ⟨o4zz, e4zz, hzz⟩ := z_lt hzz
  obtain ⟨o5zz, e5zz, hzz⟩ := z_lt hzz
  obtain ⟨o6, e6zz, hzz⟩ := z_lt hzz
  obtain ⟨o7, e7zz, hzz⟩ := z_lt hzz
  have hzz := Option.some.inj hzz
  unfold cA at e2zz e4zz
  rw [n0zz, n7] at e2zz e4zz
  subst e2zz e4zz e5zz e6zz e7zz hzz
  refine ⟨fun jzz hj => ?_, fun jzz hj => ?_, rfl, rfl, rfl⟩
  · show (if 0 ≤ jzz ∧ jzz < 0 + 7 then gA azz 0 (0 + (jzz - 0)) else gA mv 0 jzz) = _
    rw [if_pos (by omega), Nat.zero_add, Nat.sub_zero]
  · show (if 0 ≤ jzz ∧ jzz < 0 + 7 then gA azz 1 (0 + (jzz - 0)) else _) = _
    rw [if_pos (by omega), Nat.zero_add, Nat.sub_zero]
set_option maxHeartbeats 200000 in
theorem setP {pa azz pa' : Ob} (hzz : f_X5_set_O pa azz = some pa') : gI pa' 2 = gI azz 2 ∧ gI pa' 3 = gI azz 3 ∧ (∀ jzz, jzz < 16 → gA pa' 0 jzz = gA azz 0 jzz) ∧ (∀ jzz, jzz < 272 → gA pa' 1 jzz = gA azz 1 jzz) := by
  have n0zz : (0 : Int32).toNatClampNeg = 0 := by decide
  have n16 : (16 : Int32).toNatClampNeg = 16 := by decide
  have n272 : (272 : Int32).toNatClampNeg = 272 := by decide
  unfold f_X5_set_O at hzz
  obtain ⟨o1, e1zz, hzz⟩ := z_lt hzz
  obtain ⟨o2, e2zz, hzz⟩ := z_lt hzz
  have hzz := (z_gd hzz).2
  obtain ⟨o4zz, e4zz, hzz⟩ := z_lt hzz
  have hzz := (z_gd hzz).2
  obtain ⟨o6, e6zz, hzz⟩ := z_lt hzz
  have hzz := Option.some.inj hzz
  unfold cA at e4zz e6zz
  rw [n0zz, n16] at e4zz
  rw [n0zz, n272] at e6zz
  subst e1zz e2zz e4zz e6zz hzz
  refine ⟨rfl, rfl, fun jzz hj => ?_, fun jzz hj => ?_⟩
  · show (if 0 ≤ jzz ∧ jzz < 0 + 16 then gA azz 0 (0 + (jzz - 0)) else _) = _
    rw [if_pos (by omega), Nat.zero_add, Nat.sub_zero]
  · show (if 0 ≤ jzz ∧ jzz < 0 + 272 then gA azz 1 (0 + (jzz - 0)) else _) = _
    rw [if_pos (by omega), Nat.zero_add, Nat.sub_zero]
set_option maxHeartbeats 200000 in
theorem gb35 {o' : Ob} {qzz : Int32} : ∀ (Nzz : Nat) (vzz : Int32) (o : Ob) (izz : Nat), vzz.toInt = (izz : Int) → izz ≤ 16 → lp_X9_giveBack_35 Nzz (qzz, vzz, o) = some o' → (∀ jzz, gA o' 7 jzz = if izz ≤ jzz ∧ jzz < 16 then gA o 10 jzz else gA o 7 jzz) ∧ gI o' 8 = qzz ∧ gA o' 3 = gA o 3 ∧ gA o' 6 = gA o 6 ∧ gI o' 20 = gI o 20 := by
  intro Nzz
  induction Nzz with
  | zero => intro vzz o izz _ _ hzz; cases hzz
  | succ Nzz ihzz =>
    intro vzz o izz evzz hizz hzz
    have hzz : lb_X9_giveBack_35 (lp_X9_giveBack_35 Nzz) qzz vzz o = some o' := hzz
    unfold lb_X9_giveBack_35 at hzz
    rcases z_if hzz with ⟨czz, hzz⟩ | ⟨czz, hzz⟩
    · have czz := cv_le (a := 16) (b := (izz : Int)) (by decide) evzz czz
      obtain ⟨o2, e2zz, hzz⟩ := z_lt hzz
      rw [← Option.some.inj hzz, e2zz]
      exact ⟨fun jzz => by rw [if_neg (by omega)]; rfl, rfl, rfl, rfl, rfl⟩
    · have czz := cv_nle (a := 16) (b := (izz : Int)) (by decide) evzz czz
      have ivzz : vzz.toNatClampNeg = izz := tnc_eq evzz
      rw [ivzz] at hzz
      have hzz := (z_gd (z_gd hzz).2).2
      obtain ⟨o5zz, e5zz, hzz⟩ := z_lt hzz
      obtain ⟨x6, e6zz, hzz⟩ := z_lt hzz
      obtain ⟨r1zz, r2, r3, r4, r5zz⟩ := ihzz x6 o5zz (izz + 1) (by rw [e6zz]; exact Eq.trans (i32_add evzz (by decide : (1 : Int32).toInt = 1) (by omega) (by omega)) (by omega)) (by omega) hzz
      have a7 : ∀ jzz, gA o5zz 7 jzz = if jzz = izz then gA o 10 izz else gA o 7 jzz := fun jzz => by rw [e5zz]; rfl
      have a10 : gA o5zz 10 = gA o 10 := by rw [e5zz]; rfl
      refine ⟨fun jzz => ?_, r2, r3.trans (by rw [e5zz]; rfl), r4.trans (by rw [e5zz]; rfl), r5zz.trans (by rw [e5zz]; rfl)⟩
      rw [r1zz, a10, a7]
      by_cases d : jzz = izz
      · rw [if_neg (by omega), if_pos d, if_pos (by omega), d]
      · by_cases d2zz : izz ≤ jzz ∧ jzz < 16
        · rw [if_pos (by omega), if_pos d2zz]
        · rw [if_neg (by omega), if_neg d, if_neg d2zz]
set_option maxHeartbeats 200000 in
theorem gb8 {o' : Ob} {qzz : Int32} : ∀ (Nzz : Nat) (vzz : Int32) (o : Ob) (izz : Nat), vzz.toInt = (izz : Int) → izz ≤ 400 → lp_X9_giveBack_8 Nzz (qzz, vzz, o) = some o' → ∃ o1, lp_X9_giveBack_35 zfu (qzz, 0, o1) = some o' ∧ (∀ jzz, gA o1 6 jzz = if izz ≤ jzz ∧ jzz < 400 then gA o 9 jzz else gA o 6 jzz) ∧ gA o1 7 = gA o 7 ∧ gA o1 10 = gA o 10 ∧ gA o1 3 = gA o 3 ∧ gI o1 20 = gI o 20 := by
  intro Nzz
  induction Nzz with
  | zero => intro vzz o izz _ _ hzz; cases hzz
  | succ Nzz ihzz =>
    intro vzz o izz evzz hizz hzz
    have hzz : lb_X9_giveBack_8 (lp_X9_giveBack_8 Nzz) qzz vzz o = some o' := hzz
    unfold lb_X9_giveBack_8 at hzz
    rcases z_if hzz with ⟨czz, hzz⟩ | ⟨czz, hzz⟩
    · have czz := cv_le (a := 400) (b := (izz : Int)) (by decide) evzz czz
      exact ⟨o, hzz, fun jzz => by rw [if_neg (by omega)], rfl, rfl, rfl, rfl⟩
    · have czz := cv_nle (a := 400) (b := (izz : Int)) (by decide) evzz czz
      have ivzz : vzz.toNatClampNeg = izz := tnc_eq evzz
      rw [ivzz] at hzz
      have hzz := (z_gd (z_gd hzz).2).2
      obtain ⟨o5zz, e5zz, hzz⟩ := z_lt hzz
      obtain ⟨x6, e6zz, hzz⟩ := z_lt hzz
      obtain ⟨o1, r0, r1zz, r2, r3, r4, r5zz⟩ := ihzz x6 o5zz (izz + 1) (by rw [e6zz]; exact Eq.trans (i32_add evzz (by decide : (1 : Int32).toInt = 1) (by omega) (by omega)) (by omega)) (by omega) hzz
      have a6 : ∀ jzz, gA o5zz 6 jzz = if jzz = izz then gA o 9 izz else gA o 6 jzz := fun jzz => by rw [e5zz]; rfl
      have a9 : gA o5zz 9 = gA o 9 := by rw [e5zz]; rfl
      refine ⟨o1, r0, fun jzz => ?_, r2.trans (by rw [e5zz]; rfl), r3.trans (by rw [e5zz]; rfl), r4.trans (by rw [e5zz]; rfl), r5zz.trans (by rw [e5zz]; rfl)⟩
      rw [r1zz, a9, a6]
      by_cases d : jzz = izz
      · rw [if_neg (by omega), if_pos d, if_pos (by omega), d]
      · by_cases d2zz : izz ≤ jzz ∧ jzz < 400
        · rw [if_pos (by omega), if_pos d2zz]
        · rw [if_neg (by omega), if_neg d, if_neg d2zz]
set_option maxHeartbeats 200000 in
/-- what stood ahead of orders -/
def BfR (o0zz o : Ob) : Prop := (∀ jzz, jzz < 400 → gA o 9 jzz = gA o0zz 6 jzz) ∧ (∀ jzz, jzz < 16 → gA o 10 jzz = gA o0zz 7 jzz) ∧ (∀ t, t < 25 → gA o 6 (425 + t) = gA o0zz 3 (4 + t))
def BfC (mv0 pa0 mvAzz paA : Ob) : Prop := ((∀ jzz, jzz < 7 → gA mvAzz 0 jzz = gA mv0 0 jzz) ∧ (∀ jzz, jzz < 7 → gA mvAzz 1 jzz = gA mv0 1 jzz) ∧ gI mvAzz 2 = gI mv0 2 ∧ gI mvAzz 3 = gI mv0 3 ∧ gI mvAzz 4 = gI mv0 4) ∧ gI paA 2 = gI pa0 2 ∧ gI paA 3 = gI pa0 3 ∧ (∀ jzz, jzz < 16 → gA paA 0 jzz = gA pa0 0 jzz) ∧ (∀ jzz, jzz < 272 → gA paA 1 jzz = gA pa0 1 jzz)
/-- all is as it was -/
theorem give_eq {pl : List CR} {isl mv0 pa0 mvAzz paA o0zz o o' mv mv' pa pa' : Ob} {n : Nat} (hSzz : TzS pl isl mv0 pa0 o0zz n) (hR : BfR o0zz o) (hC : BfC mv0 pa0 mvAzz paA) (hw : RwC n (gA o0zz 3) (gA o 3)) (h20 : gI o 20 = 0) (h1 : f_X4_set_O mv mvAzz = some mv') (h2 : f_X5_set_O pa paA = some pa') (h3 : f_X9_giveBack o (gI o0zz 8) = some o') : TzS pl isl mv' pa' o' n ∧ gA o' 3 = gA o0zz 3 := by
  obtain ⟨s1zz, s2zz, s3zz, s4zz, s5⟩ := setM h1
  obtain ⟨p1zz, p2zz, p3zz, p4zz⟩ := setP h2
  unfold f_X9_giveBack at h3
  obtain ⟨z1, e1zz, h3⟩ := z_bd h3
  have f1zz := fr_f_X9_putBack e1zz
  unfold f_X9_putBack at e1zz
  have d1zz := putBack_lp (mzz := 17) (by decide) (by decide) zfu 0 o 0 (by decide) (Nat.zero_le _) e1zz
  obtain ⟨o1, h3, a1zz, a2, a3, a4, a5⟩ := gb8 zfu 0 z1 0 (by decide) (Nat.zero_le _) h3
  obtain ⟨b1, b2, b3, b4, b5⟩ := gb35 zfu 0 o1 0 (by decide) (Nat.zero_le _) h3
  have eG : gA o' 3 = gA o0zz 3 := by
    rw [b3, a4]
    funext jzz
    rw [d1zz]
    by_cases czz : 4 + 0 ≤ jzz ∧ jzz < 29
    · have ej : 25 * 17 + (jzz - 4) = 425 + (jzz - 4) := by omega
      have e4zz : 4 + (jzz - 4) = jzz := by omega
      rw [if_pos czz, ej, hR.2.2 (jzz - 4) (by omega), e4zz]
    · rw [if_neg czz]
      exact hw jzz (by omega)
  have e7zz : ∀ jzz, jzz < 16 → gA o' 7 jzz = gA o0zz 7 jzz := fun jzz hj => by rw [b1, if_pos (by omega), a3, f1zz.A 10 rfl]; exact hR.2.1 jzz hj
  have e6zz : ∀ jzz, jzz < 400 → gA o' 6 jzz = gA o0zz 6 jzz := fun jzz hj => by rw [b4, a1zz, if_pos (by omega), f1zz.A 9 rfl]; exact hR.1 jzz hj
  refine ⟨?_, eG⟩
  refine hSzz.mv (by rw [eG]; exact RwC.rf) ?_ ?_ ?_
  · rw [eG]
    exact hSzz.2.1.ext (fun jzz hj => (s1zz jzz hj).trans (hC.1.1 jzz hj)) (fun jzz hj => (s2zz jzz hj).trans (hC.1.2.1 jzz hj)) (s3zz.trans hC.1.2.2.1) (s4zz.trans hC.1.2.2.2.1) (s5.trans hC.1.2.2.2.2) (fun _ _ _ => rfl)
  · rw [eG]
    obtain ⟨q0, sz, fi, q1zz, q2zz, q3zz, q4zz, q5zz⟩ := hSzz.2.2.1
    have k3zz : gI pa' 3 = gI pa0 3 := p2zz.trans hC.2.2.1
    have k2zz : gI pa' 2 = gI pa0 2 := p1zz.trans hC.2.1
    refine ⟨by rw [k3zz, b2]; exact q0, sz, fi, by rw [k3zz]; exact q1zz, q2zz, by rw [k2zz]; exact q3zz, q4zz, fun izz hizz => ?_⟩
    refine (q5zz izz hizz).mv ((p3zz _ (by omega)).trans (hC.2.2.2.1 _ (by omega))) (fun t ht => (p4zz _ (by omega)).trans (hC.2.2.2.2 _ (by omega))) (e7zz izz (by omega)) (fun t ht => e6zz _ (by omega)) (fun _ _ => rfl)
  · rw [b5, a5, f1zz.I 20 rfl, h20]; exact hSzz.2.2.2.2.1.symm
/-- what was refused, in both -/
def StT (o8zz o : Ob) : Prop := gI o8zz 12 = gI o 1 ∧ ∀ jzz, jzz < 7 → gA o8zz 11 jzz = gA o 2 jzz
set_option maxHeartbeats 200000 in
theorem StT.eq {o8zz o o8' o' : Ob} (hzz : StT o8zz o) (azz : gI o8' 12 = gI o8zz 12) (bzz : gA o8' 11 = gA o8zz 11) (czz : gI o' 1 = gI o 1) (d : gA o' 2 = gA o 2) : StT o8' o' := ⟨by rw [azz, czz]; exact hzz.1, by rw [bzz, d]; exact hzz.2⟩
set_option maxHeartbeats 200000 in
theorem st_grant {o8zz o : Ob} {vzz : Int32} {zzz wzz : Int32 × Ob} (hzz : StT o8zz o) (hv : 0 ≤ vzz.toInt) (h1 : f_X8_grant o8zz vzz = some zzz) (h2 : f_X9_tell o vzz = some wzz) : zzz.1 = vzz ∧ wzz.1 = vzz ∧ StT zzz.2 wzz.2 := by
  unfold f_X8_grant at h1
  obtain ⟨o1, g1, h1⟩ := z_lt h1
  have h1 := Option.some.inj h1
  have hv' : (0 : Int32) ≤ vzz := Int32.le_iff_toInt_le.mpr (by rw [(by decide : (0 : Int32).toInt = 0)]; exact hv)
  unfold f_X9_tell at h2
  have h2 := z_t h2 hv'
  unfold bk_X9_tell_10 at h2
  obtain ⟨p1zz, k1zz, h2⟩ := z_lt h2
  have h2 := Option.some.inj (z_t h2 hv')
  rw [← h1, ← h2]
  refine ⟨rfl, rfl, ?_, fun jzz hj => ?_⟩
  · rw [g1, k1zz]; rfl
  · rw [g1, k1zz]; exact hzz.2 jzz hj
set_option maxHeartbeats 200000 in
theorem st_refuse {o8zz o : Ob} {vzz : Int32} {zzz wzz : Int32 × Ob} (hzz : StT o8zz o) (hv : vzz = -1 ∨ vzz = -2 ∨ vzz = -3 ∨ vzz = -5 ∨ vzz = -6) (h1 : f_X8_refuse o8zz vzz = some zzz) (h2 : f_X9_tell o vzz = some wzz) : zzz.1 = vzz ∧ wzz.1 = vzz ∧ StT zzz.2 wzz.2 := by
  have r0 : ¬ (0 : Int32) ≤ vzz := by rcases hv with qzz | qzz | qzz | qzz | qzz <;> subst qzz <;> decide
  have r6 : ¬ vzz < (-6 : Int32) := by rcases hv with qzz | qzz | qzz | qzz | qzz <;> subst qzz <;> decide
  obtain ⟨xzz, hx, ix⟩ : ∃ xzz : Nat, xzz < 7 ∧ (-vzz).toNatClampNeg = xzz := by
    rcases hv with qzz | qzz | qzz | qzz | qzz <;> subst qzz
    · exact ⟨1, by decide, by decide⟩
    · exact ⟨2, by decide, by decide⟩
    · exact ⟨3, by decide, by decide⟩
    · exact ⟨5, by decide, by decide⟩
    · exact ⟨6, by decide, by decide⟩
  unfold f_X8_refuse at h1
  obtain ⟨o1, g1, h1⟩ := z_lt h1
  have h1 := z_f (z_f h1 r0) r6
  obtain ⟨x2zz, q2zz, h1⟩ := z_lt h1
  have h1 := (z_gd (z_gd h1).2).2
  rw [q2zz, ix] at h1
  obtain ⟨o5zz, g5zz, h1⟩ := z_lt h1
  have h1 := Option.some.inj h1
  unfold f_X9_tell at h2
  have h2 := z_f h2 r0
  unfold bk_X9_tell_10 at h2
  obtain ⟨p1zz, k1zz, h2⟩ := z_lt h2
  have h2 := z_f h2 r0
  obtain ⟨y2, l2, h2⟩ := z_lt h2
  have h2 := (z_gd (z_gd h2).2).2
  rw [l2, ix] at h2
  obtain ⟨p5zz, k5zz, h2⟩ := z_lt h2
  have h2 := Option.some.inj h2
  rw [← h1, ← h2]
  refine ⟨rfl, rfl, ?_, fun jzz hj => ?_⟩
  · rw [g5zz, k5zz, g1, k1zz]; rfl
  · rw [g5zz, k5zz, g1, k1zz]
    show (if jzz = xzz then gA o8zz 11 xzz + 1 else gA o8zz 11 jzz) = (if jzz = xzz then gA o 2 xzz + 1 else gA o 2 jzz)
    by_cases czz : jzz = xzz
    · rw [if_pos czz, if_pos czz, hzz.2 xzz hx]
    · rw [if_neg czz, if_neg czz]; exact hzz.2 jzz hj
