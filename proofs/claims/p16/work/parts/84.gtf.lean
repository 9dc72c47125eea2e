def dLw : DD := ([0, 13, 14, 15, 16, 18, 19, 20, 21, 23, 26, 29, 30], [17], [3, 22, 24, 25, 27, 28], [], [])
def GLw (o9 : Ob) (wzz : Int32 × Ob) : Prop := ∃ (vzz : Int32) (qzz : Ob), FrX dLw o9 qzz ∧ f_X9_tell qzz vzz = some wzz
set_option maxHeartbeats 200000 in
theorem GLw.of {o o' : Ob} {wzz : Int32 × Ob} (hzz : GLw o' wzz) (fzz : FrX dLw o o') : GLw o wzz := by
  obtain ⟨vzz, qzz, f', kzz⟩ := hzz
  exact ⟨vzz, qzz, fzz.tr f', kzz⟩
set_option maxHeartbeats 200000 in
theorem glw145 {yzz : Int32 × Ob} {v1zz : Int32} : ∀ (Nzz : Nat) (v2 : Int32) (o : Ob), lp_X9_law_145 Nzz (v1zz, v2, o) = some yzz → GLw o yzz := by
  intro Nzz
  induction Nzz with
  | zero => intro v2 o hzz; cases hzz
  | succ Nzz ihzz =>
    intro v2 o hzz
    have hzz : lb_X9_law_145 (lp_X9_law_145 Nzz) v1zz v2 o = some yzz := hzz
    unfold lb_X9_law_145 at hzz
    rcases z_if hzz with ⟨-, hzz⟩ | ⟨-, hzz⟩
    · obtain ⟨qzz, gzz, hzz⟩ := z_lt hzz
      obtain ⟨zzz, kzz, hzz⟩ := z_bd hzz
      rw [← Option.some.inj hzz]
      exact ⟨_, qzz, by rw [gzz]; exact FrX.tA FrX.rf rfl, kzz⟩
    · have hzz := (z_gd (z_gd hzz).2).2
      obtain ⟨q1zz, g1, hzz⟩ := z_lt hzz
      have hzz := (z_gd (z_gd hzz).2).2
      obtain ⟨q2zz, g2, hzz⟩ := z_lt hzz
      obtain ⟨xzz, gx, hzz⟩ := z_lt hzz
      exact (ihzz xzz q2zz hzz).of (by rw [g2, g1]; exact FrX.tA (FrX.tA FrX.rf rfl) rfl)
set_option maxHeartbeats 200000 in
theorem glw110 {yzz : Int32 × Ob} {v1zz : Int32} : ∀ (Nzz : Nat) (v2 : Int32) (o : Ob), lp_X9_law_110 Nzz (v1zz, v2, o) = some yzz → GLw o yzz := by
  intro Nzz
  induction Nzz with
  | zero => intro v2 o hzz; cases hzz
  | succ Nzz ihzz =>
    intro v2 o hzz
    have hzz : lb_X9_law_110 (lp_X9_law_110 Nzz) v1zz v2 o = some yzz := hzz
    unfold lb_X9_law_110 at hzz
    rcases z_if hzz with ⟨-, hzz⟩ | ⟨-, hzz⟩
    · exact glw145 _ _ _ hzz
    · have hzz := (z_gd (z_gd hzz).2).2
      obtain ⟨q1zz, g1, hzz⟩ := z_lt hzz
      obtain ⟨xzz, gx, hzz⟩ := z_lt hzz
      exact (ihzz xzz q1zz hzz).of (by rw [g1]; exact FrX.tA FrX.rf rfl)
set_option maxHeartbeats 200000 in
theorem glw64 {yzz : Int32 × Ob} {o : Ob} (hzz : bk_X9_law_64 o = some yzz) : GLw o yzz := by
  unfold bk_X9_law_64 at hzz
  obtain ⟨z4, k4zz, hzz⟩ := z_bd hzz
  have fzz : FrX dLw o z4 := (fr_f_X9_endText k4zz).mono rfl
  rcases z_if hzz with ⟨-, hzz⟩ | ⟨-, hzz⟩
  · obtain ⟨x5zz, g5zz, hzz⟩ := z_lt hzz
    have hzz := (z_gd hzz).2
    obtain ⟨q7zz, g7, hzz⟩ := z_lt hzz
    exact (glw110 _ _ _ hzz).of (fzz.tr (by rw [g7]; exact FrX.tA FrX.rf rfl))
  · obtain ⟨zzz, kzz, hzz⟩ := z_bd hzz
    rw [← Option.some.inj hzz]
    exact ⟨_, z4, fzz, kzz⟩
set_option maxHeartbeats 200000 in
theorem glw37 {yzz : Int32 × Ob} : ∀ (Nzz : Nat) (o : Ob), lp_X9_law_37 Nzz o = some yzz → GLw o yzz := by
  intro Nzz
  induction Nzz with
  | zero => intro o hzz; cases hzz
  | succ Nzz ihzz =>
    intro o hzz
    have hzz : lb_X9_law_37 (lp_X9_law_37 Nzz) o = some yzz := hzz
    unfold lb_X9_law_37 at hzz
    rcases z_if hzz with ⟨-, hzz⟩ | ⟨-, hzz⟩
    · obtain ⟨z1, k1zz, hzz⟩ := z_bd hzz
      rcases z_if hzz with ⟨-, hzz⟩ | ⟨-, hzz⟩
      · exact glw64 hzz
      · obtain ⟨z2, k2zz, hzz⟩ := z_bd hzz
        obtain ⟨z3, k3zz, hzz⟩ := z_bd hzz
        have f2zz : FrX dLw o z2 := (fr_f_X9_next k2zz).mono rfl
        have f3zz : FrX dLw z2 z3 := (fr_f_X9_readLaw k3zz).mono rfl
        exact (ihzz z3 hzz).of (f2zz.tr f3zz)
    · exact glw64 hzz
set_option maxHeartbeats 200000 in
theorem glw {yzz : Int32 × Ob} {o : Ob} (hzz : f_X9_law o = some yzz) : GLw o yzz := by
  unfold f_X9_law at hzz
  obtain ⟨q1zz, g1, hzz⟩ := z_lt hzz
  have f1zz : FrX dLw o q1zz := by rw [g1]; exact FrX.sI FrX.rf rfl
  rcases z_if hzz with ⟨-, hzz⟩ | ⟨-, hzz⟩
  · obtain ⟨q2zz, g2, hzz⟩ := z_lt hzz
    obtain ⟨zzz, kzz, hzz⟩ := z_bd hzz
    rw [← Option.some.inj hzz]
    exact ⟨_, q2zz, by rw [g2]; exact FrX.sI f1zz rfl, kzz⟩
  · obtain ⟨z2, k2zz, hzz⟩ := z_bd hzz
    obtain ⟨z3, k3zz, hzz⟩ := z_bd hzz
    have f2zz : FrX dLw q1zz z2 := (fr_f_X9_beginText k2zz).mono rfl
    have f3zz : FrX dLw z2 z3 := (fr_f_X9_readLaw k3zz).mono rfl
    exact (glw37 _ _ hzz).of ((f1zz.tr f2zz).tr f3zz)
set_option maxHeartbeats 200000 in
theorem law9_full {o : Ob} {yzz : Int32 × Ob} (h6 : gA o 3 2 = 6) (hzz : f_X9_law o = some yzz) : yzz.1 = -5 ∧ gA yzz.2 3 = gA o 3 ∧ gI yzz.2 18 = gI o 18 := by
  have n2zz : (2 : Int32).toNatClampNeg = 2 := by decide
  unfold f_X9_law at hzz
  rw [n2zz] at hzz
  obtain ⟨q1zz, g1, hzz⟩ := z_lt hzz
  obtain ⟨q2zz, g2, hzz⟩ := z_lt (z_t hzz (by rw [g1]; exact h6))
  obtain ⟨zzz, kzz, hzz⟩ := z_bd hzz
  obtain ⟨azz, bzz, -⟩ := tell_3 kzz
  have ft := fr_f_X9_tell kzz
  rw [← Option.some.inj hzz]
  exact ⟨azz, bzz.trans (by rw [g2, g1]; rfl), (ft.I 18 rfl).trans (by rw [g2, g1]; rfl)⟩
set_option maxHeartbeats 200000 in
theorem kept_d {o yzz : Ob} {n k1zz : Nat} (e7zz : (gI o 7).toInt = (n : Int)) (e8 : (gI o 8).toInt = (k1zz : Int)) (hzz : f_X0_kept 12 400 o = some yzz) : (∀ izz, izz < 5 → ∀ mzz, mzz < n → gA yzz izz mzz = gA o izz mzz) ∧ (∀ jzz, jzz < k1zz → gA yzz 5 jzz = gA o 5 jzz ∧ gA yzz 6 jzz = gA o 6 jzz) ∧ gI yzz 7 = gI o 7 ∧ gI yzz 8 = gI o 8 := by
  unfold f_X0_kept at hzz
  have hzz := (z_gd hzz).2
  unfold f_X0_kept2 at hzz
  have i7zz : (gI o 7).toNatClampNeg = n := tnc_eq e7zz
  have i8zz : (gI o 8).toNatClampNeg = k1zz := tnc_eq e8
  obtain ⟨q2zz, g2, hzz⟩ := z_lt (z_gd hzz).2
  obtain ⟨q4zz, g4, hzz⟩ := z_lt (z_gd hzz).2
  obtain ⟨q6zz, g6, hzz⟩ := z_lt (z_gd hzz).2
  obtain ⟨q8zz, g8, hzz⟩ := z_lt (z_gd hzz).2
  obtain ⟨q10zz, g10, hzz⟩ := z_lt (z_gd hzz).2
  obtain ⟨q12zz, g12, hzz⟩ := z_lt (z_gd hzz).2
  obtain ⟨q14zz, g14, hzz⟩ := z_lt (z_gd hzz).2
  obtain ⟨q15zz, g15, hzz⟩ := z_lt hzz
  obtain ⟨q16zz, g16, hzz⟩ := z_lt hzz
  have hzz := Option.some.inj hzz
  have a0zz : gA yzz 0 = va_cpy (gA o 0) (gA ob0 0) (0 : Int32).toNatClampNeg (0 : Int32).toNatClampNeg (gI o 7).toNatClampNeg := by rw [← hzz, g16, g15, g14, g12, g10, g8, g6, g4, g2]; rfl
  have a1zz : gA yzz 1 = va_cpy (gA o 1) (gA ob0 1) (0 : Int32).toNatClampNeg (0 : Int32).toNatClampNeg (gI o 7).toNatClampNeg := by rw [← hzz, g16, g15, g14, g12, g10, g8, g6, g4, g2]; rfl
  have a2 : gA yzz 2 = va_cpy (gA o 2) (gA ob0 2) (0 : Int32).toNatClampNeg (0 : Int32).toNatClampNeg (gI o 7).toNatClampNeg := by rw [← hzz, g16, g15, g14, g12, g10, g8, g6, g4, g2]; rfl
  have a3 : gA yzz 3 = va_cpy (gA o 3) (gA ob0 3) (0 : Int32).toNatClampNeg (0 : Int32).toNatClampNeg (gI o 7).toNatClampNeg := by rw [← hzz, g16, g15, g14, g12, g10, g8, g6, g4, g2]; rfl
  have a4 : gA yzz 4 = va_cpy (gA o 4) (gA ob0 4) (0 : Int32).toNatClampNeg (0 : Int32).toNatClampNeg (gI o 7).toNatClampNeg := by rw [← hzz, g16, g15, g14, g12, g10, g8, g6, g4, g2]; rfl
  have a5 : gA yzz 5 = va_cpy (gA o 5) (gA ob0 5) (0 : Int32).toNatClampNeg (0 : Int32).toNatClampNeg (gI o 8).toNatClampNeg := by rw [← hzz, g16, g15, g14, g12, g10, g8, g6, g4, g2]; rfl
  have a6 : gA yzz 6 = va_cpy (gA o 6) (gA ob0 6) (0 : Int32).toNatClampNeg (0 : Int32).toNatClampNeg (gI o 8).toNatClampNeg := by rw [← hzz, g16, g15, g14, g12, g10, g8, g6, g4, g2]; rfl
  refine ⟨fun izz hizz mzz hmzz => ?_, fun jzz hj => ⟨by rw [a5]; exact cpy0 i8zz hj, by rw [a6]; exact cpy0 i8zz hj⟩, by rw [← hzz, g16, g15]; rfl, by rw [← hzz, g16]; rfl⟩
  rcases (show izz = 0 ∨ izz = 1 ∨ izz = 2 ∨ izz = 3 ∨ izz = 4 by omega) with ezz | ezz | ezz | ezz | ezz
  · rw [ezz, a0zz]; exact cpy0 i7zz hmzz
  · rw [ezz, a1zz]; exact cpy0 i7zz hmzz
  · rw [ezz, a2]; exact cpy0 i7zz hmzz
  · rw [ezz, a3]; exact cpy0 i7zz hmzz
  · rw [ezz, a4]; exact cpy0 i7zz hmzz
set_option maxHeartbeats 200000 in
theorem LwE.loc {oc : Ob} {Gzz G' : Nat → Int32} {l : Nat} (hzz : LwE oc Gzz l) (ezz : ∀ jzz, 84 + 900 * l ≤ jzz → jzz < 84 + 900 * l + 900 → G' jzz = Gzz jzz) : LwE oc G' l := by
  obtain ⟨n, K1, K2, h1, h2, h3, h4, h5, h6, h7⟩ := hzz
  refine ⟨n, K1, K2, h1, h2, h3, h4, h5, by rw [ezz _ (by omega) (by omega)]; exact h6, fun mzz hmzz => (h7 mzz hmzz).mv (fun _ _ => rfl) (fun _ _ => ⟨rfl, rfl⟩) (fun izz hizz => ?_) (fun jzz hj => ⟨?_, ?_⟩) (Nat.le_refl _) (Nat.le_refl _)⟩
  · show G' (84 + 900 * l + 2 + (8 * mzz + izz)) = Gzz (84 + 900 * l + 2 + (8 * mzz + izz))
    exact ezz _ (by omega) (by omega)
  · show G' (84 + 900 * l + 98 + 2 * jzz) = Gzz (84 + 900 * l + 98 + 2 * jzz)
    exact ezz _ (by omega) (by omega)
  · show G' (84 + 900 * l + 98 + 2 * jzz + 1) = Gzz (84 + 900 * l + 98 + 2 * jzz + 1)
    exact ezz _ (by omega) (by omega)
set_option maxHeartbeats 200000 in
theorem pfind_new {pl : List CR} {czz : CR} (hzz : ∀ c' ∈ pl, c'.1 ≠ czz.1) : pfind (pl ++ [czz]) czz.1 = some czz := by
  unfold pfind
  rw [List.find?_append]
  have ezz : pl.find? (fun c' => Nat.beq c'.1 czz.1) = none := List.find?_eq_none.mpr (fun xzz hx qzz => hzz xzz hx (Nat.eq_of_beq_eq_true qzz))
  have qzz : [czz].find? (fun c' => Nat.beq c'.1 czz.1) = some czz := List.find?_cons_of_pos (Nat.beq_refl czz.1)
  rw [ezz, qzz]; rfl
set_option maxHeartbeats 200000 in
theorem tf_law_no {pl : List CR} {o0zz o1 o4zz o5zz o8zz o6 o11 o9 o1' : Ob} {im0 im1 : Option IR} {vzz : Int32} {z3 : Int32 × Ob} {y' : Int32 × Ob} (ht : TF pl o0zz o1 o4zz o5zz o8zz o6 o11 o9 im0 im1) (hv : vzz = -5 ∨ vzz = -6) (k3zz : f_X8_refuse o0zz vzz = some z3) (h2 : f_X9_law o9 = some y') (e1zz : y'.1 = vzz) (e3zz : gA y'.2 3 = gA o9 3) (eT : gA o1' 0 = gA o1 0) (e2zz : gI o1' 2 = 0) : z3.1 = y'.1 ∧ TF pl z3.2 o1' o4zz o5zz o8zz o6 o11 y'.2 im0 im1 := by
  have fzz := fr_f_X9_law h2
  obtain ⟨v', qzz, fq, kzz⟩ := glw h2
  have evzz : v' = vzz := (tell_3 kzz).1.symm.trans e1zz
  rw [evzz] at kzz
  have sq : StT o0zz qzz := ht.2.2.2.1.eq rfl rfl (fq.I 1 rfl) (fq.A 2 rfl)
  have s3zz := (st_refuse sq (by rcases hv with ezz | ezz; exact Or.inr (Or.inr (Or.inr (Or.inl ezz))); exact Or.inr (Or.inr (Or.inr (Or.inr ezz)))) k3zz kzz).2.2
  have fa := fr_f_X8_refuse k3zz
  obtain ⟨⟨h1', h2'⟩, h3, ⟨h4, h4'⟩, h5, h6, h7, h8, h9, h10⟩ := ht
  exact ⟨(refuse_ret k3zz).trans e1zz.symm, ⟨by rw [e2zz, law9_13 h2], by rw [eT, fzz.A 12 rfl]; exact h2'⟩, by rw [fa.I 13 rfl, fzz.I 11 rfl]; exact h3, ⟨h4.eq (fzz.M 31 rfl) (fzz.M 32 rfl), h4'.eq2 (fzz.M 33 rfl) (fzz.M 54 rfl)⟩, s3zz, by rw [fa.I 14 rfl, fzz.I 58 rfl]; exact h6, h7.eq (fzz.I 62 rfl) (fzz.A 61 rfl), by rw [e3zz]; exact h8, by rw [e3zz]; exact h9.eq (fzz.I 8 rfl) (fzz.A 6 rfl) (fzz.A 7 rfl), h10.eq (fa.R 7 rfl) (fzz.A 5 rfl) (fzz.A 4 rfl)⟩
set_option maxHeartbeats 200000 in
theorem tf_law_y {pl : List CR} {o0zz o1 o2 o4zz o5zz o8zz o6 o11 o9 oc : Ob} {im0 im1 : Option IR} {z1 : Int32 × Ob × Ob} {czz : CR} {yzz : Int32 × Ob × Ob} {y' : Int32 × Ob} (ht : TF pl o0zz o1 o4zz o5zz o8zz o6 o11 o9 im0 im1) (hr : 0 ≤ (gI o1 2).toInt ∧ (gI o1 2).toInt ≤ 400) (c1zz : gI o4zz 9 < (6 : Int32)) (ez1 : f_X6_readText 12 400 o1 o2 1 = some z1) (c2zz : ¬ z1.1 = 0) (eT : gA z1.2.1 0 = gA o1 0) (eoc : f_X0_kept 12 400 z1.2.2 = some oc) (ecc : czz.2.2.2.2.2 = oc) (hfr : ∀ c' ∈ pl, c'.1 ≠ czz.1) (ey : f_X8_law_b (pl ++ [czz]) o0zz o4zz (some czz.1) = some yzz) (h2 : f_X9_law o9 = some y') : yzz.1 = y'.1 ∧ TF (pl ++ [czz]) yzz.2.1 (sI z1.2.1 2 0) yzz.2.2 o5zz o8zz o6 o11 y'.2 im0 im1 := by
  have fzz := fr_f_X9_law h2
  obtain ⟨v', qzz, fq, kzz⟩ := glw h2
  obtain ⟨t1zz, t2zz, t3zz, t4zz⟩ := ht.2.2.2.2.2.2.1
  have r9 := t2zz.2.1
  obtain ⟨l, el⟩ : ∃ l : Nat, (gA o9 3 2).toInt = (l : Int) := ⟨(gA o9 3 2).toInt.toNat, by omega⟩
  have d1zz := cv_lt (a := (l : Int)) (b := 6) (by rw [r9.1]; exact el) (by decide) c1zz
  have hl : l < 6 := by omega
  rcases law9_eq el hl ⟨ht.1.1, ht.1.2, by rw [← ht.1.1]; exact hr.1, by rw [← ht.1.1]; exact hr.2⟩ ht.2.2.1.1 ht.2.2.1.2 ez1 h2 with ⟨b1, -⟩ | ⟨b1, b2, b3, b4, wzz, k1zz, k2zz, n, b5, b6, b7, b8, b9, b10, b11⟩
  · exact absurd b1 c2zz
  · obtain ⟨x1zz, x2zz, x3, x4zz, x5zz, x6⟩ := b8
    have xk1 := x1zz.2.2.2.2.1
    have hk2 : k2zz ≤ 400 := x1zz.2.2.2.2.2.2.2.1
    have hk1 : k1zz ≤ 400 := by
      have q1zz := x1zz.2.2.2.2.2.2.1
      obtain ⟨u1zz, -, -, -, azz, bzz, ua, ubzz, uab, ub13, -⟩ := x1zz.1
      have q2zz := u1zz.2.2.2
      omega
    obtain ⟨p1zz, p2zz, p3zz, p4zz⟩ := kept_d x3 xk1 eoc
    have lw : LwE oc (gA y'.2 3) l := by
      refine ⟨n, k1zz, k2zz, b7, hk1, hk2, by rw [p3zz]; exact x3, by rw [p4zz]; exact xk1, b9, fun mzz hmzz => (x6 mzz hmzz).mv (fun izz hizz => p1zz izz hizz mzz hmzz) p2zz (fun izz hizz => ?_) (fun jzz hj => ?_) (Nat.le_refl _) (Nat.le_refl _)⟩
      · show gA y'.2 3 (84 + 900 * l + 2 + (8 * mzz + izz)) = gA wzz 22 (8 * mzz + izz)
        exact b10 (8 * mzz + izz) (by omega)
      · show gA y'.2 3 (84 + 900 * l + 98 + 2 * jzz) = gA wzz 24 jzz ∧ gA y'.2 3 (84 + 900 * l + 98 + 2 * jzz + 1) = gA wzz 25 jzz
        exact b11 jzz hj
    unfold f_X8_law_b at ey
    obtain ⟨z3, k3zz, ey⟩ := z_bd ey
    obtain ⟨z4, k4zz, ey⟩ := z_bd ey
    have ey := Option.some.inj ey
    unfold f_X2_addLaw_Q at k3zz
    have k3zz := (z_gd (z_gd (z_t k3zz c1zz)).2).2
    obtain ⟨m3zz, g3zz, k3zz⟩ := z_lt k3zz
    obtain ⟨m4zz, g4, k3zz⟩ := z_lt k3zz
    have k3zz := Option.some.inj k3zz
    have il : (gI o4zz 9).toNatClampNeg = l := tnc_eq (by rw [r9.1]; exact el)
    rw [il] at g3zz
    have v4zz : m4zz = sI (tR o4zz 6 l (some czz.1)) 9 (gI o4zz 9 + 1) := by rw [g4, g3zz]; rfl
    have el1 : (gA o9 3 2 + 1).toInt = (l : Int) + 1 := i32_add el (by decide) (by omega) (by omega)
    have ez31 : z3.1 = gA o9 3 2 := by
      rw [← k3zz]
      show gI m4zz 9 - 1 = _
      rw [v4zz]
      show (gI o4zz 9 + 1) - 1 = _
      rw [r9.1]
      exact Int32.toInt_inj.mp (by rw [i32_sub el1 (by decide : (1 : Int32).toInt = 1) (by omega) (by omega), el]; omega)
    have ez32 : z3.2 = m4zz := by rw [← k3zz]
    have evzz : v' = gA o9 3 2 := (tell_3 kzz).1.symm.trans b2
    rw [evzz] at kzz
    rw [ez31] at k4zz
    have sq : StT o0zz qzz := ht.2.2.2.1.eq rfl rfl (fq.I 1 rfl) (fq.A 2 rfl)
    obtain ⟨s1zz, s2zz, s3zz⟩ := st_grant sq (by rw [el]; omega) k4zz kzz
    have fg := fr_f_X8_grant k4zz
    have fnd := pfind_new hfr
    have Ezz : ∀ jzz, jzz ≠ 2 → jzz < 84 + 900 * l → gA y'.2 3 jzz = gA o9 3 jzz := fun jzz hzz h' => b4 jzz hzz (Or.inl h')
    have E0zz : gA y'.2 3 0 = gA o9 3 0 := Ezz 0 (by omega) (by omega)
    obtain ⟨⟨h1', h2'⟩, h3, ⟨h4, h4'⟩, h5, h6, h7, -, h9, h10⟩ := ht
    rw [← ey]
    refine ⟨s1zz.trans s2zz.symm, ⟨(law9_13 h2).symm, ?_⟩, by rw [fg.I 13 rfl, fzz.I 11 rfl]; exact h3, ⟨h4.eq (fzz.M 31 rfl) (fzz.M 32 rfl), h4'.eq2 (fzz.M 33 rfl) (fzz.M 54 rfl)⟩, s3zz, by rw [fg.I 14 rfl, fzz.I 58 rfl]; exact h6, h7.eq (fzz.I 62 rfl) (fzz.A 61 rfl), ⟨?_, ?_, t3zz.ext (fun _ _ => rfl) (fun _ _ => rfl) rfl rfl rfl (fun jzz j1 j2zz => Ezz jzz (by omega) (by omega)), fun jzz hj => ?_⟩, ?_, h10.app.eq (fg.R 7 rfl) (fzz.A 5 rfl) (fzz.A 4 rfl)⟩
    · show gA z1.2.1 0 = gA y'.2 12
      rw [eT, fzz.A 12 rfl]; exact h2'
    · rw [ez32, v4zz]
      exact t1zz.eq rfl rfl rfl rfl rfl (fun jzz hj => Ezz jzz (by omega) (by omega))
    · rw [ez32, v4zz]
      obtain ⟨v1zz, v2, v3, v4', v5, v6⟩ := t2zz
      refine ⟨⟨by rw [E0zz]; exact v1zz.1, fun jzz hj => by rw [Ezz (36 + jzz) (by omega) (by omega)]; exact v1zz.2.1 jzz hj, by rw [Ezz 6 (by omega) (by omega)]; exact v1zz.2.2⟩, ⟨by rw [b3, ← r9.1]; rfl, by rw [b3, el1]; omega, by rw [b3, el1]; omega⟩, ⟨by rw [Ezz 3 (by omega) (by omega)]; exact v3.1, by rw [Ezz 3 (by omega) (by omega)]; exact v3.2.1, by rw [Ezz 3 (by omega) (by omega), b3, el1]; have := v3.2.2; omega⟩, by rw [Ezz 5 (by omega) (by omega)]; exact v4', fun jzz hj => by rw [Ezz (71 + 2 * jzz) (by omega) (by omega), Ezz (72 + 2 * jzz) (by omega) (by omega)]; exact v5 jzz hj, fun izz hizz => ?_⟩
      rw [b3, el1] at hizz
      by_cases c0zz : izz = l
      · rw [c0zz]
        refine ⟨czz.1, czz, ?_, fnd, by rw [ecc]; exact lw⟩
        show (if l = l then some czz.1 else gR o4zz 6 l) = some czz.1
        rw [if_pos rfl]
      · obtain ⟨aa, cc, r1zz, r2, r3⟩ := v6 izz (by omega)
        refine ⟨aa, cc, ?_, pfind_app r2, r3.loc (fun jzz j1 j2zz => b4 jzz (by omega) (by omega))⟩
        show (if izz = l then some czz.1 else gR o4zz 6 izz) = some aa
        rw [if_neg c0zz]; exact r1zz
    · have g0 := t2zz.1.1.2.1
      rw [E0zz] at hj
      rw [Ezz jzz (by omega) (by omega)]
      exact t4zz jzz hj
    · rw [E0zz]
      exact h9.cell (fzz.I 8 rfl) (fzz.A 6 rfl) (fzz.A 7 rfl) (fun jzz hj => Ezz jzz (by omega) (by omega))
set_option maxHeartbeats 200000 in
theorem tf_law_bad {pl : List CR} {o0zz o1 o2 o4zz o5zz o8zz o6 o11 o9 : Ob} {im0 im1 : Option IR} {z1 : Int32 × Ob × Ob} {z3 : Int32 × Ob} {y' : Int32 × Ob} (ht : TF pl o0zz o1 o4zz o5zz o8zz o6 o11 o9 im0 im1) (hr : 0 ≤ (gI o1 2).toInt ∧ (gI o1 2).toInt ≤ 400) (c1zz : gI o4zz 9 < (6 : Int32)) (ez1 : f_X6_readText 12 400 o1 o2 1 = some z1) (c2zz : z1.1 = 0) (eT : gA z1.2.1 0 = gA o1 0) (k3zz : f_X8_refuse o0zz (-6) = some z3) (h2 : f_X9_law o9 = some y') : z3.1 = y'.1 ∧ TF pl z3.2 (sI z1.2.1 2 0) o4zz o5zz o8zz o6 o11 y'.2 im0 im1 := by
  have r9 := ht.2.2.2.2.2.2.1.2.1.2.1
  obtain ⟨l, el⟩ : ∃ l : Nat, (gA o9 3 2).toInt = (l : Int) := ⟨(gA o9 3 2).toInt.toNat, by omega⟩
  have d1zz := cv_lt (a := (l : Int)) (b := 6) (by rw [r9.1]; exact el) (by decide) c1zz
  rcases law9_eq el (by omega) ⟨ht.1.1, ht.1.2, by rw [← ht.1.1]; exact hr.1, by rw [← ht.1.1]; exact hr.2⟩ ht.2.2.1.1 ht.2.2.1.2 ez1 h2 with ⟨b1, b2, b3, -⟩ | ⟨b1, -⟩
  · exact tf_law_no ht (Or.inr rfl) k3zz h2 b2 b3 (by show gA z1.2.1 0 = gA o1 0; exact eT) rfl
  · rw [c2zz] at b1; exact absurd b1 (by decide)
set_option maxHeartbeats 200000 in
theorem tf_law_full {pl : List CR} {o0zz o1 o4zz o5zz o8zz o6 o11 o9 : Ob} {im0 im1 : Option IR} {z3 : Int32 × Ob} {y' : Int32 × Ob} (ht : TF pl o0zz o1 o4zz o5zz o8zz o6 o11 o9 im0 im1) (c1zz : ¬ gI o4zz 9 < (6 : Int32)) (k3zz : f_X8_refuse o0zz (-5) = some z3) (h2 : f_X9_law o9 = some y') : z3.1 = y'.1 ∧ TF pl z3.2 (sI o1 2 0) o4zz o5zz o8zz o6 o11 y'.2 im0 im1 := by
  have r9 := ht.2.2.2.2.2.2.1.2.1.2.1
  have d1zz := cv_nlt (a := (gA o9 3 2).toInt) (b := 6) (by rw [r9.1]) (by decide) c1zz
  have h6 : gA o9 3 2 = 6 := Int32.toInt_inj.mp (by rw [(by decide : (6 : Int32).toInt = 6)]; omega)
  obtain ⟨b1, b2, -⟩ := law9_full h6 h2
  exact tf_law_no ht (Or.inl rfl) k3zz h2 b1 b2 rfl rfl
set_option maxHeartbeats 200000 in
theorem TzI.loc {pl : List CR} {isl isl' : Ob} {Gzz G' : Nat → Int32} (hzz : TzI pl isl Gzz) (i7zz : gI isl' 7 = gI isl 7) (i9zz : gI isl' 9 = gI isl 9) (i10zz : gI isl' 10 = gI isl 10) (i11zz : gI isl' 11 = gI isl 11) (i12zz : gI isl' 12 = gI isl 12) (a2 : ∀ jzz, jzz < 28 → gA isl' 2 jzz = gA isl 2 jzz) (a4 : ∀ jzz, jzz < 6 → gA isl' 4 jzz = gA isl 4 jzz) (a5 : ∀ jzz, jzz < 6 → gA isl' 5 jzz = gA isl 5 jzz) (aR : ∀ jzz, jzz < 6 → gR isl' 6 jzz = gR isl 6 jzz)
    (eg : ∀ jzz, jzz < 5484 → G' jzz = Gzz jzz) : TzI pl isl' G' := by
  have e0zz : G' 0 = Gzz 0 := eg 0 (by omega)
  have e2zz : G' 2 = Gzz 2 := eg 2 (by omega)
  have e3zz : G' 3 = Gzz 3 := eg 3 (by omega)
  have e5zz : G' 5 = Gzz 5 := eg 5 (by omega)
  have e6zz : G' 6 = Gzz 6 := eg 6 (by omega)
  unfold TzI WiL
  rw [e0zz, e2zz, e3zz, e5zz, e6zz, i7zz, i9zz, i10zz, i11zz, i12zz]
  refine ⟨⟨hzz.1.1, fun jzz hj => ?_, hzz.1.2.2⟩, hzz.2.1, hzz.2.2.1, hzz.2.2.2.1, fun jzz hj => ?_, fun l hl => ?_⟩
  · rw [a2 jzz hj, eg (36 + jzz) (by omega)]; exact hzz.1.2.1 jzz hj
  · rw [a4 jzz hj, a5 jzz hj, eg (71 + 2 * jzz) (by omega), eg (72 + 2 * jzz) (by omega)]; exact hzz.2.2.2.2.1 jzz hj
  · obtain ⟨azz, czz, r1zz, r2, r3⟩ := hzz.2.2.2.2.2 l hl
    have := hzz.2.1.2.2
    exact ⟨azz, czz, by rw [aR l (by omega)]; exact r1zz, r2, r3.loc (fun jzz j1 j2zz => eg jzz (by omega))⟩
set_option maxHeartbeats 200000 in
theorem Tia.cp {pl pl' : List CR} {oi onzz a0zz a0n : Ob} {zzz : Ob × Ob} {Gzz G' : Nat → Int32} (hzz : f_X2_set_O oi onzz pl' a0zz a0n = some zzz) (ht : Tia pl a0zz a0n Gzz) (eg : ∀ jzz, jzz < 5484 → G' jzz = Gzz jzz) : Tia pl zzz.1 zzz.2 G' := by
  obtain ⟨s1zz, ⟨s7, s8, s9, s10, s11, s12⟩, r1zz, r2, r3, r4, r5zz, rR⟩ := setIsl hzz
  obtain ⟨m0zz, m1zz, m2zz, m3zz, m4zz⟩ := setM s1zz
  obtain ⟨t1zz, t2zz, t3zz, t4zz⟩ := ht
  refine ⟨Tis.cp hzz t1zz (fun jzz hj => eg jzz (by omega)), t2zz.loc s7 s9 s10 s11 s12 r2 r4 r5zz rR eg, t3zz.ext m0zz m1zz m2zz m3zz m4zz (fun jzz j1 j2zz => eg jzz (by omega)), fun jzz hj => ?_⟩
  have g0 := t2zz.1.1.2.1
  rw [eg 0 (by omega)] at hj
  rw [eg jzz (by omega)]
  exact t4zz jzz hj
set_option maxHeartbeats 200000 in
theorem Tia.loc {pl : List CR} {isl mv : Ob} {Gzz G' : Nat → Int32} (hzz : Tia pl isl mv Gzz) (eg : ∀ jzz, jzz < 5484 → G' jzz = Gzz jzz) : Tia pl isl mv G' := by
  obtain ⟨t1zz, t2zz, t3zz, t4zz⟩ := hzz
  refine ⟨t1zz.eq rfl rfl rfl rfl rfl (fun jzz hj => eg jzz (by omega)), t2zz.loc rfl rfl rfl rfl rfl (fun _ _ => rfl) (fun _ _ => rfl) (fun _ _ => rfl) (fun _ _ => rfl) eg, t3zz.ext (fun _ _ => rfl) (fun _ _ => rfl) rfl rfl rfl (fun jzz j1 j2zz => eg jzz (by omega)), fun jzz hj => ?_⟩
  have g0 := t2zz.1.1.2.1
  rw [eg 0 (by omega)] at hj
  rw [eg jzz (by omega)]
  exact t4zz jzz hj
set_option maxHeartbeats 200000 in
theorem TslF.put {pl : List CR} {o0' o9 o9' : Ob} {kzz : Nat} {gzz : Nat → Option Nat} {rzz : IR} (e0zz : ∀ jzz, gR o0' 7 jzz = if jzz = kzz then some rzz.1 else gzz jzz) (e5zz : ∀ jzz, gA o9' 5 jzz = if jzz = kzz then 1 else gA o9 5 jzz) (ht : Tia pl rzz.2.2.2.2.2.2.1 rzz.2.2.2.2.2.2.2 (fun jzz => gA o9' 4 (5484 * kzz + jzz))) : TslF pl o0' o9' kzz (some rzz) := by
  refine ⟨(fun qzz => by cases qzz), fun r' qzz => ?_⟩
  rw [← Option.some.inj qzz]
  exact ⟨by rw [e0zz, if_pos rfl], by rw [e5zz, if_pos rfl]; decide, ht⟩
set_option maxHeartbeats 200000 in
theorem TslF.oth {pl : List CR} {o0zz o9 o0' o9' : Ob} {kzz k' : Nat} {azz : Option Nat} {im : Option IR} (hzz : TslF pl o0zz o9 k' im) (hk : kzz < 2) (hk' : k' < 2) (hn : k' ≠ kzz) (e0zz : ∀ jzz, gR o0' 7 jzz = if jzz = kzz then azz else gR o0zz 7 jzz) (e5zz : ∀ jzz, gA o9' 5 jzz = if jzz = kzz then 1 else gA o9 5 jzz) (e4zz : ∀ jzz, jzz < 5484 * kzz ∨ 5484 * kzz + 5484 ≤ jzz → gA o9' 4 jzz = gA o9 4 jzz) : TslF pl o0' o9' k' im := by
  refine ⟨fun qzz => ?_, fun rzz qzz => ?_⟩
  · rw [e0zz, if_neg hn, e5zz, if_neg hn]; exact hzz.1 qzz
  · obtain ⟨a1zz, a2, a3⟩ := hzz.2 rzz qzz
    rw [e0zz, if_neg hn, e5zz, if_neg hn]
    exact ⟨a1zz, a2, a3.loc (fun jzz hj => e4zz (5484 * k' + jzz) (by omega))⟩
set_option maxHeartbeats 200000 in
theorem TimF.put0 {pl : List CR} {o0zz o9 o0' o9' : Ob} {kzz : Nat} {im0 im1 : Option IR} {rzz : IR} (hk : kzz < 2) (ta : TslF pl o0zz o9 kzz im0) (tbzz : TslF pl o0zz o9 (1 - kzz) im1) (e0zz : ∀ jzz, gR o0' 7 jzz = if jzz = kzz then some rzz.1 else gR o0zz 7 jzz) (e5zz : ∀ jzz, gA o9' 5 jzz = if jzz = kzz then 1 else gA o9 5 jzz) (e4zz : ∀ jzz, jzz < 5484 * kzz ∨ 5484 * kzz + 5484 ≤ jzz → gA o9' 4 jzz = gA o9 4 jzz) (ht : Tia pl rzz.2.2.2.2.2.2.1 rzz.2.2.2.2.2.2.2 (fun jzz => gA o9' 4 (5484 * kzz + jzz))) : TimF pl o0' o9' (some rzz) im1 :=
  ⟨kzz, hk, TslF.put e0zz e5zz ht, tbzz.oth hk (by omega) (by omega) e0zz e5zz e4zz⟩
set_option maxHeartbeats 200000 in
theorem TimF.put1 {pl : List CR} {o0zz o9 o0' o9' : Ob} {kzz : Nat} {im0 im1 : Option IR} {rzz : IR} (hk : kzz < 2) (ta : TslF pl o0zz o9 (1 - kzz) im0) (tbzz : TslF pl o0zz o9 kzz im1) (e0zz : ∀ jzz, gR o0' 7 jzz = if jzz = kzz then some rzz.1 else gR o0zz 7 jzz) (e5zz : ∀ jzz, gA o9' 5 jzz = if jzz = kzz then 1 else gA o9 5 jzz) (e4zz : ∀ jzz, jzz < 5484 * kzz ∨ 5484 * kzz + 5484 ≤ jzz → gA o9' 4 jzz = gA o9 4 jzz) (ht : Tia pl rzz.2.2.2.2.2.2.1 rzz.2.2.2.2.2.2.2 (fun jzz => gA o9' 4 (5484 * kzz + jzz))) : TimF pl o0' o9' im0 (some rzz) := by
  have ezz : 1 - (1 - kzz) = kzz := by omega
  exact ⟨1 - kzz, by omega, ta.oth hk (by omega) (by omega) e0zz e5zz e4zz, by rw [ezz]; exact TslF.put e0zz e5zz ht⟩
set_option maxHeartbeats 200000 in
theorem TimF.ik {pl : List CR} {o0zz o9 : Ob} {im0 im1 : Option IR} (hzz : TimF pl o0zz o9 im0 im1) (h2 : ∀ jzz, 2 ≤ jzz → gR o0zz 7 jzz = none) : IK (gR o0zz 7) im0 im1 := by
  obtain ⟨s, hs, azz, bzz⟩ := hzz
  exact IK.of ⟨s, hs, ⟨azz.1, fun rzz hr => ⟨(azz.2 rzz hr).1, (azz.2 rzz hr).2.1, (azz.2 rzz hr).2.2.1⟩⟩, bzz.1, fun rzz hr => ⟨(bzz.2 rzz hr).1, (bzz.2 rzz hr).2.1, (bzz.2 rzz hr).2.2.1⟩⟩ h2
def dIm : DD := ([0, 8], [], [3, 4, 5], [], [])
set_option maxHeartbeats 200000 in
theorem img_t {yzz : Int32 × Ob} {v1zz : Int32} : ∀ (Nzz : Nat) (v2 : Int32) (o : Ob), lp_X9_image_23 Nzz (v1zz, v2, o) = some yzz → ∃ qzz : Ob, FrX dIm o qzz ∧ f_X9_tell qzz 0 = some yzz := by
  intro Nzz
  induction Nzz with
  | zero => intro v2 o hzz; cases hzz
  | succ Nzz ihzz =>
    intro v2 o hzz
    have hzz : lb_X9_image_23 (lp_X9_image_23 Nzz) v1zz v2 o = some yzz := hzz
    unfold lb_X9_image_23 at hzz
    rcases z_if hzz with ⟨-, hzz⟩ | ⟨-, hzz⟩
    · have hzz := (z_gd hzz).2
      obtain ⟨qzz, gzz, hzz⟩ := z_lt hzz
      obtain ⟨zzz, kzz, hzz⟩ := z_bd hzz
      rw [← Option.some.inj hzz]
      exact ⟨qzz, by rw [gzz]; exact FrX.tA FrX.rf rfl, kzz⟩
    · have hzz := (z_gd (z_gd hzz).2).2
      obtain ⟨q1zz, g1, hzz⟩ := z_lt hzz
      obtain ⟨xzz, gx, hzz⟩ := z_lt hzz
      obtain ⟨qzz, fzz, kzz⟩ := ihzz xzz q1zz hzz
      exact ⟨qzz, (by rw [g1]; exact FrX.tA FrX.rf rfl : FrX dIm o q1zz).tr fzz, kzz⟩
set_option maxHeartbeats 200000 in
theorem bck_t {yzz : Int32 × Ob} {v1zz : Int32} : ∀ (Nzz : Nat) (v2 : Int32) (o : Ob), lp_X9_back_39 Nzz (v1zz, v2, o) = some yzz → ∃ qzz : Ob, FrX dIm o qzz ∧ gI qzz 8 = 0 ∧ f_X9_tell qzz 0 = some yzz := by
  intro Nzz
  induction Nzz with
  | zero => intro v2 o hzz; cases hzz
  | succ Nzz ihzz =>
    intro v2 o hzz
    have hzz : lb_X9_back_39 (lp_X9_back_39 Nzz) v1zz v2 o = some yzz := hzz
    unfold lb_X9_back_39 at hzz
    rcases z_if hzz with ⟨-, hzz⟩ | ⟨-, hzz⟩
    · obtain ⟨zzz, kzz, hzz⟩ := z_bd hzz
      unfold f_X9_settled at kzz
      have kzz := z_t kzz (by decide)
      unfold bk_X9_settled_13 at kzz
      obtain ⟨q2zz, g2, kzz⟩ := z_lt kzz
      obtain ⟨z2, k2zz, kzz⟩ := z_bd kzz
      refine ⟨q2zz, by rw [g2]; exact FrX.sI FrX.rf rfl, by rw [g2]; rfl, ?_⟩
      rw [k2zz, ← Option.some.inj hzz, ← Option.some.inj kzz]
    · have hzz := (z_gd (z_gd hzz).2).2
      obtain ⟨q1zz, g1, hzz⟩ := z_lt hzz
      obtain ⟨xzz, gx, hzz⟩ := z_lt hzz
      obtain ⟨qzz, fzz, e8, kzz⟩ := ihzz xzz q1zz hzz
      exact ⟨qzz, (by rw [g1]; exact FrX.tA FrX.rf rfl : FrX dIm o q1zz).tr fzz, e8, kzz⟩
set_option maxHeartbeats 200000 in
theorem tf_img_no {pl : List CR} {o0zz o1 o4zz o5zz o8zz o6 o11 o9 : Ob} {im0 im1 : Option IR} {pzz : Int32} {zzz y' : Int32 × Ob} (ht : TF pl o0zz o1 o4zz o5zz o8zz o6 o11 o9 im0 im1) (hp : ¬ (0 ≤ pzz.toInt ∧ pzz.toInt ≤ 1)) (k1zz : f_X8_refuse o0zz (-1) = some zzz) (h2 : f_X9_image o9 pzz = some y') : zzz.1 = y'.1 ∧ TF pl zzz.2 o1 o4zz o5zz o8zz o6 o11 y'.2 im0 im1 := by
  unfold f_X9_image at h2
  obtain ⟨q1zz, g1, h2⟩ := z_lt h2
  have ht1 : TF pl o0zz o1 o4zz o5zz o8zz o6 o11 q1zz im0 im1 := by rw [g1]; exact ht.sI0
  obtain ⟨w2zz, l2, h2⟩ := z_bd h2
  rcases in9 (m := 0) (n := 1) (by decide) (by decide) l2 with ⟨uzz, -⟩ | ⟨-, uzz⟩
  · obtain ⟨wzz, l, h2⟩ := z_bd (z_t h2 uzz)
    rw [← Option.some.inj h2]
    exact ht1.no (Or.inl rfl) k1zz l
  · exact absurd uzz hp
set_option maxHeartbeats 200000 in
theorem tf_img_ok {pl : List CR} {o0zz oz o1 o4zz o5zz o8zz o6 o11 o9 : Ob} {im0 im1 im0' im1' : Option IR} {pzz : Int32} {zzz y' : Int32 × Ob} (ht : TF pl o0zz o1 o4zz o5zz o8zz o6 o11 o9 im0 im1) (hp : 0 ≤ pzz.toInt ∧ pzz.toInt ≤ 1) (ez : (∀ izz, gI oz izz = gI o0zz izz) ∧ ∀ izz, gA oz izz = gA o0zz izz) (k1zz : f_X8_grant oz 0 = some zzz) (h2 : f_X9_image o9 pzz = some y') (tm : TimF pl zzz.2 y'.2 im0' im1') : zzz.1 = y'.1 ∧ TF pl zzz.2 o1 o4zz o5zz o8zz o6 o11 y'.2 im0' im1' := by
  have fzz := fr_f_X9_image h2
  unfold f_X9_image at h2
  obtain ⟨q1zz, g1, h2⟩ := z_lt h2
  obtain ⟨w2zz, l2, h2⟩ := z_bd h2
  rcases in9 (m := 0) (n := 1) (by decide) (by decide) l2 with ⟨-, uzz⟩ | ⟨uzz, -⟩
  · exact absurd hp uzz
  · obtain ⟨qzz, fq, kzz⟩ := img_t zfu 0 q1zz (z_f h2 uzz)
    have sq : StT oz qzz := ht.2.2.2.1.eq (ez.1 12) (ez.2 11) (by rw [fq.I 1 rfl, g1]; rfl) (by rw [fq.A 2 rfl, g1]; rfl)
    obtain ⟨s1zz, s2zz, s3zz⟩ := st_grant sq (by decide) k1zz kzz
    have fg := fr_f_X8_grant k1zz
    obtain ⟨⟨h1', h2'⟩, h3, ⟨h4, h4'⟩, h5, h6, h7, h8, h9, -⟩ := ht
    exact ⟨s1zz.trans s2zz.symm, ⟨by rw [fzz.I 13 rfl]; exact h1', by rw [fzz.A 12 rfl]; exact h2'⟩, by rw [fg.I 13 rfl, ez.1 13, fzz.I 11 rfl]; exact h3, ⟨h4.eq (fzz.M 31 rfl) (fzz.M 32 rfl), h4'.eq2 (fzz.M 33 rfl) (fzz.M 54 rfl)⟩, s3zz, by rw [fg.I 14 rfl, ez.1 14, fzz.I 58 rfl]; exact h6, h7.eq (fzz.I 62 rfl) (fzz.A 61 rfl), by rw [fzz.A 3 rfl]; exact h8, by rw [fzz.A 3 rfl]; exact h9.eq (fzz.I 8 rfl) (fzz.A 6 rfl) (fzz.A 7 rfl), tm⟩
set_option maxHeartbeats 200000 in
theorem tf_backN {pl : List CR} {o0zz o1 o4zz o5zz o8zz o6 o11 o9 : Ob} {im0 im1 : Option IR} {pzz : Int32} {yzz y' : Int32 × Ob} (ht : TF pl o0zz o1 o4zz o5zz o8zz o6 o11 o9 im0 im1) (h1 : f_X8_back_N o0zz pzz = some yzz) (h2 : f_X9_back o9 pzz = some y') (qzz : gR o0zz 7 pzz.toNatClampNeg = none) : yzz.1 = y'.1 ∧ TF pl yzz.2 o1 o4zz o5zz o8zz o6 o11 y'.2 im0 im1 := by
  unfold f_X9_back at h2
  obtain ⟨q1zz, g1, h2⟩ := z_lt h2
  have ht1 : TF pl o0zz o1 o4zz o5zz o8zz o6 o11 q1zz im0 im1 := by rw [g1]; exact ht.sI0
  obtain ⟨w2zz, l2, h2⟩ := z_bd h2
  have i9zz := in9 (m := 0) (n := 1) (by decide) (by decide) l2
  have no : ¬ (0 ≤ pzz.toInt ∧ pzz.toInt ≤ 1) → bk_X8_back_N_9 o0zz = some yzz → yzz.1 = y'.1 ∧ TF pl yzz.2 o1 o4zz o5zz o8zz o6 o11 y'.2 im0 im1 := by
    intro hp h1
    unfold bk_X8_back_N_9 at h1
    obtain ⟨zzz, kzz, h1⟩ := z_bd h1
    rcases i9zz with ⟨uzz, -⟩ | ⟨-, uzz⟩
    · obtain ⟨wzz, l, h2⟩ := z_bd (z_t h2 uzz)
      rw [← Option.some.inj h1, ← Option.some.inj h2]
      exact ht1.no (Or.inl rfl) kzz l
    · exact absurd uzz hp
  unfold f_X8_back_N at h1
  by_cases c1zz : pzz < (0 : Int32)
  · exact no (by have czz := cv_lt (a := pzz.toInt) (b := 0) rfl (by decide) c1zz; omega) (z_t h1 c1zz)
  have h1 := z_f h1 c1zz
  by_cases c2zz : pzz < (2 : Int32)
  · have d1zz := cv_nlt (a := pzz.toInt) (b := 0) rfl (by decide) c1zz
    have d2zz := cv_lt (a := pzz.toInt) (b := 2) rfl (by decide) c2zz
    obtain ⟨zzz, kzz, h1⟩ := z_bd (z_gd (z_t h1 c2zz)).2
    rcases i9zz with ⟨-, uzz⟩ | ⟨uzz, -⟩
    · exact absurd ⟨d1zz, by omega⟩ uzz
    · have h2 := (z_gd (z_f h2 uzz)).2
      obtain ⟨k', ek⟩ : ∃ k' : Nat, pzz.toInt = (k' : Int) := ⟨pzz.toInt.toNat, by omega⟩
      have ik : pzz.toNatClampNeg = k' := tnc_eq ek
      rw [ik] at h2 qzz
      have z5 : gA q1zz 5 k' = 0 := by
        obtain ⟨s, hs, ta, tbzz⟩ := ht1.2.2.2.2.2.2.2.2
        rcases (show k' = s ∨ k' = 1 - s by omega) with ezz | ezz
        · rw [ezz] at qzz ⊢
          rcases opt_c im0 with e0zz | ⟨rzz, e0zz⟩
          · exact (ta.1 e0zz).2
          · rw [(ta.2 rzz e0zz).1] at qzz; cases qzz
        · rw [ezz] at qzz ⊢
          rcases opt_c im1 with e0zz | ⟨rzz, e0zz⟩
          · exact (tbzz.1 e0zz).2
          · rw [(tbzz.2 rzz e0zz).1] at qzz; cases qzz
      obtain ⟨wzz, l, h2⟩ := z_bd (z_t h2 z5)
      rw [← Option.some.inj h1, ← Option.some.inj h2]
      exact ht1.no (Or.inr (Or.inl rfl)) kzz l
  · exact no (by have czz := cv_nlt (a := pzz.toInt) (b := 2) rfl (by decide) c2zz; omega) (z_f h1 c2zz)
set_option maxHeartbeats 200000 in
theorem tf_backO {pl : List CR} {o0zz o1 o4zz o5zz o8zz o6 o11 o9 : Ob} {im0 im1 : Option IR} {rzz : IR} {pzz : Int32} {yzz : Int32 × Ob × Ob × Ob × Ob} {y' : Int32 × Ob} (ht : TF pl o0zz o1 o4zz o5zz o8zz o6 o11 o9 im0 im1) (h1 : f_X8_back_O o0zz o4zz o5zz o11 pl rzz.2.2.2.2.2.2.1 rzz.2.2.2.2.2.2.2 pzz = some yzz) (h2 : f_X9_back o9 pzz = some y') (h5 : ¬ gA o9 5 pzz.toNatClampNeg = 0) (hr : Tia pl rzz.2.2.2.2.2.2.1 rzz.2.2.2.2.2.2.2 (fun jzz => gA o9 4 (5484 * pzz.toNatClampNeg + jzz))) : yzz.1 = y'.1 ∧ TF pl yzz.2.1 o1 yzz.2.2.1 yzz.2.2.2.1 o8zz o6 yzz.2.2.2.2 y'.2 im0 im1 := by
  have fzz := fr_f_X9_back h2
  have h2c := h2
  unfold f_X9_back at h2
  obtain ⟨q1zz, g1, h2⟩ := z_lt h2
  have ht1 : TF pl o0zz o1 o4zz o5zz o8zz o6 o11 q1zz im0 im1 := by rw [g1]; exact ht.sI0
  obtain ⟨w2zz, l2, h2⟩ := z_bd h2
  have i9zz := in9 (m := 0) (n := 1) (by decide) (by decide) l2
  have no : ¬ (0 ≤ pzz.toInt ∧ pzz.toInt ≤ 1) → bk_X8_back_O_9 pl rzz.2.2.2.2.2.2.1 rzz.2.2.2.2.2.2.2 o0zz o4zz o5zz o11 = some yzz → yzz.1 = y'.1 ∧ TF pl yzz.2.1 o1 yzz.2.2.1 yzz.2.2.2.1 o8zz o6 yzz.2.2.2.2 y'.2 im0 im1 := by
    intro hp h1
    unfold bk_X8_back_O_9 at h1
    obtain ⟨zzz, kzz, h1⟩ := z_bd h1
    rcases i9zz with ⟨uzz, -⟩ | ⟨-, uzz⟩
    · obtain ⟨wzz, l, h2⟩ := z_bd (z_t h2 uzz)
      rw [← Option.some.inj h1, ← Option.some.inj h2]
      exact ht1.no (Or.inl rfl) kzz l
    · exact absurd uzz hp
  unfold f_X8_back_O at h1
  by_cases c1zz : pzz < (0 : Int32)
  · exact no (by have czz := cv_lt (a := pzz.toInt) (b := 0) rfl (by decide) c1zz; omega) (z_t h1 c1zz)
  have h1 := z_f h1 c1zz
  by_cases c2zz : pzz < (2 : Int32)
  · have d1zz := cv_nlt (a := pzz.toInt) (b := 0) rfl (by decide) c1zz
    have d2zz := cv_lt (a := pzz.toInt) (b := 2) rfl (by decide) c2zz
    obtain ⟨z4, k4zz, h1⟩ := z_bd (z_gd (z_gd (z_t h1 c2zz)).2).2
    obtain ⟨z5, k5zz, h1⟩ := z_bd h1
    obtain ⟨z6, k6zz, h1⟩ := z_bd h1
    have h1 := Option.some.inj h1
    rcases i9zz with ⟨-, uzz⟩ | ⟨uzz, -⟩
    · exact absurd ⟨d1zz, by omega⟩ uzz
    · obtain ⟨k', ek⟩ : ∃ k' : Nat, pzz.toInt = (k' : Int) := ⟨pzz.toInt.toNat, by omega⟩
      have ik : pzz.toNatClampNeg = k' := tnc_eq ek
      rw [ik] at h5 hr
      obtain ⟨q3zz, q4zz, q5zz⟩ := back9 (k := k') h2c ek (by omega) h5
      have h2 := (z_gd (z_f h2 uzz)).2
      have h2 := z_f h2 (by rw [ik, g1]; exact h5)
      obtain ⟨qzz, fq, e8, kzz⟩ := bck_t zfu 0 q1zz h2
      have ec := clear_d k5zz
      have ft := fr_f_X9_tell kzz
      have sq : StT o0zz qzz := ht1.2.2.2.1.eq rfl rfl (fq.I 1 rfl) (fq.A 2 rfl)
      obtain ⟨s1zz, s2zz, s3zz⟩ := st_grant sq (by decide) k6zz kzz
      have fg := fr_f_X8_grant k6zz
      have hTzz := Tia.cp k4zz hr (G' := gA y'.2 3) (fun jzz hj => q3zz jzz hj)
      obtain ⟨⟨h1', h2'⟩, h3, ⟨h4, h4'⟩, h5', h6, h7, h8, h9, h10⟩ := ht
      rw [← h1]
      exact ⟨s1zz.trans s2zz.symm, ⟨by rw [fzz.I 13 rfl]; exact h1', by rw [fzz.A 12 rfl]; exact h2'⟩, by rw [fg.I 13 rfl, fzz.I 11 rfl]; exact h3, ⟨h4.eq (fzz.M 31 rfl) (fzz.M 32 rfl), h4'.eq2 (fzz.M 33 rfl) (fzz.M 54 rfl)⟩, s3zz, by rw [fg.I 14 rfl, fzz.I 58 rfl]; exact h6, h7.eq (fzz.I 62 rfl) (fzz.A 61 rfl), hTzz, PaT.emp ec.1 ec.2 ((ft.I 8 rfl).trans e8), h10.eq (fg.R 7 rfl) q5zz q4zz⟩
  · exact no (by have czz := cv_nlt (a := pzz.toInt) (b := 2) rfl (by decide) c2zz; omega) (z_f h1 c2zz)
set_option maxHeartbeats 200000 in
theorem image_b2 {o4zz o5zz : Ob} {pl : List CR} {o9 oi onzz : Ob} {yzz : Int32 × Ob × Ob × Ob} (hzz : f_X8_image_b o4zz o5zz pl o9 oi onzz = some yzz) : f_X8_grant o9 0 = some (yzz.1, yzz.2.1) ∧ f_X2_set_O oi onzz pl o4zz o5zz = some (yzz.2.2.1, yzz.2.2.2) := by
  unfold f_X8_image_b at hzz
  obtain ⟨z2, e2zz, hzz⟩ := z_bd hzz
  obtain ⟨z3, e3zz, hzz⟩ := z_bd hzz
  rw [← Option.some.inj hzz]
  exact ⟨e3zz, e2zz⟩
