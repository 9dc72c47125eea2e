def dLw : DD := ([0, 13, 14, 15, 16, 18, 19, 20, 21, 23, 26, 29, 30], [17], [3, 22, 24, 25, 27, 28], [], [])
def GLw (o9 : Ob) (wzz : Int32 × Ob) : Prop := ∃ (vzz : Int32) (qzz : Ob), FrX dLw o9 qzz ∧ f_X9_tell qzz vzz = some wzz
set_option maxHeartbeats 200000 in
theorem GLw.of {o o' : Ob} {wzz : Int32 × Ob} (hzz : GLw o' wzz) (fzz : FrX dLw o o') : GLw o wzz := by
  obtain ⟨vzz, qzz, f', kzz⟩ := hzz
  exact ⟨vzz, qzz, fzz.tr f', kzz⟩
set_option maxHeartbeats 200000 in
theorem glw145 {yzz : Int32 × Ob} {v1zz : Int32} : ∀ (Nzz : Nat) (v2 : Int32) (o : Ob), lp_X9_law_145 Nzz (v1zz, v2, o) = some yzz → GLw o yzz := by
  intro Nzz
  induction Nzz with
  | zero => intro v2 o hzz; cases hzz
  | succ Nzz ihzz =>
    intro v2 o hzz
    have hzz : lb_X9_law_145 (lp_X9_law_145 Nzz) v1zz v2 o = some yzz := hzz
    unfold lb_X9_law_145 at hzz
    rcases z_if hzz with ⟨-, hzz⟩ | ⟨-, hzz⟩
    · obtain ⟨qzz, gzz, hzz⟩ := z_lt hzz
      obtain ⟨zzz, kzz, hzz⟩ := z_bd hzz
      rw [← Option.some.inj hzz]
      exact ⟨_, qzz, by rw [gzz]; exact FrX.tA FrX.rf rfl, kzz⟩
    · have hzz := (z_gd (z_gd hzz).2).2
      obtain ⟨q1zz, g1, hzz⟩ := z_lt hzz
      have hzz := (z_gd (z_gd hzz).2).2
      obtain ⟨q2zz, g2, hzz⟩ := z_lt hzz
      obtain ⟨xzz, gx, hzz⟩ := z_lt hzz
      exact (ihzz xzz q2zz hzz).of (by rw [g2, g1]; exact FrX.tA (FrX.tA FrX.rf rfl) rfl)
set_option maxHeartbeats 200000 in
theorem glw110 {yzz : Int32 × Ob} {v1zz : Int32} : ∀ (Nzz : Nat) (v2 : Int32) (o : Ob), lp_X9_law_110 Nzz (v1zz, v2, o) = some yzz → GLw o yzz := by
  intro Nzz
  induction Nzz with
  | zero => intro v2 o hzz; cases hzz
  | succ Nzz ihzz =>
    intro v2 o hzz
    have hzz : lb_X9_law_110 (lp_X9_law_110 Nzz) v1zz v2 o = some yzz := hzz
    unfold lb_X9_law_110 at hzz
    rcases z_if hzz with ⟨-, hzz⟩ | ⟨-, hzz⟩
    · exact glw145 _ _ _ hzz
    · have hzz := (z_gd (z_gd hzz).2).2
      obtain ⟨q1zz, g1, hzz⟩ := z_lt hzz
      obtain ⟨xzz, gx, hzz⟩ := z_lt hzz
      exact (ihzz xzz q1zz hzz).of (by rw [g1]; exact FrX.tA FrX.rf rfl)
set_option maxHeartbeats 200000 in
theorem glw64 {yzz : Int32 × Ob} {o : Ob} (hzz : bk_X9_law_64 o = some yzz) : GLw o yzz := by
  unfold bk_X9_law_64 at hzz
  obtain ⟨z4, k4zz, hzz⟩ := z_bd hzz
  have fzz : FrX dLw o z4 := (fr_f_X9_endText k4zz).mono rfl
  rcases z_if hzz with ⟨-, hzz⟩ | ⟨-, hzz⟩
  · obtain ⟨x5zz, g5zz, hzz⟩ := z_lt hzz
    have hzz := (z_gd hzz).2
    obtain ⟨q7zz, g7, hzz⟩ := z_lt hzz
    exact (glw110 _ _ _ hzz).of (fzz.tr (by rw [g7]; exact FrX.tA FrX.rf rfl))
  · obtain ⟨zzz, kzz, hzz⟩ := z_bd hzz
    rw [← Option.some.inj hzz]
    exact ⟨_, z4, fzz, kzz⟩
set_option maxHeartbeats 200000 in
theorem glw37 {yzz : Int32 × Ob} : ∀ (Nzz : Nat) (o : Ob), lp_X9_law_37 Nzz o = some yzz → GLw o yzz := by
  intro Nzz
  induction Nzz with
  | zero => intro o hzz; cases hzz
  | succ Nzz ihzz =>
    intro o hzz
    have hzz : lb_X9_law_37 (lp_X9_law_37 Nzz) o = some yzz := hzz
    unfold lb_X9_law_37 at hzz
    rcases z_if hzz with ⟨-, hzz⟩ | ⟨-, hzz⟩
    · obtain ⟨z1, k1zz, hzz⟩ := z_bd hzz
      rcases z_if hzz with ⟨-, hzz⟩ | ⟨-, hzz⟩
      · exact glw64 hzz
      · obtain ⟨z2, k2zz, hzz⟩ := z_bd hzz
        obtain ⟨z3, k3zz, hzz⟩ := z_bd hzz
        have f2zz : FrX dLw o z2 := (fr_f_X9_next k2zz).mono rfl
        have f3zz : FrX dLw z2 z3 := (fr_f_X9_readLaw k3zz).mono rfl
        exact (ihzz z3 hzz).of (f2zz.tr f3zz)
    · exact glw64 hzz
set_option maxHeartbeats 200000 in
theorem glw {yzz : Int32 × Ob} {o : Ob} (hzz : f_X9_law o = some yzz) : GLw o yzz := by
  unfold f_X9_law at hzz
  obtain ⟨q1zz, g1, hzz⟩ := z_lt hzz
  have f1zz : FrX dLw o q1zz := by rw [g1]; exact FrX.sI FrX.rf rfl
  rcases z_if hzz with ⟨-, hzz⟩ | ⟨-, hzz⟩
  · obtain ⟨q2zz, g2, hzz⟩ := z_lt hzz
    obtain ⟨zzz, kzz, hzz⟩ := z_bd hzz
    rw [← Option.some.inj hzz]
    exact ⟨_, q2zz, by rw [g2]; exact FrX.sI f1zz rfl, kzz⟩
  · obtain ⟨z2, k2zz, hzz⟩ := z_bd hzz
    obtain ⟨z3, k3zz, hzz⟩ := z_bd hzz
    have f2zz : FrX dLw q1zz z2 := (fr_f_X9_beginText k2zz).mono rfl
    have f3zz : FrX dLw z2 z3 := (fr_f_X9_readLaw k3zz).mono rfl
    exact (glw37 _ _ hzz).of ((f1zz.tr f2zz).tr f3zz)
set_option maxHeartbeats 200000 in
theorem law9_full {o : Ob} {yzz : Int32 × Ob} (h6 : gA o 3 2 = 6) (hzz : f_X9_law o = some yzz) : yzz.1 = -5 ∧ gA yzz.2 3 = gA o 3 ∧ gI yzz.2 18 = gI o 18 := by
  have n2zz : (2 : Int32).toNatClampNeg = 2 := by decide
  unfold f_X9_law at hzz
  rw [n2zz] at hzz
  obtain ⟨q1zz, g1, hzz⟩ := z_lt hzz
  obtain ⟨q2zz, g2, hzz⟩ := z_lt (z_t hzz (by rw [g1]; exact h6))
  obtain ⟨zzz, kzz, hzz⟩ := z_bd hzz
  obtain ⟨azz, b, -⟩ := tell_3 kzz
  have ft := fr_f_X9_tell kzz
  rw [← Option.some.inj hzz]
  exact ⟨azz, b.trans (by rw [g2, g1]; rfl), (ft.I 18 rfl).trans (by rw [g2, g1]; rfl)⟩
set_option maxHeartbeats 200000 in
theorem kept_d {o yzz : Ob} {n k1zz : Nat} (e7zz : (gI o 7).toInt = (n : Int)) (e8 : (gI o 8).toInt = (k1zz : Int)) (hzz : f_X0_kept 12 400 o = some yzz) : (∀ izz, izz < 5 → ∀ mzz, mzz < n → gA yzz izz mzz = gA o izz mzz) ∧ (∀ jzz, jzz < k1zz → gA yzz 5 jzz = gA o 5 jzz ∧ gA yzz 6 jzz = gA o 6 jzz) ∧ gI yzz 7 = gI o 7 ∧ gI yzz 8 = gI o 8 := by
  unfold f_X0_kept at hzz
  have hzz := (z_gd hzz).2
  unfold f_X0_kept2 at hzz
  have i7zz : (gI o 7).toNatClampNeg = n := tnc_eq e7zz
  have i8zz : (gI o 8).toNatClampNeg = k1zz := tnc_eq e8
  obtain ⟨q2zz, g2, hzz⟩ := z_lt (z_gd hzz).2
  obtain ⟨q4zz, g4, hzz⟩ := z_lt (z_gd hzz).2
  obtain ⟨q6zz, g6, hzz⟩ := z_lt (z_gd hzz).2
  obtain ⟨q8zz, g8, hzz⟩ := z_lt (z_gd hzz).2
  obtain ⟨q10zz, g10, hzz⟩ := z_lt (z_gd hzz).2
  obtain ⟨q12zz, g12, hzz⟩ := z_lt (z_gd hzz).2
  obtain ⟨q14zz, g14, hzz⟩ := z_lt (z_gd hzz).2
  obtain ⟨q15zz, g15, hzz⟩ := z_lt hzz
  obtain ⟨q16zz, g16, hzz⟩ := z_lt hzz
  have hzz := Option.some.inj hzz
  have a0zz : gA yzz 0 = va_cpy (gA o 0) (gA ob0 0) (0 : Int32).toNatClampNeg (0 : Int32).toNatClampNeg (gI o 7).toNatClampNeg := by rw [← hzz, g16, g15, g14, g12, g10, g8, g6, g4, g2]; rfl
  have a1zz : gA yzz 1 = va_cpy (gA o 1) (gA ob0 1) (0 : Int32).toNatClampNeg (0 : Int32).toNatClampNeg (gI o 7).toNatClampNeg := by rw [← hzz, g16, g15, g14, g12, g10, g8, g6, g4, g2]; rfl
  have a2 : gA yzz 2 = va_cpy (gA o 2) (gA ob0 2) (0 : Int32).toNatClampNeg (0 : Int32).toNatClampNeg (gI o 7).toNatClampNeg := by rw [← hzz, g16, g15, g14, g12, g10, g8, g6, g4, g2]; rfl
  have a3 : gA yzz 3 = va_cpy (gA o 3) (gA ob0 3) (0 : Int32).toNatClampNeg (0 : Int32).toNatClampNeg (gI o 7).toNatClampNeg := by rw [← hzz, g16, g15, g14, g12, g10, g8, g6, g4, g2]; rfl
  have a4 : gA yzz 4 = va_cpy (gA o 4) (gA ob0 4) (0 : Int32).toNatClampNeg (0 : Int32).toNatClampNeg (gI o 7).toNatClampNeg := by rw [← hzz, g16, g15, g14, g12, g10, g8, g6, g4, g2]; rfl
  have a5 : gA yzz 5 = va_cpy (gA o 5) (gA ob0 5) (0 : Int32).toNatClampNeg (0 : Int32).toNatClampNeg (gI o 8).toNatClampNeg := by rw [← hzz, g16, g15, g14, g12, g10, g8, g6, g4, g2]; rfl
  have a6 : gA yzz 6 = va_cpy (gA o 6) (gA ob0 6) (0 : Int32).toNatClampNeg (0 : Int32).toNatClampNeg (gI o 8).toNatClampNeg := by rw [← hzz, g16, g15, g14, g12, g10, g8, g6, g4, g2]; rfl
  refine ⟨fun izz hizz mzz hmzz => ?_, fun jzz hj => ⟨by rw [a5]; exact cpy0 i8zz hj, by rw [a6]; exact cpy0 i8zz hj⟩, by rw [← hzz, g16, g15]; rfl, by rw [← hzz, g16]; rfl⟩
  rcases (show izz = 0 ∨ izz = 1 ∨ izz = 2 ∨ izz = 3 ∨ izz = 4 by omega) with ezz | ezz | ezz | ezz | ezz
  · rw [ezz, a0zz]; exact cpy0 i7zz hmzz
  · rw [ezz, a1zz]; exact cpy0 i7zz hmzz
  · rw [ezz, a2]; exact cpy0 i7zz hmzz
  · rw [ezz, a3]; exact cpy0 i7zz hmzz
  · rw [ezz, a4]; exact cpy0 i7zz hmzz
set_option maxHeartbeats 200000 in
theorem LwE.loc {oc : Ob} {Gzz G' : Nat → Int32} {l : Nat} (hzz : LwE oc Gzz l) (ezz : ∀ jzz, 84 + 900 * l ≤ jzz → jzz < 84 + 900 * l + 900 → G' jzz = Gzz jzz) : LwE oc G' l := by
  obtain ⟨n, K1, K2, h1, h2, h3, h4, h5, h6, h7⟩ := hzz
  refine ⟨n, K1, K2, h1, h2, h3, h4, h5, by rw [ezz _ (by omega) (by omega)]; exact h6, fun mzz hmzz => (h7 mzz hmzz).mv (fun _ _ => rfl) (fun _ _ => ⟨rfl, rfl⟩) (fun izz hizz => ?_) (fun jzz hj => ⟨?_, ?_⟩) (Nat.le_refl _) (Nat.le_refl _)⟩
  · show G' (84 + 900 * l + 2 + (8 * mzz + izz)) = Gzz (84 + 900 * l + 2 + (8 * mzz + izz))
    exact ezz _ (by omega) (by omega)
  · show G' (84 + 900 * l + 98 + 2 * jzz) = Gzz (84 + 900 * l + 98 + 2 * jzz)
    exact ezz _ (by omega) (by omega)
  · show G' (84 + 900 * l + 98 + 2 * jzz + 1) = Gzz (84 + 900 * l + 98 + 2 * jzz + 1)
    exact ezz _ (by omega) (by omega)
set_option maxHeartbeats 200000 in
theorem pfind_new {pl : List CR} {czz : CR} (hzz : ∀ c' ∈ pl, c'.1 ≠ czz.1) : pfind (pl ++ [czz]) czz.1 = some czz := by
  unfold pfind
  rw [List.find?_append]
  have ezz : pl.find? (fun c' => Nat.beq c'.1 czz.1) = none := List.find?_eq_none.mpr (fun xzz hx qzz => hzz xzz hx (Nat.eq_of_beq_eq_true qzz))
  have qzz : [czz].find? (fun c' => Nat.beq c'.1 czz.1) = some czz := List.find?_cons_of_pos (Nat.beq_refl czz.1)
  rw [ezz, qzz]; rfl
set_option maxHeartbeats 200000 in
theorem tf_law_no {pl : List CR} {o0zz o1 o4zz o5zz o8zz o6 o11 o9 o1' : Ob} {im0 im1 : Option IR} {vzz : Int32} {z3 : Int32 × Ob} {y' : Int32 × Ob} (ht : TF pl o0zz o1 o4zz o5zz o8zz o6 o11 o9 im0 im1) (hv : vzz = -5 ∨ vzz = -6) (k3zz : f_X8_refuse o0zz vzz = some z3) (h2 : f_X9_law o9 = some y') (e1zz : y'.1 = vzz) (e3zz : gA y'.2 3 = gA o9 3) (eT : gA o1' 0 = gA o1 0) (e2zz : gI o1' 2 = 0) : z3.1 = y'.1 ∧ TF pl z3.2 o1' o4zz o5zz o8zz o6 o11 y'.2 im0 im1 := by
  have fzz := fr_f_X9_law h2
  obtain ⟨v', qzz, fq, kzz⟩ := glw h2
  have evzz : v' = vzz := (tell_3 kzz).1.symm.trans e1zz
  rw [evzz] at kzz
  have sq : StT o0zz qzz := ht.2.2.2.1.eq rfl rfl (fq.I 1 rfl) (fq.A 2 rfl)
  have s3zz := (st_refuse sq (by rcases hv with ezz | ezz; exact Or.inr (Or.inr (Or.inr (Or.inl ezz))); exact Or.inr (Or.inr (Or.inr (Or.inr ezz)))) k3zz kzz).2.2
  have fa := fr_f_X8_refuse k3zz
  obtain ⟨⟨h1', h2'⟩, h3, ⟨h4, h4'⟩, h5, h6, h7, h8, h9, h10⟩ := ht
  exact ⟨(refuse_ret k3zz).trans e1zz.symm, ⟨by rw [e2zz, law9_13 h2], by rw [eT, fzz.A 12 rfl]; exact h2'⟩, by rw [fa.I 13 rfl, fzz.I 11 rfl]; exact h3, ⟨h4.eq (fzz.M 31 rfl) (fzz.M 32 rfl), h4'.eq2 (fzz.M 33 rfl) (fzz.M 54 rfl)⟩, s3zz, by rw [fa.I 14 rfl, fzz.I 58 rfl]; exact h6, h7.eq (fzz.I 62 rfl) (fzz.A 61 rfl), by rw [e3zz]; exact h8, by rw [e3zz]; exact h9.eq (fzz.I 8 rfl) (fzz.A 6 rfl) (fzz.A 7 rfl), h10.eq (fa.R 7 rfl) (fzz.A 5 rfl) (fzz.A 4 rfl)⟩
set_option maxHeartbeats 200000 in
theorem tf_law_y {pl : List CR} {o0zz o1 o2 o4zz o5zz o8zz o6 o11 o9 oc : Ob} {im0 im1 : Option IR} {z1 : Int32 × Ob × Ob} {czz : CR} {yzz : Int32 × Ob × Ob} {y' : Int32 × Ob} (ht : TF pl o0zz o1 o4zz o5zz o8zz o6 o11 o9 im0 im1) (hr : 0 ≤ (gI o1 2).toInt ∧ (gI o1 2).toInt ≤ 400) (c1zz : gI o4zz 9 < (6 : Int32)) (ez1 : f_X6_readText 12 400 o1 o2 1 = some z1) (c2zz : ¬ z1.1 = 0) (eT : gA z1.2.1 0 = gA o1 0) (eoc : f_X0_kept 12 400 z1.2.2 = some oc) (ecc : czz.2.2.2.2.2 = oc) (hfr : ∀ c' ∈ pl, c'.1 ≠ czz.1) (ey : f_X8_law_b (pl ++ [czz]) o0zz o4zz (some czz.1) = some yzz) (h2 : f_X9_law o9 = some y') : yzz.1 = y'.1 ∧ TF (pl ++ [czz]) yzz.2.1 (sI z1.2.1 2 0) yzz.2.2 o5zz o8zz o6 o11 y'.2 im0 im1 := by
  have fzz := fr_f_X9_law h2
  obtain ⟨v', qzz, fq, kzz⟩ := glw h2
  obtain ⟨t1zz, t2zz, t3zz, t4zz⟩ := ht.2.2.2.2.2.2.1
  have r9 := t2zz.2.1
  obtain ⟨l, el⟩ : ∃ l : Nat, (gA o9 3 2).toInt = (l : Int) := ⟨(gA o9 3 2).toInt.toNat, by omega⟩
  have d1zz := cv_lt (a := (l : Int)) (b := 6) (by rw [r9.1]; exact el) (by decide) c1zz
  have hl : l < 6 := by omega
  rcases law9_eq el hl ⟨ht.1.1, ht.1.2, by rw [← ht.1.1]; exact hr.1, by rw [← ht.1.1]; exact hr.2⟩ ht.2.2.1.1 ht.2.2.1.2 ez1 h2 with ⟨b1, -⟩ | ⟨b1, b2, b3, b4, wzz, k1zz, k2zz, n, b5, b6, b7, b8, b9, b10, b11⟩
  · exact absurd b1 c2zz
  · obtain ⟨x1zz, x2zz, x3, x4zz, x5zz, x6⟩ := b8
    have xk1 := x1zz.2.2.2.2.1
    have hk2 : k2zz ≤ 400 := x1zz.2.2.2.2.2.2.2.1
    have hk1 : k1zz ≤ 400 := by
      have q1zz := x1zz.2.2.2.2.2.2.1
      obtain ⟨u1zz, -, -, -, azz, b, ua, ubzz, uab, ub13, -⟩ := x1zz.1
      have q2zz := u1zz.2.2.2
      omega
    obtain ⟨p1zz, p2zz, p3zz, p4zz⟩ := kept_d x3 xk1 eoc
    have lw : LwE oc (gA y'.2 3) l := by
      refine ⟨n, k1zz, k2zz, b7, hk1, hk2, by rw [p3zz]; exact x3, by rw [p4zz]; exact xk1, b9, fun mzz hmzz => (x6 mzz hmzz).mv (fun izz hizz => p1zz izz hizz mzz hmzz) p2zz (fun izz hizz => ?_) (fun jzz hj => ?_) (Nat.le_refl _) (Nat.le_refl _)⟩
      · show gA y'.2 3 (84 + 900 * l + 2 + (8 * mzz + izz)) = gA wzz 22 (8 * mzz + izz)
        exact b10 (8 * mzz + izz) (by omega)
      · show gA y'.2 3 (84 + 900 * l + 98 + 2 * jzz) = gA wzz 24 jzz ∧ gA y'.2 3 (84 + 900 * l + 98 + 2 * jzz + 1) = gA wzz 25 jzz
        exact b11 jzz hj
    unfold f_X8_law_b at ey
    obtain ⟨z3, k3zz, ey⟩ := z_bd ey
    obtain ⟨z4, k4zz, ey⟩ := z_bd ey
    have ey := Option.some.inj ey
    unfold f_X2_addLaw_Q at k3zz
    have k3zz := (z_gd (z_gd (z_t k3zz c1zz)).2).2
    obtain ⟨m3zz, g3zz, k3zz⟩ := z_lt k3zz
    obtain ⟨m4zz, g4, k3zz⟩ := z_lt k3zz
    have k3zz := Option.some.inj k3zz
    have il : (gI o4zz 9).toNatClampNeg = l := tnc_eq (by rw [r9.1]; exact el)
    rw [il] at g3zz
    have v4zz : m4zz = sI (tR o4zz 6 l (some czz.1)) 9 (gI o4zz 9 + 1) := by rw [g4, g3zz]; rfl
    have el1 : (gA o9 3 2 + 1).toInt = (l : Int) + 1 := i32_add el (by decide) (by omega) (by omega)
    have ez31 : z3.1 = gA o9 3 2 := by
      rw [← k3zz]
      show gI m4zz 9 - 1 = _
      rw [v4zz]
      show (gI o4zz 9 + 1) - 1 = _
      rw [r9.1]
      exact Int32.toInt_inj.mp (by rw [i32_sub el1 (by decide : (1 : Int32).toInt = 1) (by omega) (by omega), el]; omega)
    have ez32 : z3.2 = m4zz := by rw [← k3zz]
    have evzz : v' = gA o9 3 2 := (tell_3 kzz).1.symm.trans b2
    rw [evzz] at kzz
    rw [ez31] at k4zz
    have sq : StT o0zz qzz := ht.2.2.2.1.eq rfl rfl (fq.I 1 rfl) (fq.A 2 rfl)
    obtain ⟨s1zz, s2zz, s3zz⟩ := st_grant sq (by rw [el]; omega) k4zz kzz
    have fg := fr_f_X8_grant k4zz
    have fnd := pfind_new hfr
    have Ezz : ∀ jzz, jzz ≠ 2 → jzz < 84 + 900 * l → gA y'.2 3 jzz = gA o9 3 jzz := fun jzz hzz h' => b4 jzz hzz (Or.inl h')
    have E0zz : gA y'.2 3 0 = gA o9 3 0 := Ezz 0 (by omega) (by omega)
    obtain ⟨⟨h1', h2'⟩, h3, ⟨h4, h4'⟩, h5, h6, h7, -, h9, h10⟩ := ht
    rw [← ey]
    refine ⟨s1zz.trans s2zz.symm, ⟨(law9_13 h2).symm, ?_⟩, by rw [fg.I 13 rfl, fzz.I 11 rfl]; exact h3, ⟨h4.eq (fzz.M 31 rfl) (fzz.M 32 rfl), h4'.eq2 (fzz.M 33 rfl) (fzz.M 54 rfl)⟩, s3zz, by rw [fg.I 14 rfl, fzz.I 58 rfl]; exact h6, h7.eq (fzz.I 62 rfl) (fzz.A 61 rfl), ⟨?_, ?_, t3zz.ext (fun _ _ => rfl) (fun _ _ => rfl) rfl rfl rfl (fun jzz j1 j2zz => Ezz jzz (by omega) (by omega)), fun jzz hj => ?_⟩, ?_, h10.app.eq (fg.R 7 rfl) (fzz.A 5 rfl) (fzz.A 4 rfl)⟩
    · show gA z1.2.1 0 = gA y'.2 12
      rw [eT, fzz.A 12 rfl]; exact h2'
    · rw [ez32, v4zz]
      exact t1zz.eq rfl rfl rfl rfl rfl (fun jzz hj => Ezz jzz (by omega) (by omega))
    · rw [ez32, v4zz]
      obtain ⟨v1zz, v2, v3, v4', v5, v6⟩ := t2zz
      refine ⟨⟨by rw [E0zz]; exact v1zz.1, fun jzz hj => by rw [Ezz (36 + jzz) (by omega) (by omega)]; exact v1zz.2.1 jzz hj, by rw [Ezz 6 (by omega) (by omega)]; exact v1zz.2.2⟩, ⟨by rw [b3, ← r9.1]; rfl, by rw [b3, el1]; omega, by rw [b3, el1]; omega⟩, ⟨by rw [Ezz 3 (by omega) (by omega)]; exact v3.1, by rw [Ezz 3 (by omega) (by omega)]; exact v3.2.1, by rw [Ezz 3 (by omega) (by omega), b3, el1]; have := v3.2.2; omega⟩, by rw [Ezz 5 (by omega) (by omega)]; exact v4', fun jzz hj => by rw [Ezz (71 + 2 * jzz) (by omega) (by omega), Ezz (72 + 2 * jzz) (by omega) (by omega)]; exact v5 jzz hj, fun izz hizz => ?_⟩
      rw [b3, el1] at hizz
      by_cases c0zz : izz = l
      · rw [c0zz]
        refine ⟨czz.1, czz, ?_, fnd, by rw [ecc]; exact lw⟩
        show (if l = l then some czz.1 else gR o4zz 6 l) = some czz.1
        rw [if_pos rfl]
      · obtain ⟨aa, cc, r1zz, r2, r3⟩ := v6 izz (by omega)
        refine ⟨aa, cc, ?_, pfind_app r2, r3.loc (fun jzz j1 j2zz => b4 jzz (by omega) (by omega))⟩
        show (if izz = l then some czz.1 else gR o4zz 6 izz) = some aa
        rw [if_neg c0zz]; exact r1zz
    · have g0 := t2zz.1.1.2.1
      rw [E0zz] at hj
      rw [Ezz jzz (by omega) (by omega)]
      exact t4zz jzz hj
    · rw [E0zz]
      exact h9.cell (fzz.I 8 rfl) (fzz.A 6 rfl) (fzz.A 7 rfl) (fun jzz hj => Ezz jzz (by omega) (by omega))
set_option maxHeartbeats 200000 in
theorem tf_law_bad {pl : List CR} {o0zz o1 o2 o4zz o5zz o8zz o6 o11 o9 : Ob} {im0 im1 : Option IR} {z1 : Int32 × Ob × Ob} {z3 : Int32 × Ob} {y' : Int32 × Ob} (ht : TF pl o0zz o1 o4zz o5zz o8zz o6 o11 o9 im0 im1) (hr : 0 ≤ (gI o1 2).toInt ∧ (gI o1 2).toInt ≤ 400) (c1zz : gI o4zz 9 < (6 : Int32)) (ez1 : f_X6_readText 12 400 o1 o2 1 = some z1) (c2zz : z1.1 = 0) (eT : gA z1.2.1 0 = gA o1 0) (k3zz : f_X8_refuse o0zz (-6) = some z3) (h2 : f_X9_law o9 = some y') : z3.1 = y'.1 ∧ TF pl z3.2 (sI z1.2.1 2 0) o4zz o5zz o8zz o6 o11 y'.2 im0 im1 := by
  have r9 := ht.2.2.2.2.2.2.1.2.1.2.1
  obtain ⟨l, el⟩ : ∃ l : Nat, (gA o9 3 2).toInt = (l : Int) := ⟨(gA o9 3 2).toInt.toNat, by omega⟩
  have d1zz := cv_lt (a := (l : Int)) (b := 6) (by rw [r9.1]; exact el) (by decide) c1zz
  rcases law9_eq el (by omega) ⟨ht.1.1, ht.1.2, by rw [← ht.1.1]; exact hr.1, by rw [← ht.1.1]; exact hr.2⟩ ht.2.2.1.1 ht.2.2.1.2 ez1 h2 with ⟨b1, b2, b3, -⟩ | ⟨b1, -⟩
  · exact tf_law_no ht (Or.inr rfl) k3zz h2 b2 b3 (by show gA z1.2.1 0 = gA o1 0; exact eT) rfl
  · rw [c2zz] at b1; exact absurd b1 (by decide)
set_option maxHeartbeats 200000 in
theorem tf_law_full {pl : List CR} {o0zz o1 o4zz o5zz o8zz o6 o11 o9 : Ob} {im0 im1 : Option IR} {z3 : Int32 × Ob} {y' : Int32 × Ob} (ht : TF pl o0zz o1 o4zz o5zz o8zz o6 o11 o9 im0 im1) (c1zz : ¬ gI o4zz 9 < (6 : Int32)) (k3zz : f_X8_refuse o0zz (-5) = some z3) (h2 : f_X9_law o9 = some y') : z3.1 = y'.1 ∧ TF pl z3.2 (sI o1 2 0) o4zz o5zz o8zz o6 o11 y'.2 im0 im1 := by
  have r9 := ht.2.2.2.2.2.2.1.2.1.2.1
  have d1zz := cv_nlt (a := (gA o9 3 2).toInt) (b := 6) (by rw [r9.1]) (by decide) c1zz
  have h6 : gA o9 3 2 = 6 := Int32.toInt_inj.mp (by rw [(by decide : (6 : Int32).toInt = 6)]; omega)
  obtain ⟨b1, b2, -⟩ := law9_full h6 h2
  exact tf_law_no ht (Or.inl rfl) k3zz h2 b1 b2 rfl rfl
set_option maxHeartbeats 200000 in
theorem TzI.loc {pl : List CR} {isl isl' : Ob} {Gzz G' : Nat → Int32} (hzz : TzI pl isl Gzz) (i7zz : gI isl' 7 = gI isl 7) (i9zz : gI isl' 9 = gI isl 9) (i10zz : gI isl' 10 = gI isl 10) (i11zz : gI isl' 11 = gI isl 11) (i12zz : gI isl' 12 = gI isl 12) (a2 : ∀ jzz, jzz < 28 → gA isl' 2 jzz = gA isl 2 jzz) (a4 : ∀ jzz, jzz < 6 → gA isl' 4 jzz = gA isl 4 jzz) (a5 : ∀ jzz, jzz < 6 → gA isl' 5 jzz = gA isl 5 jzz) (aR : ∀ jzz, jzz < 6 → gR isl' 6 jzz = gR isl 6 jzz)
    (eg : ∀ jzz, jzz < 5484 → G' jzz = Gzz jzz) : TzI pl isl' G' := by
  have e0zz : G' 0 = Gzz 0 := eg 0 (by omega)
  have e2zz : G' 2 = Gzz 2 := eg 2 (by omega)
  have e3zz : G' 3 = Gzz 3 := eg 3 (by omega)
  have e5zz : G' 5 = Gzz 5 := eg 5 (by omega)
  have e6zz : G' 6 = Gzz 6 := eg 6 (by omega)
  unfold TzI WiL
  rw [e0zz, e2zz, e3zz, e5zz, e6zz, i7zz, i9zz, i10zz, i11zz, i12zz]
  refine ⟨⟨hzz.1.1, fun jzz hj => ?_, hzz.1.2.2⟩, hzz.2.1, hzz.2.2.1, hzz.2.2.2.1, fun jzz hj => ?_, fun l hl => ?_⟩
  · rw [a2 jzz hj, eg (36 + jzz) (by omega)]; exact hzz.1.2.1 jzz hj
  · rw [a4 jzz hj, a5 jzz hj, eg (71 + 2 * jzz) (by omega), eg (72 + 2 * jzz) (by omega)]; exact hzz.2.2.2.2.1 jzz hj
  · obtain ⟨azz, czz, r1zz, r2, r3⟩ := hzz.2.2.2.2.2 l hl
    have := hzz.2.1.2.2
    exact ⟨azz, czz, by rw [aR l (by omega)]; exact r1zz, r2, r3.loc (fun jzz j1 j2zz => eg jzz (by omega))⟩
set_option maxHeartbeats 200000 in
theorem Tia.cp {pl pl' : List CR} {oi onzz a0zz a0n : Ob} {zzz : Ob × Ob} {Gzz G' : Nat → Int32} (hzz : f_X2_set_O oi onzz pl' a0zz a0n = some zzz) (ht : Tia pl a0zz a0n Gzz) (eg : ∀ jzz, jzz < 5484 → G' jzz = Gzz jzz) : Tia pl zzz.1 zzz.2 G' := by
  obtain ⟨s1zz, ⟨s7, s8, s9, s10, s11, s12⟩, r1zz, r2, r3, r4, r5zz, rR⟩ := setIsl hzz
  obtain ⟨m0zz, m1zz, m2zz, m3zz, m4zz⟩ := setM s1zz
  obtain ⟨t1zz, t2zz, t3zz, t4zz⟩ := ht
  refine ⟨Tis.cp hzz t1zz (fun jzz hj => eg jzz (by omega)), t2zz.loc s7 s9 s10 s11 s12 r2 r4 r5zz rR eg, t3zz.ext m0zz m1zz m2zz m3zz m4zz (fun jzz j1 j2zz => eg jzz (by omega)), fun jzz hj => ?_⟩
  have g0 := t2zz.1.1.2.1
  rw [eg 0 (by omega)] at hj
  rw [eg jzz (by omega)]
  exact t4zz jzz hj
set_option maxHeartbeats 200000 in
theorem Tia.loc {pl : List CR} {isl mv : Ob} {Gzz G' : Nat → Int32} (hzz : Tia pl isl mv Gzz) (eg : ∀ jzz, jzz < 5484 → G' jzz = Gzz jzz) : Tia pl isl mv G' := by
  obtain ⟨t1zz, t2zz, t3zz, t4zz⟩ := hzz
  refine ⟨t1zz.eq rfl rfl rfl rfl rfl (fun jzz hj => eg jzz (by omega)), t2zz.loc rfl rfl rfl rfl rfl (fun _ _ => rfl) (fun _ _ => rfl) (fun _ _ => rfl) (fun _ _ => rfl) eg, t3zz.ext (fun _ _ => rfl) (fun _ _ => rfl) rfl rfl rfl (fun jzz j1 j2zz => eg jzz (by omega)), fun jzz hj => ?_⟩
  have g0 := t2zz.1.1.2.1
  rw [eg 0 (by omega)] at hj
  rw [eg jzz (by omega)]
  exact t4zz jzz hj
set_option maxHeartbeats 200000 in
theorem TslF.put {pl : List CR} {o0' o9 o9' : Ob} {kzz : Nat} {gzz : Nat → Option Nat} {rzz : IR} (e0zz : ∀ jzz, gR o0' 7 jzz = if jzz = kzz then some rzz.1 else gzz jzz) (e5zz : ∀ jzz, gA o9' 5 jzz = if jzz = kzz then 1 else gA o9 5 jzz) (ht : Tia pl rzz.2.2.2.2.2.2.1 rzz.2.2.2.2.2.2.2 (fun jzz => gA o9' 4 (5484 * kzz + jzz))) : TslF pl o0' o9' kzz (some rzz) := by
  refine ⟨(fun qzz => by cases qzz), fun r' qzz => ?_⟩
  rw [← Option.some.inj qzz]
  exact ⟨by rw [e0zz, if_pos rfl], by rw [e5zz, if_pos rfl]; decide, ht⟩
set_option maxHeartbeats 200000 in
theorem TslF.oth {pl : List CR} {o0zz o9 o0' o9' : Ob} {kzz k' : Nat} {azz : Option Nat} {im : Option IR} (hzz : TslF pl o0zz o9 k' im) (hk : kzz < 2) (hk' : k' < 2) (hn : k' ≠ kzz) (e0zz : ∀ jzz, gR o0' 7 jzz = if jzz = kzz then azz else gR o0zz 7 jzz) (e5zz : ∀ jzz, gA o9' 5 jzz = if jzz = kzz then 1 else gA o9 5 jzz) (e4zz : ∀ jzz, jzz < 5484 * kzz ∨ 5484 * kzz + 5484 ≤ jzz → gA o9' 4 jzz = gA o9 4 jzz) : TslF pl o0' o9' k' im := by
  refine ⟨fun qzz => ?_, fun rzz qzz => ?_⟩
  · rw [e0zz, if_neg hn, e5zz, if_neg hn]; exact hzz.1 qzz
  · obtain ⟨a1zz, a2, a3⟩ := hzz.2 rzz qzz
    rw [e0zz, if_neg hn, e5zz, if_neg hn]
    exact ⟨a1zz, a2, a3.loc (fun jzz hj => e4zz (5484 * k' + jzz) (by omega))⟩
set_option maxHeartbeats 200000 in
theorem TimF.put0 {pl : List CR} {o0zz o9 o0' o9' : Ob} {kzz : Nat} {im0 im1 : Option IR} {rzz : IR} (hk : kzz < 2) (ta : TslF pl o0zz o9 kzz im0) (tbzz : TslF pl o0zz o9 (1 - kzz) im1) (e0zz : ∀ jzz, gR o0' 7 jzz = if jzz = kzz then some rzz.1 else gR o0zz 7 jzz) (e5zz : ∀ jzz, gA o9' 5 jzz = if jzz = kzz then 1 else gA o9 5 jzz) (e4zz : ∀ jzz, jzz < 5484 * kzz ∨ 5484 * kzz + 5484 ≤ jzz → gA o9' 4 jzz = gA o9 4 jzz) (ht : Tia pl rzz.2.2.2.2.2.2.1 rzz.2.2.2.2.2.2.2 (fun jzz => gA o9' 4 (5484 * kzz + jzz))) : TimF pl o0' o9' (some rzz) im1 :=
  ⟨kzz, hk, TslF.put e0zz e5zz ht, tbzz.oth hk (by omega) (by omega) e0zz e5zz e4zz⟩
set_option maxHeartbeats 200000 in
theorem TimF.put1 {pl : List CR} {o0zz o9 o0' o9' : Ob} {kzz : Nat} {im0 im1 : Option IR} {rzz : IR} (hk : kzz < 2) (ta : TslF pl o0zz o9 (1 - kzz) im0) (tbzz : TslF pl o0zz o9 kzz im1) (e0zz : ∀ jzz, gR o0' 7 jzz = if jzz = kzz then some rzz.1 else gR o0zz 7 jzz) (e5zz : ∀ jzz, gA o9' 5 jzz = if jzz = kzz then 1 else gA o9 5 jzz) (e4zz : ∀ jzz, jzz < 5484 * kzz ∨ 5484 * kzz + 5484 ≤ jzz → gA o9' 4 jzz = gA o9 4 jzz) (ht : Tia pl rzz.2.2.2.2.2.2.1 rzz.2.2.2.2.2.2.2 (fun jzz => gA o9' 4 (5484 * kzz + jzz))) : TimF pl o0' o9' im0 (some rzz) := by
  have ezz : 1 - (1 - kzz) = kzz := by omega
  exact ⟨1 - kzz, by omega, ta.oth hk (by omega) (by omega) e0zz e5zz e4zz, by rw [ezz]; exact TslF.put e0zz e5zz ht⟩
set_option maxHeartbeats 200000 in
theorem TimF.ik {pl : List CR} {o0zz o9 : Ob} {im0 im1 : Option IR} (hzz : TimF pl o0zz o9 im0 im1) (h2 : ∀ jzz, 2 ≤ jzz → gR o0zz 7 jzz = none) : IK (gR o0zz 7) im0 im1 := by
  obtain ⟨s, hs, azz, b⟩ := hzz
  exact IK.of ⟨s, hs, ⟨azz.1, fun rzz hr => ⟨(azz.2 rzz hr).1, (azz.2 rzz hr).2.1, (azz.2 rzz hr).2.2.1⟩⟩, b.1, fun rzz hr => ⟨(b.2 rzz hr).1, (b.2 rzz hr).2.1, (b.2 rzz hr).2.2.1⟩⟩ h2
def dIm : DD := ([0, 8], [], [3, 4, 5], [], [])
set_option maxHeartbeats 200000 in
theorem img_t {yzz : Int32 × Ob} {v1zz : Int32} : ∀ (Nzz : Nat) (v2 : Int32) (o : Ob), lp_X9_image_23 Nzz (v1zz, v2, o) = some yzz → ∃ qzz : Ob, FrX dIm o qzz ∧ f_X9_tell qzz 0 = some yzz := by
  intro Nzz
  induction Nzz with
  | zero => intro v2 o hzz; cases hzz
  | succ Nzz ihzz =>
    intro v2 o hzz
    have hzz : lb_X9_image_23 (lp_X9_image_23 Nzz) v1zz v2 o = some yzz := hzz
    unfold lb_X9_image_23 at hzz
    rcases z_if hzz with ⟨-, hzz⟩ | ⟨-, hzz⟩
    · have hzz := (z_gd hzz).2
      obtain ⟨qzz, gzz, hzz⟩ := z_lt hzz
      obtain ⟨zzz, kzz, hzz⟩ := z_bd hzz
      rw [← Option.some.inj hzz]
      exact ⟨qzz, by rw [gzz]; exact FrX.tA FrX.rf rfl, kzz⟩
    · have hzz := (z_gd (z_gd hzz).2).2
      obtain ⟨q1zz, g1, hzz⟩ := z_lt hzz
      obtain ⟨xzz, gx, hzz⟩ := z_lt hzz
      obtain ⟨qzz, fzz, kzz⟩ := ihzz xzz q1zz hzz
      exact ⟨qzz, (by rw [g1]; exact FrX.tA FrX.rf rfl : FrX dIm o q1zz).tr fzz, kzz⟩
set_option maxHeartbeats 200000 in
theorem bck_t {yzz : Int32 × Ob} {v1zz : Int32} : ∀ (Nzz : Nat) (v2 : Int32) (o : Ob), lp_X9_back_39 Nzz (v1zz, v2, o) = some yzz → ∃ qzz : Ob, FrX dIm o qzz ∧ gI qzz 8 = 0 ∧ f_X9_tell qzz 0 = some yzz := by
  intro Nzz
  induction Nzz with
  | zero => intro v2 o hzz; cases hzz
  | succ Nzz ihzz =>
    intro v2 o hzz
    have hzz : lb_X9_back_39 (lp_X9_back_39 Nzz) v1zz v2 o = some yzz := hzz
    unfold lb_X9_back_39 at hzz
    rcases z_if hzz with ⟨-, hzz⟩ | ⟨-, hzz⟩
    · obtain ⟨zzz, kzz, hzz⟩ := z_bd hzz
      unfold f_X9_settled at kzz
      have kzz := z_t kzz (by decide)
      unfold bk_X9_settled_13 at kzz
      obtain ⟨q2zz, g2, kzz⟩ := z_lt kzz
      obtain ⟨z2, k2zz, kzz⟩ := z_bd kzz
      refine ⟨q2zz, by rw [g2]; exact FrX.sI FrX.rf rfl, by rw [g2]; rfl, ?_⟩
      rw [k2zz, ← Option.some.inj hzz, ← Option.some.inj kzz]
    · have hzz := (z_gd (z_gd hzz).2).2
      obtain ⟨q1zz, g1, hzz⟩ := z_lt hzz
      obtain ⟨xzz, gx, hzz⟩ := z_lt hzz
      obtain ⟨qzz, fzz, e8, kzz⟩ := ihzz xzz q1zz hzz
      exact ⟨qzz, (by rw [g1]; exact FrX.tA FrX.rf rfl : FrX dIm o q1zz).tr fzz, e8, kzz⟩
set_option maxHeartbeats 200000 in
theorem tf_img_no {pl : List CR} {o0zz o1 o4zz o5zz o8zz o6 o11 o9 : Ob} {im0 im1 : Option IR} {pzz : Int32} {zzz y' : Int32 × Ob} (ht : TF pl o0zz o1 o4zz o5zz o8zz o6 o11 o9 im0 im1) (hp : ¬ (0 ≤ pzz.toInt ∧ pzz.toInt ≤ 1)) (k1zz : f_X8_refuse o0zz (-1) = some zzz) (h2 : f_X9_image o9 pzz = some y') : zzz.1 = y'.1 ∧ TF pl zzz.2 o1 o4zz o5zz o8zz o6 o11 y'.2 im0 im1 := by
  unfold f_X9_image at h2
  obtain ⟨q1zz, g1, h2⟩ := z_lt h2
  have ht1 : TF pl o0zz o1 o4zz o5zz o8zz o6 o11 q1zz im0 im1 := by rw [g1]; exact ht.sI0
  obtain ⟨w2zz, l2, h2⟩ := z_bd h2
  rcases in9 (m := 0) (n := 1) (by decide) (by decide) l2 with ⟨uzz, -⟩ | ⟨-, uzz⟩
  · obtain ⟨wzz, l, h2⟩ := z_bd (z_t h2 uzz)
    rw [← Option.some.inj h2]
    exact ht1.no (Or.inl rfl) k1zz l
  · exact absurd uzz hp
set_option maxHeartbeats 200000 in
theorem tf_img_ok {pl : List CR} {o0zz oz o1 o4zz o5zz o8zz o6 o11 o9 : Ob} {im0 im1 im0' im1' : Option IR} {pzz : Int32} {zzz y' : Int32 × Ob} (ht : TF pl o0zz o1 o4zz o5zz o8zz o6 o11 o9 im0 im1) (hp : 0 ≤ pzz.toInt ∧ pzz.toInt ≤ 1) (ez : (∀ izz, gI oz izz = gI o0zz izz) ∧ ∀ izz, gA oz izz = gA o0zz izz) (k1zz : f_X8_grant oz 0 = some zzz) (h2 : f_X9_image o9 pzz = some y') (tm : TimF pl zzz.2 y'.2 im0' im1') : zzz.1 = y'.1 ∧ TF pl zzz.2 o1 o4zz o5zz o8zz o6 o11 y'.2 im0' im1' := by
  have fzz := fr_f_X9_image h2
  unfold f_X9_image at h2
  obtain ⟨q1zz, g1, h2⟩ := z_lt h2
  obtain ⟨w2zz, l2, h2⟩ := z_bd h2
  rcases in9 (m := 0) (n := 1) (by decide) (by decide) l2 with ⟨-, uzz⟩ | ⟨uzz, -⟩
  · exact absurd hp uzz
  · obtain ⟨qzz, fq, kzz⟩ := img_t zfu 0 q1zz (z_f h2 uzz)
    have sq : StT oz qzz := ht.2.2.2.1.eq (ez.1 12) (ez.2 11) (by rw [fq.I 1 rfl, g1]; rfl) (by rw [fq.A 2 rfl, g1]; rfl)
    obtain ⟨s1zz, s2zz, s3zz⟩ := st_grant sq (by decide) k1zz kzz
    have fg := fr_f_X8_grant k1zz
    obtain ⟨⟨h1', h2'⟩, h3, ⟨h4, h4'⟩, h5, h6, h7, h8, h9, -⟩ := ht
    exact ⟨s1zz.trans s2zz.symm, ⟨by rw [fzz.I 13 rfl]; exact h1', by rw [fzz.A 12 rfl]; exact h2'⟩, by rw [fg.I 13 rfl, ez.1 13, fzz.I 11 rfl]; exact h3, ⟨h4.eq (fzz.M 31 rfl) (fzz.M 32 rfl), h4'.eq2 (fzz.M 33 rfl) (fzz.M 54 rfl)⟩, s3zz, by rw [fg.I 14 rfl, ez.1 14, fzz.I 58 rfl]; exact h6, h7.eq (fzz.I 62 rfl) (fzz.A 61 rfl), by rw [fzz.A 3 rfl]; exact h8, by rw [fzz.A 3 rfl]; exact h9.eq (fzz.I 8 rfl) (fzz.A 6 rfl) (fzz.A 7 rfl), tm⟩
set_option maxHeartbeats 200000 in
theorem tf_backN {pl : List CR} {o0zz o1 o4zz o5zz o8zz o6 o11 o9 : Ob} {im0 im1 : Option IR} {pzz : Int32} {yzz y' : Int32 × Ob} (ht : TF pl o0zz o1 o4zz o5zz o8zz o6 o11 o9 im0 im1) (h1 : f_X8_back_N o0zz pzz = some yzz) (h2 : f_X9_back o9 pzz = some y') (qzz : gR o0zz 7 pzz.toNatClampNeg = none) : yzz.1 = y'.1 ∧ TF pl yzz.2 o1 o4zz o5zz o8zz o6 o11 y'.2 im0 im1 := by
  unfold f_X9_back at h2
  obtain ⟨q1zz, g1, h2⟩ := z_lt h2
  have ht1 : TF pl o0zz o1 o4zz o5zz o8zz o6 o11 q1zz im0 im1 := by rw [g1]; exact ht.sI0
  obtain ⟨w2zz, l2, h2⟩ := z_bd h2
  have i9zz := in9 (m := 0) (n := 1) (by decide) (by decide) l2
  have no : ¬ (0 ≤ pzz.toInt ∧ pzz.toInt ≤ 1) → bk_X8_back_N_9 o0zz = some yzz → yzz.1 = y'.1 ∧ TF pl yzz.2 o1 o4zz o5zz o8zz o6 o11 y'.2 im0 im1 := by
    intro hp h1
    unfold bk_X8_back_N_9 at h1
    obtain ⟨zzz, kzz, h1⟩ := z_bd h1
    rcases i9zz with ⟨uzz, -⟩ | ⟨-, uzz⟩
    · obtain ⟨wzz, l, h2⟩ := z_bd (z_t h2 uzz)
      rw [← Option.some.inj h1, ← Option.some.inj h2]
      exact ht1.no (Or.inl rfl) kzz l
    · exact absurd uzz hp
  unfold f_X8_back_N at h1
  by_cases c1zz : pzz < (0 : Int32)
  · exact no (by have czz := cv_lt (a := pzz.toInt) (b := 0) rfl (by decide) c1zz; omega) (z_t h1 c1zz)
  have h1 := z_f h1 c1zz
  by_cases c2zz : pzz < (2 : Int32)
  · have d1zz := cv_nlt (a := pzz.toInt) (b := 0) rfl (by decide) c1zz
    have d2zz := cv_lt (a := pzz.toInt) (b := 2) rfl (by decide) c2zz
    obtain ⟨zzz, kzz, h1⟩ := z_bd (z_gd (z_t h1 c2zz)).2
    rcases i9zz with ⟨-, uzz⟩ | ⟨uzz, -⟩
    · exact absurd ⟨d1zz, by omega⟩ uzz
    · have h2 := (z_gd (z_f h2 uzz)).2
      obtain ⟨k', ek⟩ : ∃ k' : Nat, pzz.toInt = (k' : Int) := ⟨pzz.toInt.toNat, by omega⟩
      have ik : pzz.toNatClampNeg = k' := tnc_eq ek
      rw [ik] at h2 qzz
      have z5 : gA q1zz 5 k' = 0 := by
        obtain ⟨s, hs, ta, tbzz⟩ := ht1.2.2.2.2.2.2.2.2
        rcases (show k' = s ∨ k' = 1 - s by omega) with ezz | ezz
        · rw [ezz] at qzz ⊢
          rcases opt_c im0 with e0zz | ⟨rzz, e0zz⟩
          · exact (ta.1 e0zz).2
          · rw [(ta.2 rzz e0zz).1] at qzz; cases qzz
        · rw [ezz] at qzz ⊢
          rcases opt_c im1 with e0zz | ⟨rzz, e0zz⟩
          · exact (tbzz.1 e0zz).2
          · rw [(tbzz.2 rzz e0zz).1] at qzz; cases qzz
      obtain ⟨wzz, l, h2⟩ := z_bd (z_t h2 z5)
      rw [← Option.some.inj h1, ← Option.some.inj h2]
      exact ht1.no (Or.inr (Or.inl rfl)) kzz l
  · exact no (by have czz := cv_nlt (a := pzz.toInt) (b := 2) rfl (by decide) c2zz; omega) (z_f h1 c2zz)
set_option maxHeartbeats 200000 in
theorem tf_backO {pl : List CR} {o0zz o1 o4zz o5zz o8zz o6 o11 o9 : Ob} {im0 im1 : Option IR} {rzz : IR} {pzz : Int32} {yzz : Int32 × Ob × Ob × Ob × Ob} {y' : Int32 × Ob} (ht : TF pl o0zz o1 o4zz o5zz o8zz o6 o11 o9 im0 im1) (h1 : f_X8_back_O o0zz o4zz o5zz o11 pl rzz.2.2.2.2.2.2.1 rzz.2.2.2.2.2.2.2 pzz = some yzz) (h2 : f_X9_back o9 pzz = some y') (h5 : ¬ gA o9 5 pzz.toNatClampNeg = 0) (hr : Tia pl rzz.2.2.2.2.2.2.1 rzz.2.2.2.2.2.2.2 (fun jzz => gA o9 4 (5484 * pzz.toNatClampNeg + jzz))) : yzz.1 = y'.1 ∧ TF pl yzz.2.1 o1 yzz.2.2.1 yzz.2.2.2.1 o8zz o6 yzz.2.2.2.2 y'.2 im0 im1 := by
  have fzz := fr_f_X9_back h2
  have h2c := h2
  unfold f_X9_back at h2
  obtain ⟨q1zz, g1, h2⟩ := z_lt h2
  have ht1 : TF pl o0zz o1 o4zz o5zz o8zz o6 o11 q1zz im0 im1 := by rw [g1]; exact ht.sI0
  obtain ⟨w2zz, l2, h2⟩ := z_bd h2
  have i9zz := in9 (m := 0) (n := 1) (by decide) (by decide) l2
  have no : ¬ (0 ≤ pzz.toInt ∧ pzz.toInt ≤ 1) → bk_X8_back_O_9 pl rzz.2.2.2.2.2.2.1 rzz.2.2.2.2.2.2.2 o0zz o4zz o5zz o11 = some yzz → yzz.1 = y'.1 ∧ TF pl yzz.2.1 o1 yzz.2.2.1 yzz.2.2.2.1 o8zz o6 yzz.2.2.2.2 y'.2 im0 im1 := by
    intro hp h1
    unfold bk_X8_back_O_9 at h1
    obtain ⟨zzz, kzz, h1⟩ := z_bd h1
    rcases i9zz with ⟨uzz, -⟩ | ⟨-, uzz⟩
    · obtain ⟨wzz, l, h2⟩ := z_bd (z_t h2 uzz)
      rw [← Option.some.inj h1, ← Option.some.inj h2]
      exact ht1.no (Or.inl rfl) kzz l
    · exact absurd uzz hp
  unfold f_X8_back_O at h1
  by_cases c1zz : pzz < (0 : Int32)
  · exact no (by have czz := cv_lt (a := pzz.toInt) (b := 0) rfl (by decide) c1zz; omega) (z_t h1 c1zz)
  have h1 := z_f h1 c1zz
  by_cases c2zz : pzz < (2 : Int32)
  · have d1zz := cv_nlt (a := pzz.toInt) (b := 0) rfl (by decide) c1zz
    have d2zz := cv_lt (a := pzz.toInt) (b := 2) rfl (by decide) c2zz
    obtain ⟨z4, k4zz, h1⟩ := z_bd (z_gd (z_gd (z_t h1 c2zz)).2).2
    obtain ⟨z5, k5zz, h1⟩ := z_bd h1
    obtain ⟨z6, k6zz, h1⟩ := z_bd h1
    have h1 := Option.some.inj h1
    rcases i9zz with ⟨-, uzz⟩ | ⟨uzz, -⟩
    · exact absurd ⟨d1zz, by omega⟩ uzz
    · obtain ⟨k', ek⟩ : ∃ k' : Nat, pzz.toInt = (k' : Int) := ⟨pzz.toInt.toNat, by omega⟩
      have ik : pzz.toNatClampNeg = k' := tnc_eq ek
      rw [ik] at h5 hr
      obtain ⟨q3zz, q4zz, q5zz⟩ := back9 (k := k') h2c ek (by omega) h5
      have h2 := (z_gd (z_f h2 uzz)).2
      have h2 := z_f h2 (by rw [ik, g1]; exact h5)
      obtain ⟨qzz, fq, e8, kzz⟩ := bck_t zfu 0 q1zz h2
      have ec := clear_d k5zz
      have ft := fr_f_X9_tell kzz
      have sq : StT o0zz qzz := ht1.2.2.2.1.eq rfl rfl (fq.I 1 rfl) (fq.A 2 rfl)
      obtain ⟨s1zz, s2zz, s3zz⟩ := st_grant sq (by decide) k6zz kzz
      have fg := fr_f_X8_grant k6zz
      have hTzz := Tia.cp k4zz hr (G' := gA y'.2 3) (fun jzz hj => q3zz jzz hj)
      obtain ⟨⟨h1', h2'⟩, h3, ⟨h4, h4'⟩, h5', h6, h7, h8, h9, h10⟩ := ht
      rw [← h1]
      exact ⟨s1zz.trans s2zz.symm, ⟨by rw [fzz.I 13 rfl]; exact h1', by rw [fzz.A 12 rfl]; exact h2'⟩, by rw [fg.I 13 rfl, fzz.I 11 rfl]; exact h3, ⟨h4.eq (fzz.M 31 rfl) (fzz.M 32 rfl), h4'.eq2 (fzz.M 33 rfl) (fzz.M 54 rfl)⟩, s3zz, by rw [fg.I 14 rfl, fzz.I 58 rfl]; exact h6, h7.eq (fzz.I 62 rfl) (fzz.A 61 rfl), hTzz, PaT.emp ec.1 ec.2 ((ft.I 8 rfl).trans e8), h10.eq (fg.R 7 rfl) q5zz q4zz⟩
  · exact no (by have czz := cv_nlt (a := pzz.toInt) (b := 2) rfl (by decide) c2zz; omega) (z_f h1 c2zz)
set_option maxHeartbeats 200000 in
theorem image_b2 {o4zz o5zz : Ob} {pl : List CR} {o9 oi onzz : Ob} {yzz : Int32 × Ob × Ob × Ob} (hzz : f_X8_image_b o4zz o5zz pl o9 oi onzz = some yzz) : f_X8_grant o9 0 = some (yzz.1, yzz.2.1) ∧ f_X2_set_O oi onzz pl o4zz o5zz = some (yzz.2.2.1, yzz.2.2.2) := by
  unfold f_X8_image_b at hzz
  obtain ⟨z2, e2zz, hzz⟩ := z_bd hzz
  obtain ⟨z3, e3zz, hzz⟩ := z_bd hzz
  rw [← Option.some.inj hzz]
  exact ⟨e3zz, e2zz⟩
set_option maxHeartbeats 200000 in
theorem m8_at {o : Ob} {jzz xzz : Nat} {vzz : Int64} : gM (tM o 8 jzz vzz) 8 xzz = if xzz = jzz then vzz else gM o 8 xzz := rfl
set_option maxHeartbeats 200000 in
theorem m53_at {o : Ob} {jzz xzz : Nat} {vzz : Int64} : gM (tM o 53 jzz vzz) 53 xzz = if xzz = jzz then vzz else gM o 53 xzz := rfl
set_option maxHeartbeats 200000 in
theorem few_fill {yzz : Ob} {vzz : Int64} : ∀ (Nzz : Nat) (v3 : Int32) (o : Ob) (izz : Nat), v3.toInt = (izz : Int) → izz ≤ 20 → lp_J7_fill_d0a16_AX7_8_6 Nzz (vzz, v3, 20, o) = some yzz → ∀ xzz, xzz < 20 → gM yzz 8 xzz = if izz ≤ xzz then vzz else gM o 8 xzz := by
  intro Nzz
  induction Nzz with
  | zero => intro v3 o izz _ _ hzz; cases hzz
  | succ Nzz ihzz =>
    intro v3 o izz ezz hizz hzz xzz hx
    have hzz : lb_J7_fill_d0a16_AX7_8_6 (lp_J7_fill_d0a16_AX7_8_6 Nzz) vzz v3 20 o = some yzz := hzz
    unfold lb_J7_fill_d0a16_AX7_8_6 at hzz
    by_cases czz : (20 : Int32) ≤ v3
    · have d := cv_le (a := 20) (b := (izz : Int)) (by decide) ezz czz
      rw [← Option.some.inj (z_t hzz czz), if_neg (by omega)]
    · have d := cv_nle (a := 20) (b := (izz : Int)) (by decide) ezz czz
      have hzz := (z_gd (z_f hzz czz)).2
      obtain ⟨qzz, gzz, hzz⟩ := z_lt hzz
      obtain ⟨wzz, gw, hzz⟩ := z_lt hzz
      have ii : v3.toNatClampNeg = izz := tnc_eq ezz
      rw [ii] at gzz
      rw [ihzz wzz qzz (izz + 1) (by rw [gw]; exact Eq.trans (i32_add ezz (by decide : (1 : Int32).toInt = 1) (by omega) (by omega)) (by omega)) (by omega) hzz xzz hx, gzz, m8_at]
      by_cases cx : izz + 1 ≤ xzz
      · rw [if_pos cx, if_pos (by omega)]
      · rw [if_neg cx]
        by_cases c2zz : xzz = izz
        · rw [if_pos c2zz, if_pos (by omega)]
        · rw [if_neg c2zz, if_neg (by omega)]
set_option maxHeartbeats 200000 in
theorem few_ini {yzz : Int64 × Ob} {p0zz p1zz : Int32} : ∀ (Nzz : Nat) (v3 : Int32) (o : Ob) (izz : Nat), v3.toInt = (izz : Int) → izz ≤ 21 → lp_X9_few_35 Nzz (p0zz, p1zz, v3, o) = some yzz → ∃ o' : Ob, lp_X9_few_74 zfu (p0zz, p1zz, gA o' 3 5, 0, o') = some yzz ∧ gA o' 3 = gA o 3 ∧ ∀ xzz, xzz < 21 → gM o' 53 xzz = if izz ≤ xzz then (if xzz = 0 then 1000000000000 else 0) else gM o 53 xzz := by
  have n5zz : (5 : Int32).toNatClampNeg = 5 := by decide
  intro Nzz
  induction Nzz with
  | zero => intro v3 o izz _ _ hzz; cases hzz
  | succ Nzz ihzz =>
    intro v3 o izz ezz hizz hzz
    have hzz : lb_X9_few_35 (lp_X9_few_35 Nzz) p0zz p1zz v3 o = some yzz := hzz
    unfold lb_X9_few_35 at hzz
    rw [n5zz] at hzz
    have ii : v3.toNatClampNeg = izz := tnc_eq ezz
    by_cases czz : (21 : Int32) ≤ v3
    · have d := cv_le (a := 21) (b := (izz : Int)) (by decide) ezz czz
      obtain ⟨x4zz, g4, hzz⟩ := z_lt (z_t hzz czz)
      rw [g4] at hzz
      exact ⟨o, hzz, rfl, fun xzz hx => by rw [if_neg (by omega)]⟩
    · have d := cv_nle (a := 21) (b := (izz : Int)) (by decide) ezz czz
      have hzz := z_f hzz czz
      have gozz : ∀ s0zz : Int64, s0zz = (if izz = 0 then 1000000000000 else 0) → bk_X9_few_57 (lp_X9_few_35 Nzz) p0zz p1zz v3 s0zz v3 o = some yzz → ∃ o' : Ob, lp_X9_few_74 zfu (p0zz, p1zz, gA o' 3 5, 0, o') = some yzz ∧ gA o' 3 = gA o 3 ∧ ∀ xzz, xzz < 21 → gM o' 53 xzz = if izz ≤ xzz then (if xzz = 0 then 1000000000000 else 0) else gM o 53 xzz := by
        intro s0zz hs hzz
        unfold bk_X9_few_57 at hzz
        have hzz := (z_gd hzz).2
        obtain ⟨qzz, gzz, hzz⟩ := z_lt hzz
        obtain ⟨wzz, gw, hzz⟩ := z_lt hzz
        rw [ii] at gzz
        obtain ⟨o', k1zz, k2zz, k3zz⟩ := ihzz wzz qzz (izz + 1) (by rw [gw]; exact Eq.trans (i32_add ezz (by decide : (1 : Int32).toInt = 1) (by omega) (by omega)) (by omega)) (by omega) hzz
        refine ⟨o', k1zz, k2zz.trans (by rw [gzz]; rfl), fun xzz hx => ?_⟩
        rw [k3zz xzz hx, gzz, m53_at]
        by_cases cx : izz + 1 ≤ xzz
        · rw [if_pos cx, if_pos (show izz ≤ xzz by omega)]
        · rw [if_neg cx]
          by_cases c2zz : xzz = izz
          · rw [if_pos c2zz, if_pos (show izz ≤ xzz by omega), hs, c2zz]
          · rw [if_neg c2zz, if_neg (show ¬ izz ≤ xzz by omega)]
      by_cases c0zz : v3 = 0
      · have i0zz : izz = 0 := by
          have qzz := cv_eq (a := (izz : Int)) (b := 0) ezz (by decide) c0zz
          omega
        exact gozz _ (by rw [if_pos i0zz]) (z_t hzz c0zz)
      · have i0zz : ¬ izz = 0 := by
          have qzz := cv_ne (a := (izz : Int)) (b := 0) ezz (by decide) c0zz
          omega
        exact gozz _ (by rw [if_neg i0zz]) (z_f hzz c0zz)
def FwR (T : Int32) (kzz czz : Nat) (o o' : Ob) : Prop := ∀ xzz, xzz < kzz → (czz < xzz → gM o 8 xzz = gM o' 53 xzz) ∧ (xzz = czz → 0 < czz → gM o 8 xzz = gM o' 53 xzz + (gM o' 53 (czz - 1) * T.toInt64) / 10) ∧ (xzz = czz → czz = 0 → gM o 8 xzz = gM o' 53 xzz) ∧ (xzz < czz → gM o 8 xzz = gM o' 53 xzz)
set_option maxHeartbeats 200000 in
theorem few_in {isl : Ob} {rec27 : Int32 × Int32 × Int32 × Ob → Option (Int64 × Ob)} {rec74 : Int32 × Int32 × Int32 × Int32 × Ob → Option (Int64 × Ob)} {p0zz p1zz v4zz : Int32} {kzz : Nat} {yzz y' : Int64 × Ob} {Qzz : Prop} (hk : kzz ≤ 20) (hrec : ∀ (xzz : Int32) (o o' : Ob), xzz = v4zz + 1 → (∀ xzz, xzz < kzz → gM o 8 xzz = gM o' 53 xzz) → rec27 (p1zz, p0zz, xzz, o) = some yzz → rec74 (p0zz, p1zz, gI isl 11, xzz, o') = some y' → Qzz) : ∀ (Nzz N' : Nat) (v5 : Int32) (o o' : Ob) (czz : Nat), v5.toInt = (czz : Int) - 1 → czz ≤ kzz → FwR (gI isl 11) kzz czz o o' → lp_X7_chanceOfFewer_38 isl rec27 Nzz (p1zz, p0zz, v4zz, v5, o) = some yzz → lp_X9_few_85 rec74 N' (p0zz, p1zz, gI isl 11, v4zz, v5, o') = some y' → Qzz := by
  intro Nzz
  induction Nzz with
  | zero => intro N' v5 o o' czz _ _ _ hzz; cases hzz
  | succ Nzz ihzz =>
    intro N' v5 o o' czz ec hczz hF h1 h2
    cases N' with
    | zero => cases h2
    | succ N' =>
    have h1 : lb_X7_chanceOfFewer_38 isl rec27 (lp_X7_chanceOfFewer_38 isl rec27 Nzz) p1zz p0zz v4zz v5 o = some yzz := h1
    have h2 : lb_X9_few_85 rec74 (lp_X9_few_85 rec74 N') p0zz p1zz (gI isl 11) v4zz v5 o' = some y' := h2
    unfold lb_X7_chanceOfFewer_38 at h1
    unfold lb_X9_few_85 at h2
    by_cases cn : v5 < (0 : Int32)
    · have d := cv_lt (a := (czz : Int) - 1) (b := 0) ec (by decide) cn
      obtain ⟨x8, g8, h1⟩ := z_lt (z_t h1 cn)
      obtain ⟨x9, g9, h2⟩ := z_lt (z_t h2 cn)
      have exzz : x9 = x8 := g9.trans g8.symm
      rw [exzz] at h2
      refine hrec x8 o o' g8 (fun xzz hx => ?_) h1 h2
      obtain ⟨r1zz, -, r3, -⟩ := hF xzz hx
      rcases (show xzz = czz ∨ czz < xzz by omega) with qzz | qzz
      · exact r3 qzz (by omega)
      · exact r1zz qzz
    · have d := cv_nlt (a := (czz : Int) - 1) (b := 0) ec (by decide) cn
      have h1 := z_f h1 cn
      have i5zz : v5.toNatClampNeg = czz - 1 := tnc_eq (by omega)
      have step : ∀ s0zz : Int64, ((czz = 1 ∧ s0zz = 0) ∨ (1 < czz ∧ s0zz = (gM o 8 (czz - 2) * (gI isl 11).toInt64) / 10)) → bk_X7_chanceOfFewer_74 isl rec27 (lp_X7_chanceOfFewer_38 isl rec27 Nzz) p1zz p0zz v4zz v5 s0zz o = some yzz → Qzz := by
        intro s0zz hs h1
        unfold bk_X7_chanceOfFewer_74 at h1
        rw [i5zz] at h1 h2
        have h1 := (z_gd (z_gd h1).2).2
        obtain ⟨o11, g11, h1⟩ := z_lt h1
        obtain ⟨x12, g12, h1⟩ := z_lt h1
        have h2 := (z_gd (z_f h2 cn)).2
        obtain ⟨x11, e11zz, h2⟩ := z_lt h2
        have h2 := (z_gd h2).2
        obtain ⟨o13, g13, h2⟩ := z_lt h2
        obtain ⟨x14, e14zz, h2⟩ := z_lt h2
        have h2 := (z_gd (z_gd h2).2).2
        obtain ⟨o17, g17, h2⟩ := z_lt h2
        obtain ⟨x18, e18zz, h2⟩ := z_lt h2
        have i14 : x14.toNatClampNeg = czz := tnc_eq (by rw [e14zz, i32_add ec (by decide : (1 : Int32).toInt = 1) (by omega) (by omega)]; omega)
        rw [i14] at g17
        have exzz : x18 = x12 := e18zz.trans g12.symm
        rw [exzz] at h2
        have t12 : x12.toInt = ((czz - 1 : Nat) : Int) - 1 := by rw [g12, i32_add ec (by decide : (-1 : Int32).toInt = -1) (by omega) (by omega)]; omega
        have A8 : ∀ xzz, gM o11 8 xzz = if xzz = czz - 1 then ((gM o 8 (czz - 1) * ((10 : Int32) - gI isl 11).toInt64) / 10) + s0zz else gM o 8 xzz := fun xzz => by rw [g11, m8_at]
        have A13 : ∀ xzz, gM o13 53 xzz = if xzz = czz - 1 then (x11 * ((10 : Int32) - gI isl 11).toInt64) / 10 else gM o' 53 xzz := fun xzz => by rw [g13, m53_at]
        have A17 : ∀ xzz, gM o17 53 xzz = if xzz = czz then gM o13 53 czz + (x11 * (gI isl 11).toInt64) / 10 else gM o13 53 xzz := fun xzz => by rw [g17, m53_at]
        refine ihzz N' x12 o11 o17 (czz - 1) t12 (by omega) (fun xzz hx => ?_) h1 h2
        obtain ⟨r1zz, r2, r3, r4⟩ := hF xzz hx
        have w1zz := (hF (czz - 1) (by omega)).2.2.2 (by omega)
        refine ⟨fun qzz => ?_, fun qzz q0 => ?_, fun qzz q0 => ?_, fun qzz => ?_⟩
        · rw [A8, if_neg (by omega), A17]
          by_cases qc : xzz = czz
          · rw [if_pos qc, A13, if_neg (by omega), r2 qc (by omega), e11zz, qc]
          · rw [if_neg qc, A13, if_neg (by omega)]
            exact r1zz (by omega)
        · have w2zz := (hF (czz - 2) (by omega)).2.2.2 (by omega)
          rw [A8, if_pos qzz, A17, if_neg (by omega), A13, if_pos qzz, A17, if_neg (by omega), A13, if_neg (by omega), e11zz, w1zz]
          rcases hs with ⟨hs, -⟩ | ⟨-, hs⟩
          · omega
          · rw [hs, w2zz]; rfl
        · rw [A8, if_pos qzz, A17, if_neg (by omega), A13, if_pos qzz, e11zz, w1zz]
          rcases hs with ⟨-, hs⟩ | ⟨hs, -⟩
          · rw [hs, Int64.add_zero]
          · omega
        · rw [A8, if_neg (by omega), A17, if_neg (by omega), A13, if_neg (by omega)]
          exact r4 (by omega)
      by_cases c0zz : v5 ≤ (0 : Int32)
      · have d0zz := cv_le (a := (czz : Int) - 1) (b := 0) ec (by decide) c0zz
        exact step 0 (Or.inl ⟨by omega, rfl⟩) (z_t h1 c0zz)
      · have d0zz := cv_nle (a := (czz : Int) - 1) (b := 0) ec (by decide) c0zz
        have i6zz : (v5 - (1 : Int32)).toNatClampNeg = czz - 2 := tnc_eq (by rw [i32_sub ec (by decide : (1 : Int32).toInt = 1) (by omega) (by omega)]; omega)
        have h1 := (z_gd (z_f h1 c0zz)).2
        rw [i6zz] at h1
        exact step _ (Or.inr ⟨by omega, rfl⟩) h1
set_option maxHeartbeats 200000 in
theorem few_sum {isl : Ob} {p0zz : Int32} {kzz : Nat} {o o' : Ob} {yzz y' : Int64 × Ob} (ek : p0zz.toInt = (kzz : Int)) (hk : kzz ≤ 20) (hE : ∀ xzz, xzz < kzz → gM o 8 xzz = gM o' 53 xzz) : ∀ (Nzz N' : Nat) (v4zz : Int64) (v6 : Int32) (izz : Nat), v6.toInt = (izz : Int) → izz ≤ kzz → lp_X7_chanceOfFewer_127 isl Nzz (p0zz, v4zz, v6, o) = some yzz → lp_X9_few_157 N' (p0zz, v4zz, v6, o') = some y' → yzz.1 = y'.1 := by
  intro Nzz
  induction Nzz with
  | zero => intro N' v4zz v6 izz _ _ hzz; cases hzz
  | succ Nzz ihzz =>
    intro N' v4zz v6 izz ezz hizz h1 h2
    cases N' with
    | zero => cases h2
    | succ N' =>
    have h1 : lb_X7_chanceOfFewer_127 isl (lp_X7_chanceOfFewer_127 isl Nzz) p0zz v4zz v6 o = some yzz := h1
    have h2 : lb_X9_few_157 (lp_X9_few_157 N') p0zz v4zz v6 o' = some y' := h2
    unfold lb_X7_chanceOfFewer_127 at h1
    unfold lb_X9_few_157 at h2
    by_cases czz : p0zz ≤ v6
    · rw [← Option.some.inj (z_t h1 czz), ← Option.some.inj (z_t h2 czz)]
    · have d := cv_nle (a := (kzz : Int)) (b := (izz : Int)) ek ezz czz
      have ii : v6.toNatClampNeg = izz := tnc_eq ezz
      have h1 := (z_gd (z_f h1 czz)).2
      have h2 := (z_gd (z_f h2 czz)).2
      rw [ii] at h1 h2
      obtain ⟨x5zz, g5zz, h1⟩ := z_lt h1
      obtain ⟨x6, g6, h1⟩ := z_lt h1
      obtain ⟨w5, l5, h2⟩ := z_lt h2
      obtain ⟨w6zz, l6, h2⟩ := z_lt h2
      have e5zz : w5 = x5zz := by rw [l5, g5zz, hE izz (by omega)]
      have e6zz : w6zz = x6 := l6.trans g6.symm
      rw [e5zz, e6zz] at h2
      exact ihzz N' x5zz x6 (izz + 1) (by rw [g6]; exact Eq.trans (i32_add ezz (by decide : (1 : Int32).toInt = 1) (by omega) (by omega)) (by omega)) (by omega) h1 h2
set_option maxHeartbeats 200000 in
theorem few_out {isl : Ob} {p0zz p1zz : Int32} {kzz : Nat} {yzz y' : Int64 × Ob} (ek : p0zz.toInt = (kzz : Int)) (hk1 : 1 ≤ kzz) (hk : kzz ≤ 20) : ∀ (Nzz N' : Nat) (v4zz : Int32) (o o' : Ob), (∀ xzz, xzz < kzz → gM o 8 xzz = gM o' 53 xzz) → lp_X7_chanceOfFewer_27 isl Nzz (p1zz, p0zz, v4zz, o) = some yzz → lp_X9_few_74 N' (p0zz, p1zz, gI isl 11, v4zz, o') = some y' → yzz.1 = y'.1 := by
  intro Nzz
  induction Nzz with
  | zero => intro N' v4zz o o' _ hzz; cases hzz
  | succ Nzz ihzz =>
    intro N' v4zz o o' hE h1 h2
    cases N' with
    | zero => cases h2
    | succ N' =>
    have h1 : lb_X7_chanceOfFewer_27 isl (lp_X7_chanceOfFewer_27 isl Nzz) p1zz p0zz v4zz o = some yzz := h1
    have h2 : lb_X9_few_74 (lp_X9_few_74 N') p0zz p1zz (gI isl 11) v4zz o' = some y' := h2
    unfold lb_X7_chanceOfFewer_27 at h1
    unfold lb_X9_few_74 at h2
    by_cases czz : p1zz ≤ v4zz
    · exact few_sum ek hk hE zfu zfu 0 0 0 (by decide) (Nat.zero_le _) (z_t h1 czz) (z_t h2 czz)
    · obtain ⟨x7, g7, h1⟩ := z_lt (z_f h1 czz)
      obtain ⟨x8, g8, h2⟩ := z_lt (z_f h2 czz)
      have exzz : x8 = x7 := g8.trans g7.symm
      rw [exzz] at h2
      refine few_in hk (fun xzz qzz q' _ hE' h1 h2 => ihzz N' xzz qzz q' hE' h1 h2) zfu zfu x7 o o' kzz (by rw [g7]; exact i32_sub ek (by decide) (by omega) (by omega)) (Nat.le_refl _) (fun xzz hx => ⟨fun qzz => by omega, fun qzz => by omega, fun qzz => by omega, fun _ => hE xzz hx⟩) h1 h2
set_option maxHeartbeats 200000 in
theorem tf_few {pl : List CR} {o0zz o1 o4zz o5zz o8zz o6 o11 o9 st : Ob} {im0 im1 : Option IR} {p0zz p1zz : Int32} {yzz y' : Int64 × Ob} (ht : TF pl o0zz o1 o4zz o5zz o8zz o6 o11 o9 im0 im1) (h1 : f_X8_few o0zz o4zz st p0zz p1zz = some yzz) (h2 : f_X9_few o9 p0zz p1zz = some y') : yzz.1 = y'.1 := by
  have n0zz : (0 : Int32).toNatClampNeg = 0 := by decide
  unfold f_X8_few at h1
  unfold f_X9_few at h2
  obtain ⟨q1zz, g1, h2⟩ := z_lt h2
  obtain ⟨w2zz, l2, h2⟩ := z_bd h2
  have i2zz := in9 (m := 1) (n := 20) (by decide) (by decide) l2
  have no : ∀ zzz : Ob, some ((-1 : Int64), zzz) = some yzz → (¬ (1 ≤ p0zz.toInt ∧ p0zz.toInt ≤ 20) ∨ ¬ (0 ≤ p1zz.toInt ∧ p1zz.toInt ≤ 99)) → yzz.1 = y'.1 := by
    intro zzz h1 hn
    rw [← Option.some.inj h1]
    rcases i2zz with ⟨uzz, -⟩ | ⟨uzz, vzz⟩
    · rw [← Option.some.inj (z_t h2 uzz)]
    · obtain ⟨w3zz, l3, h2⟩ := z_bd (z_f h2 uzz)
      rcases in9 (m := 0) (n := 99) (by decide) (by decide) l3 with ⟨u3, -⟩ | ⟨-, v3⟩
      · rw [← Option.some.inj (z_t h2 u3)]
      · rcases hn with hn | hn
        · exact absurd vzz hn
        · exact absurd v3 hn
  by_cases c1zz : p0zz < (1 : Int32)
  · have d := cv_lt (a := p0zz.toInt) (b := 1) rfl (by decide) c1zz
    exact no _ (z_t h1 c1zz) (Or.inl (by omega))
  have h1 := z_f h1 c1zz
  have d1zz := cv_nlt (a := p0zz.toInt) (b := 1) rfl (by decide) c1zz
  by_cases c2zz : (20 : Int32) < p0zz
  · have d := cv_lt (a := 20) (b := p0zz.toInt) (by decide) rfl c2zz
    exact no _ (z_t h1 c2zz) (Or.inl (by omega))
  have h1 := z_f h1 c2zz
  have d2zz := cv_nlt (a := 20) (b := p0zz.toInt) (by decide) rfl c2zz
  by_cases c3zz : p1zz < (0 : Int32)
  · have d := cv_lt (a := p1zz.toInt) (b := 0) rfl (by decide) c3zz
    exact no _ (z_t h1 c3zz) (Or.inr (by omega))
  have h1 := z_f h1 c3zz
  have d3zz := cv_nlt (a := p1zz.toInt) (b := 0) rfl (by decide) c3zz
  by_cases c4zz : p1zz ≤ (99 : Int32)
  · have d4zz := cv_le (a := p1zz.toInt) (b := 99) rfl (by decide) c4zz
    obtain ⟨z1, k1zz, h1⟩ := z_bd (z_t h1 c4zz)
    have h1 := Option.some.inj h1
    rcases i2zz with ⟨-, uzz⟩ | ⟨uzz, -⟩
    · exact absurd ⟨d1zz, d2zz⟩ uzz
    · obtain ⟨w3zz, l3, h2⟩ := z_bd (z_f h2 uzz)
      rcases in9 (m := 0) (n := 99) (by decide) (by decide) l3 with ⟨-, u3⟩ | ⟨u3, -⟩
      · exact absurd ⟨d3zz, d4zz⟩ u3
      · have h2 := z_f h2 u3
        obtain ⟨o', h2, e3zz, E'zz⟩ := few_ini zfu 0 q1zz 0 (by decide) (by decide) h2
        unfold f_X7_chanceOfFewer at k1zz
        rw [n0zz] at k1zz
        obtain ⟨z5, k5zz, k1zz⟩ := z_bd k1zz
        obtain ⟨o2, g2, k1zz⟩ := z_lt k1zz
        obtain ⟨x3, g3zz, k1zz⟩ := z_lt k1zz
        rw [if_neg c2zz] at g3zz
        rw [g3zz] at k1zz
        unfold f_J7_fill_d0a16_AX7_8 at k5zz
        have Ezz := few_fill zfu 0 st 0 (by decide) (by decide) k5zz
        have eT : gA o' 3 5 = gI o4zz 11 := by rw [e3zz, g1]; exact ht.2.2.2.2.2.2.1.2.1.2.2.2.1.1.symm
        rw [eT] at h2
        obtain ⟨kzz, ek⟩ : ∃ kzz : Nat, p0zz.toInt = (kzz : Int) := ⟨p0zz.toInt.toNat, by omega⟩
        rw [← h1]
        refine few_out ek (by omega) (by omega) zfu zfu 0 o2 o' (fun xzz hx => ?_) k1zz h2
        rw [E'zz xzz (by omega), if_pos (Nat.zero_le _), g2, m8_at, Ezz xzz (by omega), if_pos (Nat.zero_le _)]
  · have d := cv_nle (a := p1zz.toInt) (b := 99) rfl (by decide) c4zz
    exact no _ (z_f h1 c4zz) (Or.inr (by omega))
def AsB (pl : List CR) (isl mv o : Ob) (n : Nat) : Prop := (∀ zzz, f_X2_lawInForce isl = some zzz → LwP pl zzz (gA o 3) (gA o 3 3)) ∧ WtL isl mv (gA o 3) ∧ gI o 20 = 0 ∧ (gA o 3 0).toInt = (n : Int)
set_option maxHeartbeats 200000 in
theorem AsB.eq {pl : List CR} {isl mv o o' : Ob} {n : Nat} (hzz : AsB pl isl mv o n) (e3zz : gA o' 3 = gA o 3) (e20 : gI o' 20 = gI o 20) : AsB pl isl mv o' n := by
  unfold AsB
  rw [e3zz, e20]; exact hzz
set_option maxHeartbeats 200000 in
theorem AsB.ask {pl : List CR} {isl mv o : Ob} {n Pzz R : Nat} {zzz : Option Nat} {pzz rzz : Int32} (hzz : AsB pl isl mv o n) (kzz : f_X2_lawInForce isl = some zzz) (eP : pzz.toInt = (Pzz : Int)) (hP : Pzz < n) (eR : rzz.toInt = (R : Int)) (hR : R < 4) : Asked pl zzz isl mv o pzz rzz :=
  ⟨hzz.1 zzz kzz, hzz.2.1, hzz.2.2.1, ⟨Pzz, eP, by rw [hzz.2.1.1.1, hzz.2.2.2]; omega⟩, R, eR, hR⟩
set_option maxHeartbeats 200000 in
theorem AsB.ppl {pl : List CR} {isl mv o : Ob} {n : Nat} (hzz : AsB pl isl mv o n) : gI isl 7 = gA o 3 0 ∧ n ≤ 7 := by
  have qzz := hzz.2.1.1
  have rzz := hzz.2.2.2
  exact ⟨qzz.1, by omega⟩
set_option maxHeartbeats 200000 in
theorem TzS.asb {pl : List CR} {isl mv pa o : Ob} {n : Nat} (hzz : TzS pl isl mv pa o n) : AsB pl isl mv o n := ⟨hzz.2.2.2.1, WtL.of hzz.1 hzz.2.1, hzz.2.2.2.2.1, hzz.2.2.2.2.2.1⟩
def SeT (isl : Ob) (Gzz : Nat → Int32) (s : Nat) : Prop := gI isl 8 = Gzz 1 ∧ (Gzz 1).toInt = (s : Int) ∧ s ≤ 6 ∧ ∀ jzz, jzz < 6 → (gA isl 4 jzz = Gzz (71 + 2 * jzz) ∧ gA isl 5 jzz = Gzz (72 + 2 * jzz)) ∧ 0 ≤ (gA isl 4 jzz).toInt ∧ (gA isl 4 jzz).toInt ≤ 3
set_option maxHeartbeats 200000 in
theorem cb_zero {rec4 : Int32 × Int32 × Ob → Option (Int32 × Ob)} {v1zz v2 v4zz : Int32} {o : Ob} {y' : Int32 × Ob} : ∀ N', lp_X9_thatCanBe_19 rec4 N' (v1zz, v2, 0, v4zz, o) = some y' → bk_X9_thatCanBe_92 rec4 v2 0 v1zz o = some y' := by
  intro N' hzz
  cases N' with
  | zero => cases hzz
  | succ N' =>
  have hzz : lb_X9_thatCanBe_19 rec4 (lp_X9_thatCanBe_19 rec4 N') v1zz v2 0 v4zz o = some y' := hzz
  unfold lb_X9_thatCanBe_19 at hzz
  have ezz : bk_X9_thatCanBe_80 rec4 v1zz v2 0 o = some y' := by
    rcases z_if hzz with ⟨-, hzz⟩ | ⟨-, hzz⟩
    · exact hzz
    · exact z_t hzz rfl
  unfold bk_X9_thatCanBe_80 at ezz
  exact z_t ezz rfl
set_option maxHeartbeats 200000 in
theorem cb_in {pl : List CR} {st czz isl mv : Ob} {rec4 : Int32 × Int32 × Ob → Option (Int32 × Ob)} {v1zz pzz : Int32} {n s Pzz : Nat} {y' : Int32 × Ob} {zzz : Int32 × Ob} (eP : pzz.toInt = (Pzz : Int)) (hP : Pzz < n) :
    ∀ (Nzz N' : Nat) (v2 : Int32) (mezz o : Ob) (izz : Nat), v2.toInt = (izz : Int) → izz ≤ s → AsB pl isl mv o n → SeT isl (gA o 3) s → lp_X7_fitsAllSeen_2 st czz isl mv pl Nzz (pzz, v2, mezz) = some zzz → lp_X9_thatCanBe_19 rec4 N' (v1zz, pzz, 1, v2, o) = some y' → ∃ o' : Ob, gA o' 3 = gA o 3 ∧ gI o' 20 = gI o 20 ∧ ((zzz.1 = 0 ∧ bk_X9_thatCanBe_92 rec4 pzz 0 v1zz o' = some y') ∨ (¬ zzz.1 = 0 ∧ bk_X9_thatCanBe_92 rec4 pzz ((1 : Int32) <<< (pzz &&& 31)) v1zz o' = some y')) := by
  have n1zz : (1 : Int32).toNatClampNeg = 1 := by decide
  intro Nzz
  induction Nzz with
  | zero => intro N' v2 mezz o izz _ _ _ _ hzz; cases hzz
  | succ Nzz ihzz =>
    intro N' v2 mezz o izz ezz hizz hA hSzz h1 h2
    cases N' with
    | zero => cases h2
    | succ N' =>
    have h1 : lb_X7_fitsAllSeen_2 st czz isl mv pl (lp_X7_fitsAllSeen_2 st czz isl mv pl Nzz) pzz v2 mezz = some zzz := h1
    have h2 : lb_X9_thatCanBe_19 rec4 (lp_X9_thatCanBe_19 rec4 N') v1zz pzz 1 v2 o = some y' := h2
    unfold lb_X7_fitsAllSeen_2 at h1
    unfold lb_X9_thatCanBe_19 at h2
    rw [n1zz] at h2
    rw [hSzz.1] at h1
    by_cases cs : gA o 3 1 ≤ v2
    · have h1 := Option.some.inj (z_t h1 cs)
      have h2 := z_t h2 cs
      unfold bk_X9_thatCanBe_80 at h2
      exact ⟨o, rfl, rfl, Or.inr ⟨by rw [← h1]; show ¬ (1 : Int32) = 0; decide, z_f h2 (by decide)⟩⟩
    · have d := cv_nle (a := (s : Int)) (b := (izz : Int)) hSzz.2.1 ezz cs
      have hs6 := hSzz.2.2.1
      obtain ⟨lz, kz, h1⟩ := z_bd (z_f h1 cs)
      have h1 := (z_gd h1).2
      have ii : v2.toNatClampNeg = izz := tnc_eq ezz
      rw [ii] at h1
      obtain ⟨z3, k3zz, h1⟩ := z_bd h1
      have h1 := (z_gd h1).2
      have h2 := (z_gd (z_f (z_f h2 cs) (by decide))).2
      have j7zz : ((71 : Int32) + ((2 : Int32) * v2)).toInt = 71 + 2 * (izz : Int) := i32_add (by decide) (i32_mul (by decide : (2 : Int32).toInt = 2) ezz (by omega) (by omega)) (by omega) (by omega)
      have j7n : ((71 : Int32) + ((2 : Int32) * v2)).toNatClampNeg = 71 + 2 * izz := tnc_eq (by rw [j7zz]; omega)
      have j8n : (((71 : Int32) + ((2 : Int32) * v2)) + (1 : Int32)).toNatClampNeg = 72 + 2 * izz := tnc_eq (by rw [i32_add j7zz (by decide : (1 : Int32).toInt = 1) (by omega) (by omega)]; omega)
      rw [j7n, j8n] at h2
      obtain ⟨w4zz, l4, h2⟩ := z_bd h2
      have h2 := (z_gd h2).2
      obtain ⟨⟨s1zz, s2zz⟩, s3zz, s4zz⟩ := hSzz.2.2.2 izz (by omega)
      rw [← s1zz] at l4
      obtain ⟨R, eR⟩ : ∃ R : Nat, (gA isl 4 izz).toInt = (R : Int) := ⟨(gA isl 4 izz).toInt.toNat, by omega⟩
      have te := turns_eq (hA.ask kz eP hP eR (by omega)) k3zz l4
      have f4zz := fr_f_X9_turnsOf l4
      have e3zz : gA w4zz.2 3 = gA o 3 := f4zz.A 3 rfl
      have e20 : gI w4zz.2 20 = gI o 20 := f4zz.I 20 rfl
      rw [te.1] at h1
      rw [e3zz, ← s2zz] at h2
      by_cases ce : w4zz.1 = gA isl 5 izz
      · obtain ⟨x5zz, g5zz, h1⟩ := z_lt (z_t h1 ce)
        have h2 := z_t h2 ce
        unfold bk_X9_thatCanBe_73 at h2
        obtain ⟨x6, g6, h2⟩ := z_lt h2
        have exzz : x6 = x5zz := g6.trans g5zz.symm
        rw [exzz] at h2
        obtain ⟨o', r1zz, r2, r3⟩ := ihzz N' x5zz z3.2 w4zz.2 (izz + 1) (by rw [g5zz]; exact Eq.trans (i32_add ezz (by decide : (1 : Int32).toInt = 1) (by omega) (by omega)) (by omega)) (by omega) (hA.eq e3zz e20) (by rw [e3zz]; exact hSzz) h1 h2
        exact ⟨o', r1zz.trans e3zz, r2.trans e20, r3⟩
      · have h1 := Option.some.inj (z_f h1 ce)
        have h2 := z_f h2 ce
        unfold bk_X9_thatCanBe_73 at h2
        obtain ⟨x6, g6, h2⟩ := z_lt h2
        exact ⟨w4zz.2, e3zz, e20, Or.inl ⟨by rw [← h1], cb_zero N' h2⟩⟩
set_option maxHeartbeats 200000 in
theorem cb_out {pl : List CR} {st czz isl mv : Ob} {n s : Nat} {zzz wzz : Int32 × Ob} : ∀ (Nzz N' : Nat) (v1zz v2 : Int32) (mezz o : Ob) (izz : Nat), v2.toInt = (izz : Int) → izz ≤ n → AsB pl isl mv o n → SeT isl (gA o 3) s → lp_X7_suspects_4 st czz isl mv pl Nzz (v1zz, v2, mezz) = some zzz → lp_X9_thatCanBe_4 N' (v1zz, v2, o) = some wzz → zzz.1 = wzz.1 ∧ gA wzz.2 3 = gA o 3 ∧ gI wzz.2 20 = gI o 20 := by
  have n0zz : (0 : Int32).toNatClampNeg = 0 := by decide
  intro Nzz
  induction Nzz with
  | zero => intro N' v1zz v2 mezz o izz _ _ _ _ hzz; cases hzz
  | succ Nzz ihzz =>
    intro N' v1zz v2 mezz o izz ezz hizz hA hSzz h1 h2
    cases N' with
    | zero => cases h2
    | succ N' =>
    have h1 : lb_X7_suspects_4 st czz isl mv pl (lp_X7_suspects_4 st czz isl mv pl Nzz) v1zz v2 mezz = some zzz := h1
    have h2 : lb_X9_thatCanBe_4 (lp_X9_thatCanBe_4 N') v1zz v2 o = some wzz := h2
    unfold lb_X7_suspects_4 at h1
    unfold lb_X9_thatCanBe_4 at h2
    rw [n0zz] at h2
    have pp := hA.ppl
    rw [pp.1] at h1
    by_cases c1zz : gA o 3 0 ≤ v2
    · rw [← Option.some.inj (z_t h1 c1zz), ← Option.some.inj (z_t h2 c1zz)]
      exact ⟨rfl, rfl, rfl⟩
    · have d := cv_nle (a := (n : Int)) (b := (izz : Int)) hA.2.2.2 ezz c1zz
      obtain ⟨z1, k1zz, h1⟩ := z_bd (z_f h1 c1zz)
      unfold f_X7_fitsAllSeen at k1zz
      obtain ⟨o', r1zz, r2, r3⟩ := cb_in ezz (by omega) zfu zfu 0 mezz o 0 (by decide) (Nat.zero_le _) hA hSzz k1zz (z_f h2 c1zz)
      rcases r3 with ⟨b1, b2⟩ | ⟨b1, b2⟩
      · have h1 := z_t h1 b1
        unfold bk_X7_suspects_29 at h1
        obtain ⟨x2zz, g2, h1⟩ := z_lt h1
        unfold bk_X9_thatCanBe_92 at b2
        obtain ⟨x1zz, l1, b2⟩ := z_lt b2
        obtain ⟨x3, l3, b2⟩ := z_lt b2
        have exzz : x3 = x2zz := l3.trans g2.symm
        have evzz : x1zz = v1zz := by rw [l1, Int32.or_zero]
        rw [exzz, evzz] at b2
        obtain ⟨q1zz, q2zz, q3zz⟩ := ihzz N' v1zz x2zz z1.2 o' (izz + 1) (by rw [g2]; exact Eq.trans (i32_add ezz (by decide : (1 : Int32).toInt = 1) (by omega) (by omega)) (by omega)) (by omega) (hA.eq r1zz r2) (by rw [r1zz]; exact hSzz) h1 b2
        exact ⟨q1zz, q2zz.trans r1zz, q3zz.trans r2⟩
      · obtain ⟨x4zz, g4, h1⟩ := z_lt (z_f h1 b1)
        unfold bk_X7_suspects_29 at h1
        obtain ⟨x2zz, g2, h1⟩ := z_lt h1
        unfold bk_X9_thatCanBe_92 at b2
        obtain ⟨x1zz, l1, b2⟩ := z_lt b2
        obtain ⟨x3, l3, b2⟩ := z_lt b2
        have exzz : x3 = x2zz := l3.trans g2.symm
        have evzz : x1zz = x4zz := l1.trans g4.symm
        rw [exzz, evzz] at b2
        obtain ⟨q1zz, q2zz, q3zz⟩ := ihzz N' x4zz x2zz z1.2 o' (izz + 1) (by rw [g2]; exact Eq.trans (i32_add ezz (by decide : (1 : Int32).toInt = 1) (by omega) (by omega)) (by omega)) (by omega) (hA.eq r1zz r2) (by rw [r1zz]; exact hSzz) h1 b2
        exact ⟨q1zz, q2zz.trans r1zz, q3zz.trans r2⟩
set_option maxHeartbeats 200000 in
theorem TF.set {pl : List CR} {o0zz o1 o4zz o5zz o8zz o6 o11 o9 : Ob} {im0 im1 : Option IR} (hzz : TF pl o0zz o1 o4zz o5zz o8zz o6 o11 o9 im0 im1) (h4 : IvX2 pl o4zz) : ∃ s : Nat, SeT o4zz (gA o9 3) s := by
  obtain ⟨t1zz, t2zz, t3zz, t4zz⟩ := hzz.2.2.2.2.2.2.1
  have r8 := h4.2.1
  have e8 := t1zz.2.1
  rw [e8] at r8
  refine ⟨(gA o9 3 1).toInt.toNat, e8, by omega, by omega, fun jzz hj => ⟨t2zz.2.2.2.2.1 jzz hj, ?_⟩⟩
  exact h4.2.2.2.2.1.1 jzz (by omega) (by omega)
set_option maxHeartbeats 200000 in
theorem can_eq {pl : List CR} {st czz isl mv mezz o : Ob} {n s : Nat} {zzz wzz : Int32 × Ob} (hA : AsB pl isl mv o n) (hSzz : SeT isl (gA o 3) s) (h1 : f_X7_suspects st czz isl mv mezz pl = some zzz) (h2 : f_X9_thatCanBe o = some wzz) : zzz.1 = wzz.1 ∧ gA wzz.2 3 = gA o 3 ∧ gI wzz.2 20 = gI o 20 := by
  unfold f_X7_suspects at h1
  unfold f_X9_thatCanBe at h2
  exact cb_out zfu zfu 0 0 mezz o 0 (by decide) (Nat.zero_le _) hA hSzz h1 h2
set_option maxHeartbeats 200000 in
theorem tf_canBe {pl : List CR} {o0zz o1 mezz o4zz o5zz czz st o8zz o6 o11 o9 : Ob} {im0 im1 : Option IR} {yzz y' : Int32 × Ob} (ht : TF pl o0zz o1 o4zz o5zz o8zz o6 o11 o9 im0 im1) (h4 : IvX2 pl o4zz) (h20 : gI o9 20 = 0) (h1 : f_X8_canBe o0zz mezz o4zz o5zz czz st pl = some yzz) (h2 : f_X9_canBe o9 = some y') : yzz.1 = y'.1 := by
  unfold f_X8_canBe at h1
  unfold f_X9_canBe at h2
  obtain ⟨q1zz, g1, h2⟩ := z_lt h2
  have ht1 : TF pl o0zz o1 o4zz o5zz o8zz o6 o11 q1zz im0 im1 := by rw [g1]; exact ht.sI0
  obtain ⟨s, hs⟩ := ht1.set h4
  obtain ⟨z1, k1zz, h1⟩ := z_bd h1
  obtain ⟨w1zz, l1, h2⟩ := z_bd h2
  rw [← Option.some.inj h1, ← Option.some.inj h2]
  exact (can_eq (ht1.s (by rw [g1]; exact h20)).asb hs k1zz l1).1
set_option maxHeartbeats 200000 in
theorem a6_at {o : Ob} {jzz xzz : Nat} {vzz : Int32} : gA (tA o 6 jzz vzz) 6 xzz = if xzz = jzz then vzz else gA o 6 xzz := rfl
set_option maxHeartbeats 200000 in
theorem a45_at {o : Ob} {jzz xzz : Nat} {vzz : Int32} : gA (tA o 45 jzz vzz) 45 xzz = if xzz = jzz then vzz else gA o 45 xzz := rfl
set_option maxHeartbeats 200000 in
theorem lk_fill {yzz : Ob} {vzz : Int32} : ∀ (Nzz : Nat) (v3 : Int32) (o : Ob) (izz : Nat), v3.toInt = (izz : Int) → izz ≤ 10 → lp_J7_fill_53178_AX7_6_5 Nzz (vzz, v3, 10, o) = some yzz → (∀ xzz, xzz < 10 → gA yzz 6 xzz = if izz ≤ xzz then vzz else gA o 6 xzz) ∧ gI yzz 9 = gI o 9 := by
  intro Nzz
  induction Nzz with
  | zero => intro v3 o izz _ _ hzz; cases hzz
  | succ Nzz ihzz =>
    intro v3 o izz ezz hizz hzz
    have hzz : lb_J7_fill_53178_AX7_6_5 (lp_J7_fill_53178_AX7_6_5 Nzz) vzz v3 10 o = some yzz := hzz
    unfold lb_J7_fill_53178_AX7_6_5 at hzz
    by_cases czz : (10 : Int32) ≤ v3
    · have d := cv_le (a := 10) (b := (izz : Int)) (by decide) ezz czz
      rw [← Option.some.inj (z_t hzz czz)]
      exact ⟨fun xzz hx => by rw [if_neg (by omega)], rfl⟩
    · have d := cv_nle (a := 10) (b := (izz : Int)) (by decide) ezz czz
      have hzz := (z_gd (z_f hzz czz)).2
      obtain ⟨qzz, gzz, hzz⟩ := z_lt hzz
      obtain ⟨wzz, gw, hzz⟩ := z_lt hzz
      have ii : v3.toNatClampNeg = izz := tnc_eq ezz
      rw [ii] at gzz
      obtain ⟨k1zz, k2zz⟩ := ihzz wzz qzz (izz + 1) (by rw [gw]; exact Eq.trans (i32_add ezz (by decide : (1 : Int32).toInt = 1) (by omega) (by omega)) (by omega)) (by omega) hzz
      refine ⟨fun xzz hx => ?_, k2zz.trans (by rw [gzz]; rfl)⟩
      rw [k1zz xzz hx, gzz, a6_at]
      by_cases cx : izz + 1 ≤ xzz
      · rw [if_pos cx, if_pos (by omega)]
      · rw [if_neg cx]
        by_cases c2zz : xzz = izz
        · rw [if_pos c2zz, if_pos (by omega)]
        · rw [if_neg c2zz, if_neg (by omega)]
def dLk : DD := ([34, 38], [39, 40], [45], [35, 37], [])
set_option maxHeartbeats 200000 in
theorem lk_ini {rec36 : Int32 × Int32 × Int32 × Int32 × Int32 × Ob → Option (Int32 × Ob)} {y' : Int32 × Ob} {v1zz v2 v3 v4zz v5 : Int32} : ∀ (Nzz : Nat) (v6 : Int32) (o : Ob) (izz : Nat), v6.toInt = (izz : Int) → izz ≤ 10 → lp_X9_look_45 rec36 Nzz (v1zz, v2, v3, v4zz, v5, v6, o) = some y' → ∃ o' : Ob, lp_X9_look_72 rec36 zfu (v1zz, v2, v3, v4zz, v5, 0, 0, o') = some y' ∧ FrX dLk o o' ∧ ∀ xzz, xzz < 10 → gA o' 45 xzz = if izz ≤ xzz then 0 else gA o 45 xzz := by
  intro Nzz
  induction Nzz with
  | zero => intro v6 o izz _ _ hzz; cases hzz
  | succ Nzz ihzz =>
    intro v6 o izz ezz hizz hzz
    have hzz : lb_X9_look_45 rec36 (lp_X9_look_45 rec36 Nzz) v1zz v2 v3 v4zz v5 v6 o = some y' := hzz
    unfold lb_X9_look_45 at hzz
    by_cases czz : (10 : Int32) ≤ v6
    · have d := cv_le (a := 10) (b := (izz : Int)) (by decide) ezz czz
      exact ⟨o, z_t hzz czz, FrX.rf, fun xzz hx => by rw [if_neg (by omega)]⟩
    · have d := cv_nle (a := 10) (b := (izz : Int)) (by decide) ezz czz
      have hzz := (z_gd (z_f hzz czz)).2
      obtain ⟨qzz, gzz, hzz⟩ := z_lt hzz
      obtain ⟨wzz, gw, hzz⟩ := z_lt hzz
      have ii : v6.toNatClampNeg = izz := tnc_eq ezz
      rw [ii] at gzz
      obtain ⟨o', k1zz, k2zz, k3zz⟩ := ihzz wzz qzz (izz + 1) (by rw [gw]; exact Eq.trans (i32_add ezz (by decide : (1 : Int32).toInt = 1) (by omega) (by omega)) (by omega)) (by omega) hzz
      refine ⟨o', k1zz, (by rw [gzz]; exact FrX.tA FrX.rf rfl : FrX dLk o qzz).tr k2zz, fun xzz hx => ?_⟩
      rw [k3zz xzz hx, gzz, a45_at]
      by_cases cx : izz + 1 ≤ xzz
      · rw [if_pos cx, if_pos (by omega)]
      · rw [if_neg cx]
        by_cases c2zz : xzz = izz
        · rw [if_pos c2zz, if_pos (by omega)]
        · rw [if_neg c2zz, if_neg (by omega)]
set_option maxHeartbeats 200000 in
theorem lk_most {pl : List CR} {czz isl mv : Ob} {rec36 : Int32 × Int32 × Int32 × Int32 × Int32 × Ob → Option (Int32 × Ob)} {y' : Int32 × Ob} {p0zz all l1 l2 rc : Int32} {n R : Nat} {zzz : Int32 × Ob × Ob} (eR : rc.toInt = (R : Int)) (hR : R < 4) :
    ∀ (Nzz N' : Nat) (v3 v4zz : Int32) (st mezz o : Ob) (izz mzz : Nat), v4zz.toInt = (izz : Int) → izz ≤ n → v3.toInt = (mzz : Int) → mzz ≤ izz → AsB pl isl mv o n → (∀ xzz, xzz < 10 → gA st 6 xzz = gA o 45 xzz ∧ 0 ≤ (gA st 6 xzz).toInt ∧ (gA st 6 xzz).toInt ≤ (mzz : Int)) → lp_X7_alikeMost_13 czz isl mv pl Nzz (all, rc, v3, v4zz, st, mezz) = some zzz → lp_X9_look_72 rec36 N' (p0zz, all, l1, l2, rc, v3, v4zz, o) = some y' → ∃ (o' : Ob) (m' : Nat), zzz.1.toInt = (m' : Int) ∧ m' ≤ n ∧ FrX dLk o o' ∧ gI zzz.2.1 9 = gI st 9 ∧ (if l1 ≤ zzz.1 then (bk_X9_look_158 rec36 p0zz all l1 rc zzz.1 l2 o') else (bk_X9_look_158 rec36 p0zz all l1 rc zzz.1 rc o')) = some y' := by
  have n0zz : (0 : Int32).toNatClampNeg = 0 := by decide
  intro Nzz
  induction Nzz with
  | zero => intro N' v3 v4zz st mezz o izz mzz _ _ _ _ _ _ hzz; cases hzz
  | succ Nzz ihzz =>
    intro N' v3 v4zz st mezz o izz mzz ezz hizz e3zz hmzz hA hE h1 h2
    cases N' with
    | zero => cases h2
    | succ N' =>
    have h1 : lb_X7_alikeMost_13 czz isl mv pl (lp_X7_alikeMost_13 czz isl mv pl Nzz) all rc v3 v4zz st mezz = some zzz := h1
    have h2 : lb_X9_look_72 rec36 (lp_X9_look_72 rec36 N') p0zz all l1 l2 rc v3 v4zz o = some y' := h2
    unfold lb_X7_alikeMost_13 at h1
    unfold lb_X9_look_72 at h2
    rw [n0zz] at h2
    have pp := hA.ppl
    rw [pp.1] at h1
    by_cases c1zz : gA o 3 0 ≤ v4zz
    · have h1 := Option.some.inj (z_t h1 c1zz)
      rw [← h1]
      exact ⟨o, mzz, e3zz, by omega, FrX.rf, rfl, z_t h2 c1zz⟩
    · have d := cv_nle (a := (n : Int)) (b := (izz : Int)) hA.2.2.2 ezz c1zz
      have h1 := z_f h1 c1zz
      obtain ⟨w5, l5, h2⟩ := z_bd (z_f h2 c1zz)
      unfold f_X9_is at l5
      have e1zz : (v4zz + (1 : Int32)).toInt = ((izz + 1 : Nat) : Int) := Eq.trans (i32_add ezz (by decide : (1 : Int32).toInt = 1) (by omega) (by omega)) (by omega)
      by_cases cb : ((all >>> (v4zz &&& 31)) &&& (1 : Int32)) = (1 : Int32)
      · have w50 : ¬ w5 = 0 := by rw [← Option.some.inj (z_t l5 cb)]; decide
        obtain ⟨lz, kz, h1⟩ := z_bd (z_t h1 cb)
        obtain ⟨z4, k4zz, h1⟩ := z_bd h1
        obtain ⟨w7zz, l7, h2⟩ := z_bd (z_f h2 w50)
        obtain ⟨te, tr1, tr2⟩ := turns_eq (hA.ask kz ezz (by omega) eR hR) k4zz l7
        have f7zz := fr_f_X9_turnsOf l7
        obtain ⟨T, eT⟩ : ∃ T : Nat, w7zz.1.toInt = (T : Int) := ⟨w7zz.1.toInt.toNat, by omega⟩
        have iT : w7zz.1.toNatClampNeg = T := tnc_eq eT
        rw [te, iT] at h1
        rw [iT] at h2
        have h1 := (z_gd (z_gd h1).2).2
        obtain ⟨s7, g7, h1⟩ := z_lt h1
        have h1 := (z_gd h1).2
        obtain ⟨x9, g9, h1⟩ := z_lt h1
        have h2 := (z_gd (z_gd h2).2).2
        obtain ⟨q10zz, g10, h2⟩ := z_lt h2
        have h2 := (z_gd h2).2
        unfold bk_X7_alikeMost_77 at h1
        obtain ⟨x2zz, g2, h1⟩ := z_lt h1
        have hTzz := hE T (by omega)
        have eAzz : ∀ xzz, gA s7 6 xzz = if xzz = T then gA st 6 T + 1 else gA st 6 xzz := fun xzz => by rw [g7, a6_at]
        have eB : ∀ xzz, gA q10zz 45 xzz = if xzz = T then gA w7zz.2 45 T + 1 else gA w7zz.2 45 xzz := fun xzz => by rw [g10, a45_at]
        have f45 : gA w7zz.2 45 = gA o 45 := f7zz.A 45 rfl
        have tA1 : (gA st 6 T + 1).toInt = (gA st 6 T).toInt + 1 := i32_add rfl (by decide) (by omega) (by omega)
        have eqT : gA q10zz 45 T = gA s7 6 T := by rw [eAzz, eB, if_pos rfl, if_pos rfl, f45, hTzz.1]
        have fq : FrX dLk o q10zz := (f7zz.mono rfl : FrX dLk o w7zz.2).tr (by rw [g10]; exact FrX.tA FrX.rf rfl)
        have hA' : AsB pl isl mv q10zz n := hA.eq (fq.A 3 rfl) (fq.I 20 rfl)
        have es9 : gI s7 9 = gI st 9 := by rw [g7]; rfl
        have ivzz : (gA s7 6 T).toInt = (gA st 6 T).toInt + 1 := by rw [eAzz, if_pos rfl, tA1]
        rw [eqT] at h2
        by_cases cm : gA s7 6 T ≤ v3
        · have dm := cv_le (a := (gA st 6 T).toInt + 1) (b := (mzz : Int)) ivzz e3zz cm
          have nl : ¬ v3 < gA s7 6 T := fun qzz => by have qzz := cv_lt (a := (mzz : Int)) (b := (gA st 6 T).toInt + 1) e3zz ivzz qzz; omega
          rw [if_neg nl] at g9
          have h2 := z_t h2 cm
          unfold bk_X9_look_137 bk_X9_look_139 at h2
          obtain ⟨x6, g6, h2⟩ := z_lt h2
          have exzz : x6 = x2zz := g6.trans g2.symm
          rw [exzz] at h2
          rw [g9] at h1
          obtain ⟨o', m', r1zz, r2, r3, r4, r5zz⟩ := ihzz N' v3 x2zz s7 z4.2 q10zz (izz + 1) mzz (by rw [g2]; exact e1zz) (by omega) e3zz (by omega) hA' (fun xzz hx => by
            have qzz := hE xzz hx
            rw [eAzz, eB]
            by_cases cx : xzz = T
            · rw [if_pos cx, if_pos cx, f45, hTzz.1]
              exact ⟨rfl, by rw [← hTzz.1, tA1]; omega, by rw [← hTzz.1, tA1]; omega⟩
            · rw [if_neg cx, if_neg cx, f45]; exact qzz) h1 h2
          exact ⟨o', m', r1zz, r2, fq.tr r3, r4.trans es9, r5zz⟩
        · have dm := cv_nle (a := (gA st 6 T).toInt + 1) (b := (mzz : Int)) ivzz e3zz cm
          have nl : v3 < gA s7 6 T := Int32.lt_iff_toInt_lt.mpr (by rw [ivzz, e3zz]; omega)
          rw [if_pos nl] at g9
          have h2 := (z_gd (z_f h2 cm)).2
          unfold bk_X9_look_137 bk_X9_look_139 at h2
          obtain ⟨x6, g6, h2⟩ := z_lt h2
          have exzz : x6 = x2zz := g6.trans g2.symm
          rw [exzz] at h2
          rw [g9] at h1
          obtain ⟨o', m', r1zz, r2, r3, r4, r5zz⟩ := ihzz N' (gA s7 6 T) x2zz s7 z4.2 q10zz (izz + 1) (mzz + 1) (by rw [g2]; exact e1zz) (by omega) (by rw [ivzz]; omega) (by omega) hA' (fun xzz hx => by
            have qzz := hE xzz hx
            rw [eAzz, eB]
            by_cases cx : xzz = T
            · rw [if_pos cx, if_pos cx, f45, hTzz.1]
              exact ⟨rfl, by rw [← hTzz.1, tA1]; omega, by rw [← hTzz.1, tA1]; omega⟩
            · rw [if_neg cx, if_neg cx, f45]; exact ⟨qzz.1, qzz.2.1, by omega⟩) h1 h2
          exact ⟨o', m', r1zz, r2, fq.tr r3, r4.trans es9, r5zz⟩
      · have w50 : w5 = 0 := (Option.some.inj (z_f l5 cb)).symm
        have h1 := z_f h1 cb
        have h2 := z_t h2 w50
        unfold bk_X7_alikeMost_77 at h1
        unfold bk_X9_look_139 at h2
        obtain ⟨x2zz, g2, h1⟩ := z_lt h1
        obtain ⟨x6, g6, h2⟩ := z_lt h2
        have exzz : x6 = x2zz := g6.trans g2.symm
        rw [exzz] at h2
        exact ihzz N' v3 x2zz st mezz o (izz + 1) mzz (by rw [g2]; exact e1zz) (by omega) e3zz (by omega) hA hE h1 h2
set_option maxHeartbeats 200000 in
theorem lk_lp {pl : List CR} {czz isl mv : Ob} {y' : Int32 × Ob} {p0zz all : Int32} {n : Nat} {zzz : Int32 × Ob × Ob} : ∀ (Nzz N' : Nat) (l1 l2 v3 : Int32) (st mezz o : Ob) (izz : Nat), v3.toInt = (izz : Int) → izz ≤ 4 → 0 ≤ l2.toInt → gI st 9 = l1 → AsB pl isl mv o n → lp_X7_raceToWatch_25 czz isl mv pl Nzz (all, l2, v3, st, mezz) = some zzz → lp_X9_look_36 N' (p0zz, all, l1, l2, v3, o) = some y' → 0 ≤ zzz.1.toInt ∧ y'.1 = if p0zz = 0 then zzz.1 else gI zzz.2.1 9 := by
  intro Nzz
  induction Nzz with
  | zero => intro N' l1 l2 v3 st mezz o izz _ _ _ _ _ hzz; cases hzz
  | succ Nzz ihzz =>
    intro N' l1 l2 v3 st mezz o izz ezz hizz h0 e9zz hA h1 h2
    cases N' with
    | zero => cases h2
    | succ N' =>
    have h1 : lb_X7_raceToWatch_25 czz isl mv pl (lp_X7_raceToWatch_25 czz isl mv pl Nzz) all l2 v3 st mezz = some zzz := h1
    have h2 : lb_X9_look_36 (lp_X9_look_36 N') p0zz all l1 l2 v3 o = some y' := h2
    unfold lb_X7_raceToWatch_25 at h1
    unfold lb_X9_look_36 at h2
    by_cases c1zz : (4 : Int32) ≤ v3
    · rw [← Option.some.inj (z_t h1 c1zz)]
      refine ⟨h0, ?_⟩
      have h2 := z_t h2 c1zz
      by_cases cp : p0zz = 0
      · rw [← Option.some.inj (z_t h2 cp), if_pos cp]
      · rw [← Option.some.inj (z_f h2 cp), if_neg cp]; exact e9zz.symm
    · have d := cv_nle (a := 4) (b := (izz : Int)) (by decide) ezz c1zz
      have e1zz : (v3 + (1 : Int32)).toInt = ((izz + 1 : Nat) : Int) := Eq.trans (i32_add ezz (by decide : (1 : Int32).toInt = 1) (by omega) (by omega)) (by omega)
      obtain ⟨z4, k4zz, h1⟩ := z_bd (z_f h1 c1zz)
      obtain ⟨o1, h2, f1zz, E1zz⟩ := lk_ini zfu 0 o 0 (by decide) (by decide) (z_f h2 c1zz)
      unfold f_X7_alikeMost at k4zz
      obtain ⟨st1zz, j1, k4zz⟩ := z_bd k4zz
      unfold f_J7_fill_53178_AX7_6 at j1
      obtain ⟨F1zz, F9⟩ := lk_fill zfu 0 st 0 (by decide) (by decide) j1
      obtain ⟨o', m', r1zz, r2, r3, r4, h2⟩ := lk_most ezz (by omega) zfu zfu 0 0 st1zz mezz o1 0 0 (by decide) (Nat.zero_le _) (by decide) (Nat.le_refl _) (hA.eq (f1zz.A 3 rfl) (f1zz.I 20 rfl)) (fun xzz hx => by
        rw [F1zz xzz hx, E1zz xzz hx, if_pos (Nat.zero_le _), if_pos (Nat.zero_le _)]
        exact ⟨rfl, by decide, by decide⟩) k4zz h2
      have fo : FrX dLk o o' := f1zz.tr r3
      have hA' : AsB pl isl mv o' n := hA.eq (fo.A 3 rfl) (fo.I 20 rfl)
      have e9' : gI z4.2.1 9 = l1 := r4.trans (F9.trans e9zz)
      rw [e9'] at h1
      by_cases cl : l1 ≤ z4.1
      · have h1 := z_t h1 cl
        have h2 := z_t h2 cl
        unfold bk_X7_raceToWatch_55 at h1
        unfold bk_X9_look_158 at h2
        have h2 := z_t h2 cl
        unfold bk_X9_look_172 at h2
        obtain ⟨x5zz, g5zz, h1⟩ := z_lt h1
        obtain ⟨x4zz, g4, h2⟩ := z_lt h2
        have exzz : x4zz = x5zz := g4.trans g5zz.symm
        rw [exzz] at h2
        exact ihzz N' l1 l2 x5zz z4.2.1 z4.2.2 o' (izz + 1) (by rw [g5zz]; exact e1zz) (by omega) h0 e9' hA' h1 h2
      · obtain ⟨st6zz, g6, h1⟩ := z_lt (z_f h1 cl)
        have h2 := z_f h2 cl
        unfold bk_X7_raceToWatch_55 at h1
        unfold bk_X9_look_158 at h2
        have h2 := z_f h2 cl
        unfold bk_X9_look_172 at h2
        obtain ⟨x5zz, g5zz, h1⟩ := z_lt h1
        obtain ⟨x4zz, g4, h2⟩ := z_lt h2
        have exzz : x4zz = x5zz := g4.trans g5zz.symm
        rw [exzz] at h2
        exact ihzz N' z4.1 v3 x5zz st6zz z4.2.2 o' (izz + 1) (by rw [g5zz]; exact e1zz) (by omega) (by rw [ezz]; omega) (by rw [g6]; rfl) hA' h1 h2
set_option maxHeartbeats 200000 in
theorem lk_top {pzz all l1 l2 v5 : Int32} {o : Ob} {y' : Int32 × Ob} (hv : ¬ (4 : Int32) ≤ v5) : ∀ N', lp_X9_look_36 N' (pzz, all, l1, l2, v5, o) = some y' → ∃ Nzz, lp_X9_look_45 (lp_X9_look_36 Nzz) zfu (pzz, all, l1, l2, v5, (0 : Int32), o) = some y' := by
  intro N' hzz
  cases N' with
  | zero => cases hzz
  | succ Nzz =>
    have hzz : lb_X9_look_36 (lp_X9_look_36 Nzz) pzz all l1 l2 v5 o = some y' := hzz
    unfold lb_X9_look_36 at hzz
    exact ⟨Nzz, z_f hzz hv⟩
set_option maxHeartbeats 200000 in
theorem tf_look {pl : List CR} {o0zz o1 mezz o4zz o5zz czz st o8zz o6 o11 o9 : Ob} {im0 im1 : Option IR} {pzz : Int32} {yzz : Int32 × Ob × Ob} {y' : Int32 × Ob} (ht : TF pl o0zz o1 o4zz o5zz o8zz o6 o11 o9 im0 im1) (h4 : IvX2 pl o4zz) (h20 : gI o9 20 = 0) (h1 : f_X8_look o0zz mezz o4zz o5zz czz st pl pzz = some yzz) (h2 : f_X9_look o9 pzz = some y') : yzz.1 = y'.1 := by
  unfold f_X8_look at h1
  unfold f_X9_look at h2
  obtain ⟨q1zz, g1, h2⟩ := z_lt h2
  have ht1 : TF pl o0zz o1 o4zz o5zz o8zz o6 o11 q1zz im0 im1 := by rw [g1]; exact ht.sI0
  obtain ⟨s, hs⟩ := ht1.set h4
  have hA := (ht1.s (by rw [g1]; exact h20)).asb
  obtain ⟨w2zz, l2, h2⟩ := z_bd h2
  obtain ⟨w3zz, l3, h2⟩ := z_bd h2
  have i9zz := in9 (m := 0) (n := 1) (by decide) (by decide) l3
  have no : some ((-1 : Int32), mezz, st) = some yzz → ¬ (0 ≤ pzz.toInt ∧ pzz.toInt ≤ 1) → yzz.1 = y'.1 := by
    intro h1 hn
    rcases i9zz with ⟨uzz, -⟩ | ⟨-, uzz⟩
    · rw [← Option.some.inj h1, ← Option.some.inj (z_t h2 uzz)]
    · exact absurd uzz hn
  by_cases c1zz : pzz < (0 : Int32)
  · have d := cv_lt (a := pzz.toInt) (b := 0) rfl (by decide) c1zz
    exact no (z_t h1 c1zz) (by omega)
  have h1 := z_f h1 c1zz
  have d1zz := cv_nlt (a := pzz.toInt) (b := 0) rfl (by decide) c1zz
  by_cases c2zz : pzz ≤ (1 : Int32)
  · have d2zz := cv_le (a := pzz.toInt) (b := 1) rfl (by decide) c2zz
    obtain ⟨z1, k1zz, h1⟩ := z_bd (z_t h1 c2zz)
    rcases i9zz with ⟨-, uzz⟩ | ⟨uzz, -⟩
    · exact absurd ⟨d1zz, d2zz⟩ uzz
    · have h2 := z_f h2 uzz
      unfold f_X7_raceToWatch at k1zz
      obtain ⟨z5, k5zz, k1zz⟩ := z_bd k1zz
      obtain ⟨a1zz, a2, a3⟩ := can_eq hA hs k5zz l2
      rw [← a1zz] at h2
      by_cases c0zz : z5.1 = 0
      · have k1zz := Option.some.inj (z_t k1zz c0zz)
        have h2 := Option.some.inj (z_t h2 c0zz)
        rw [← k1zz] at h1
        unfold bk_X8_look_28 at h1
        rw [← h2]
        by_cases cp : pzz = 0
        · rw [← Option.some.inj (z_t h1 cp)]
        · rw [← Option.some.inj (z_t (z_f h1 cp) rfl)]
      · obtain ⟨z2, k2zz, k1zz⟩ := z_bd (z_f k1zz c0zz)
        obtain ⟨s3zz, g3zz, k1zz⟩ := z_lt k1zz
        have h2 := z_f h2 c0zz
        obtain ⟨Nzz, h2⟩ := lk_top (v5 := 0) (by decide) zfu h2
        have hA2 : AsB pl o4zz o5zz w2zz.2 (gA q1zz 3 0).toInt.toNat := hA.eq a2 a3
        obtain ⟨o1', h2, f1zz, E1zz⟩ := lk_ini zfu 0 w2zz.2 0 (by decide) (by decide) h2
        unfold f_X7_alikeMost at k2zz
        obtain ⟨st1zz, j1, k2zz⟩ := z_bd k2zz
        unfold f_J7_fill_53178_AX7_6 at j1
        obtain ⟨F1zz, F9⟩ := lk_fill zfu 0 st 0 (by decide) (by decide) j1
        obtain ⟨o', m', r1zz, r2, r3, r4, h2⟩ := lk_most (R := 0) (by decide) (by decide) zfu zfu 0 0 st1zz z5.2 o1' 0 0 (by decide) (Nat.zero_le _) (by decide) (Nat.le_refl _) (hA2.eq (f1zz.A 3 rfl) (f1zz.I 20 rfl)) (fun xzz hx => by
          rw [F1zz xzz hx, E1zz xzz hx, if_pos (Nat.zero_le _), if_pos (Nat.zero_le _)]
          exact ⟨rfl, by decide, by decide⟩) k2zz h2
        have n7 := hA.ppl.2
        have cl : ¬ (100000000 : Int32) ≤ z2.1 := fun qzz => by have qzz := cv_le (a := 100000000) (b := (m' : Int)) (by decide) r1zz qzz; omega
        have h2 := z_f h2 cl
        unfold bk_X9_look_158 at h2
        have h2 := z_f h2 cl
        unfold bk_X9_look_172 at h2
        obtain ⟨x4zz, g4, h2⟩ := z_lt h2
        have exzz : x4zz = 1 := g4.trans (by decide)
        rw [exzz] at h2
        have fo : FrX dLk w2zz.2 o' := f1zz.tr r3
        obtain ⟨b1, b2⟩ := lk_lp zfu Nzz z2.1 0 1 s3zz z2.2.2 o' 1 (by decide) (by decide) (by decide) (by rw [g3zz]; rfl) (hA2.eq (fo.A 3 rfl) (fo.I 20 rfl)) k1zz h2
        unfold bk_X8_look_28 at h1
        rw [b2]
        by_cases cp : pzz = 0
        · rw [← Option.some.inj (z_t h1 cp), if_pos cp]
        · have nz : ¬ z1.1 = -1 := fun qzz => by rw [qzz, (by decide : (-1 : Int32).toInt = -1)] at b1; omega
          rw [← Option.some.inj (z_f (z_f h1 cp) nz), if_neg cp]
  · have d := cv_nle (a := pzz.toInt) (b := 1) rfl (by decide) c2zz
    exact no (z_f h1 c2zz) (by omega)
set_option maxHeartbeats 200000 in
theorem barred01 {o : Ob} {pzz rzz : Int32} {wzz : Int32 × Ob} (hzz : f_X9_isBarred o pzz rzz = some wzz) : wzz.1 = 0 ∨ wzz.1 = 1 := by
  unfold f_X9_isBarred at hzz
  obtain ⟨zzz, kzz, hzz⟩ := z_bd hzz
  rcases z_if hzz with ⟨-, hzz⟩ | ⟨-, hzz⟩
  · rw [← Option.some.inj hzz]; exact Or.inr rfl
  · rw [← Option.some.inj hzz]; exact Or.inl rfl
set_option maxHeartbeats 200000 in
theorem run_rng {o : Ob} {pzz rzz : Int32} {wzz : Int32 × Ob} (hzz : f_X9_runsOf o pzz rzz = some wzz) : 0 ≤ wzz.1.toInt ∧ wzz.1.toInt ≤ 99 := by
  unfold f_X9_runsOf at hzz
  have hzz := (z_gd hzz).2
  obtain ⟨w1zz, e2zz, hzz⟩ := z_bd hzz
  obtain ⟨w3zz, e3zz, hzz⟩ := z_bd hzz
  have hzz := Option.some.inj hzz
  rw [← hzz]
  exact within_rng (M := 99) (by decide) (by decide) e3zz
def Bv (Gzz : Nat → Int32) (pzz R : Nat) (b : Int32) : Prop := ∀ (o : Ob) (pp rr : Int32) (wzz : Int32 × Ob), gA o 3 = Gzz → gI o 20 = 0 → pp.toInt = (pzz : Int) → rr.toInt = (R : Int) → f_X9_isBarred o pp rr = some wzz → wzz.1 = b
def RvX (Gzz : Nat → Int32) (pzz R : Nat) (vzz : Int32) : Prop := ∀ (o : Ob) (pp rr : Int32) (wzz : Int32 × Ob), gA o 3 = Gzz → gI o 20 = 0 → pp.toInt = (pzz : Int) → rr.toInt = (R : Int) → f_X9_runsOf o pp rr = some wzz → wzz.1 = vzz
def ScV (st : Ob) (Gzz : Nat → Int32) (R pzz : Nat) : Prop := (gA st 5 (7 * R + pzz) = -1 ∧ Bv Gzz pzz R 1) ∨ (Bv Gzz pzz R 0 ∧ RvX Gzz pzz R (gA st 5 (7 * R + pzz)))
set_option maxHeartbeats 200000 in
theorem a5_at {o : Ob} {jzz xzz : Nat} {vzz : Int32} : gA (tA o 5 jzz vzz) 5 xzz = if xzz = jzz then vzz else gA o 5 xzz := rfl
set_option maxHeartbeats 200000 in
theorem a41_at {o : Ob} {jzz xzz : Nat} {vzz : Int32} : gA (tA o 41 jzz vzz) 41 xzz = if xzz = jzz then vzz else gA o 41 xzz := rfl
set_option maxHeartbeats 200000 in
theorem a44_at {o : Ob} {jzz xzz : Nat} {vzz : Int32} : gA (tA o 44 jzz vzz) 44 xzz = if xzz = jzz then vzz else gA o 44 xzz := rfl
set_option maxHeartbeats 200000 in
theorem sc_cls {pl : List CR} {czz isl mv : Ob} {Gzz : Nat → Int32} {lz : Option Nat} {n R : Nat} {rc : Int32} {zz : Ob × Ob} (hL : LwP pl lz Gzz (Gzz 3)) (hW : WtL isl mv Gzz) (en : (Gzz 0).toInt = (n : Int)) (eR : rc.toInt = (R : Int)) (hR : R < 4) : ∀ (Nzz : Nat) (v3 : Int32) (st mezz : Ob) (izz : Nat), v3.toInt = (izz : Int) → izz ≤ n → lp_X7_setScores_10 czz isl mv pl Nzz (rc, lz, v3, st, mezz) = some zz → (∀ pzz, izz ≤ pzz → pzz < n → ScV zz.1 Gzz R pzz) ∧ ∀ jzz, (jzz < 7 * R + izz ∨ 7 * R + 7 ≤ jzz) → gA zz.1 5 jzz = gA st 5 jzz := by
  have n7 : n ≤ 7 := by have := hW.1.2; omega
  intro Nzz
  induction Nzz with
  | zero => intro v3 st mezz izz _ _ hzz; cases hzz
  | succ Nzz ihzz =>
    intro v3 st mezz izz ezz hizz hzz
    have hzz : lb_X7_setScores_10 czz isl mv pl (lp_X7_setScores_10 czz isl mv pl Nzz) rc lz v3 st mezz = some zz := hzz
    unfold lb_X7_setScores_10 at hzz
    rw [hW.1.1] at hzz
    by_cases c1zz : Gzz 0 ≤ v3
    · have d := cv_le (a := (n : Int)) (b := (izz : Int)) en ezz c1zz
      rw [← Option.some.inj (z_t hzz c1zz)]
      exact ⟨fun pzz h1 h2 => absurd h1 (by omega), fun jzz _ => rfl⟩
    · have d := cv_nle (a := (n : Int)) (b := (izz : Int)) en ezz c1zz
      obtain ⟨z2, k2zz, hzz⟩ := z_bd (z_f hzz c1zz)
      have e1zz : (v3 + (1 : Int32)).toInt = ((izz + 1 : Nat) : Int) := Eq.trans (i32_add ezz (by decide : (1 : Int32).toInt = 1) (by omega) (by omega)) (by omega)
      have ix : ((rc * (7 : Int32)) + v3).toNatClampNeg = 7 * R + izz := tnc_eq (by rw [i32_add (i32_mul eR (by decide : (7 : Int32).toInt = 7) (by omega) (by omega)) ezz (by omega) (by omega)]; omega)
      have ask : ∀ (o : Ob) (pp rr : Int32), gA o 3 = Gzz → gI o 20 = 0 → pp.toInt = (izz : Int) → rr.toInt = (R : Int) → pp = v3 ∧ rr = rc ∧ Asked pl lz isl mv o v3 rc := fun o pp rr e3zz h20 ep er =>
        ⟨Int32.toInt_inj.mp (ep.trans ezz.symm), Int32.toInt_inj.mp (er.trans eR.symm), by rw [e3zz]; exact hL, by rw [e3zz]; exact hW, h20, ⟨izz, ezz, by rw [hW.1.1, en]; omega⟩, R, eR, hR⟩
      have hBzz : Bv Gzz izz R z2.1 := fun o pp rr wzz e3zz h20 ep er hw => by
        obtain ⟨q1zz, q2zz, hA⟩ := ask o pp rr e3zz h20 ep er
        rw [q1zz, q2zz] at hw
        exact (barred_eq hA k2zz hw).symm
      have wrzz : ∀ (s0zz : Int32) (me' : Ob), bk_X7_setScores_58 czz isl mv pl (lp_X7_setScores_10 czz isl mv pl Nzz) rc lz v3 s0zz ((rc * (7 : Int32)) + v3) st me' = some zz → (∀ pzz, izz + 1 ≤ pzz → pzz < n → ScV zz.1 Gzz R pzz) ∧ gA zz.1 5 (7 * R + izz) = s0zz ∧ ∀ jzz, (jzz < 7 * R + izz ∨ 7 * R + 7 ≤ jzz) → gA zz.1 5 jzz = gA st 5 jzz := by
        intro s0zz me' hzz
        unfold bk_X7_setScores_58 at hzz
        have hzz := (z_gd hzz).2
        rw [ix] at hzz
        obtain ⟨s5, g5zz, hzz⟩ := z_lt hzz
        obtain ⟨x6, g6, hzz⟩ := z_lt hzz
        obtain ⟨r1zz, r2⟩ := ihzz x6 s5 me' (izz + 1) (by rw [g6]; exact e1zz) (by omega) hzz
        refine ⟨r1zz, by rw [r2 _ (Or.inl (by omega)), g5zz, a5_at, if_pos rfl], fun jzz hj => ?_⟩
        rw [r2 jzz (by omega), g5zz, a5_at, if_neg (by omega)]
      by_cases c2zz : z2.1 = 0
      · obtain ⟨z3, k3zz, hzz⟩ := z_bd (z_t hzz c2zz)
        obtain ⟨r1zz, r2, r3⟩ := wrzz _ _ hzz
        rw [c2zz] at hBzz
        refine ⟨fun pzz h1 h2 => ?_, r3⟩
        by_cases cp : pzz = izz
        · rw [cp]
          refine Or.inr ⟨hBzz, ?_⟩
          rw [r2]
          intro o pp rr wzz e3zz h20 ep er hw
          obtain ⟨q1zz, q2zz, hA⟩ := ask o pp rr e3zz h20 ep er
          rw [q1zz, q2zz] at hw
          exact (runs_eq hA k3zz hw).symm
        · exact r1zz pzz (by omega) h2
      · obtain ⟨r1zz, r2, r3⟩ := wrzz _ _ (z_f hzz c2zz)
        refine ⟨fun pzz h1 h2 => ?_, r3⟩
        by_cases cp : pzz = izz
        · rw [cp]
          refine Or.inl ⟨r2, fun o pp rr wzz e3zz h20 ep er hw => ?_⟩
          have qzz := hBzz o pp rr wzz e3zz h20 ep er hw
          rcases barred01 hw with b | b
          · exact absurd (qzz.symm.trans b) c2zz
          · exact b
        · exact r1zz pzz (by omega) h2
def ScP (st o : Ob) (Gzz : Nat → Int32) (R pzz : Nat) : Prop := (gA o 44 pzz = 0 ∧ gA st 5 (7 * R + pzz) = gA o 41 pzz ∧ 0 ≤ (gA o 41 pzz).toInt ∧ (gA o 41 pzz).toInt ≤ 99) ∨ (gA o 44 pzz = 1 ∧ gA st 5 (7 * R + pzz) = -1 ∧ Bv Gzz pzz R 1)
set_option maxHeartbeats 200000 in
theorem sc_lay {st o' : Ob} {Gzz : Nat → Int32} {n R : Nat} {rc : Int32} (hV : ∀ pzz, pzz < n → ScV st Gzz R pzz) (en : (Gzz 0).toInt = (n : Int)) (n7 : n ≤ 7) (eR : rc.toInt = (R : Int)) : ∀ (Nzz : Nat) (v2 : Int32) (o : Ob) (izz : Nat), v2.toInt = (izz : Int) → izz ≤ n → gA o 3 = Gzz → gI o 20 = 0 → (∀ pzz, pzz < izz → ScP st o Gzz R pzz) → lp_X9_layRuns_2 Nzz (rc, v2, o) = some o' → ∀ pzz, pzz < n → ScP st o' Gzz R pzz := by
  have n0zz : (0 : Int32).toNatClampNeg = 0 := by decide
  intro Nzz
  induction Nzz with
  | zero => intro v2 o izz _ _ _ _ _ hzz; cases hzz
  | succ Nzz ihzz =>
    intro v2 o izz ezz hizz e3zz h20 hSzz hzz
    have hzz : lb_X9_layRuns_2 (lp_X9_layRuns_2 Nzz) rc v2 o = some o' := hzz
    unfold lb_X9_layRuns_2 at hzz
    rw [n0zz, e3zz] at hzz
    by_cases c1zz : Gzz 0 ≤ v2
    · have d := cv_le (a := (n : Int)) (b := (izz : Int)) en ezz c1zz
      rw [← Option.some.inj (z_t hzz c1zz)]
      exact fun pzz hp => hSzz pzz (by omega)
    · have d := cv_nle (a := (n : Int)) (b := (izz : Int)) en ezz c1zz
      have ii : v2.toNatClampNeg = izz := tnc_eq ezz
      have e1zz : (v2 + (1 : Int32)).toInt = ((izz + 1 : Nat) : Int) := Eq.trans (i32_add ezz (by decide : (1 : Int32).toInt = 1) (by omega) (by omega)) (by omega)
      obtain ⟨z1, k1zz, hzz⟩ := z_bd (z_f hzz c1zz)
      have hzz := (z_gd hzz).2
      rw [ii] at hzz
      obtain ⟨q3zz, g3zz, hzz⟩ := z_lt hzz
      obtain ⟨z4, k4zz, hzz⟩ := z_bd hzz
      have hzz := (z_gd hzz).2
      obtain ⟨q6zz, g6, hzz⟩ := z_lt hzz
      obtain ⟨x7, g7, hzz⟩ := z_lt hzz
      have f1zz := fr_f_X9_runsOf k1zz
      have f4zz := fr_f_X9_isBarred k4zz
      have s3zz : gA q3zz 3 = Gzz := by rw [g3zz]; exact (f1zz.A 3 rfl).trans e3zz
      have s20 : gI q3zz 20 = 0 := by rw [g3zz]; exact (f1zz.I 20 rfl).trans h20
      have t3zz : gA q6zz 3 = Gzz := by rw [g6]; exact (f4zz.A 3 rfl).trans s3zz
      have t20 : gI q6zz 20 = 0 := by rw [g6]; exact (f4zz.I 20 rfl).trans s20
      have a41 : ∀ xzz, gA q6zz 41 xzz = if xzz = izz then z1.1 else gA o 41 xzz := fun xzz => by
        rw [g6]
        show gA z4.2 41 xzz = _
        rw [f4zz.A 41 rfl, g3zz, a41_at, f1zz.A 41 rfl]
      have a44 : ∀ xzz, gA q6zz 44 xzz = if xzz = izz then vp_nar .boolean z4.1 else gA o 44 xzz := fun xzz => by
        rw [g6, a44_at, f4zz.A 44 rfl, g3zz]
        show (if xzz = izz then _ else gA z1.2 44 xzz) = _
        rw [f1zz.A 44 rfl]
      refine ihzz x7 q6zz (izz + 1) (by rw [g7]; exact e1zz) (by omega) t3zz t20 (fun pzz hp => ?_) hzz
      unfold ScP
      rw [a41, a44]
      by_cases cp : pzz = izz
      · rw [if_pos cp, if_pos cp, cp]
        have rr := run_rng k1zz
        rcases hV izz (by omega) with ⟨b1, b2⟩ | ⟨b1, b2⟩
        · have wzz := b2 q3zz v2 rc z4 s3zz s20 ezz eR k4zz
          exact Or.inr ⟨by rw [wzz]; decide, b1, b2⟩
        · have wzz := b1 q3zz v2 rc z4 s3zz s20 ezz eR k4zz
          have uzz := b2 o v2 rc z1 e3zz h20 ezz eR k1zz
          exact Or.inl ⟨by rw [wzz]; decide, uzz.symm, rr⟩
      · rw [if_neg cp, if_neg cp]
        exact hSzz pzz (by omega)
set_option maxHeartbeats 200000 in
theorem sc_v {pl : List CR} {st czz isl mv mezz o : Ob} {n R : Nat} {rc : Int32} {zz : Ob × Ob} (hA : AsB pl isl mv o n) (eR : rc.toInt = (R : Int)) (hR : R < 4) (h1 : f_X7_setScores st czz isl mv mezz pl rc = some zz) : (∀ pzz, pzz < n → ScV zz.1 (gA o 3) R pzz) ∧ ∀ jzz, (jzz < 7 * R ∨ 7 * R + 7 ≤ jzz) → gA zz.1 5 jzz = gA st 5 jzz := by
  unfold f_X7_setScores at h1
  obtain ⟨lz, kz, h1⟩ := z_bd h1
  obtain ⟨azz, b⟩ := sc_cls (hA.1 lz kz) hA.2.1 hA.2.2.2 eR hR zfu 0 st mezz 0 (by decide) (Nat.zero_le _) h1
  exact ⟨fun pzz hp => azz pzz (Nat.zero_le _) hp, b⟩
set_option maxHeartbeats 200000 in
theorem scr_eq {pl : List CR} {st czz isl mv mezz o o' : Ob} {n R : Nat} {rc : Int32} {zz : Ob × Ob} (hA : AsB pl isl mv o n) (eR : rc.toInt = (R : Int)) (hR : R < 4) (h1 : f_X7_setScores st czz isl mv mezz pl rc = some zz) (h2 : f_X9_layRuns o rc = some o') : ∀ pzz, pzz < n → ScP zz.1 o' (gA o 3) R pzz := by
  unfold f_X9_layRuns at h2
  exact sc_lay (sc_v hA eR hR h1).1 hA.2.2.2 hA.ppl.2 eR zfu 0 o 0 (by decide) (Nat.zero_le _) rfl hA.2.2.1 (fun pzz hp => absurd hp (Nat.not_lt_zero pzz)) h2
def bsm (fzz : Nat → Bool) : Nat → Nat
  | 0 => 0
  | izz + 1 => bsm fzz izz + (if fzz izz = true then 2 ^ izz else 0)
def cntf (fzz : Nat → Bool) : Nat → Nat
  | 0 => 0
  | izz + 1 => cntf fzz izz + (if fzz izz = true then 1 else 0)
set_option maxHeartbeats 200000 in
theorem bsm_lt (fzz : Nat → Bool) : ∀ izz, bsm fzz izz < 2 ^ izz
  | 0 => by show (0 : Nat) < 2 ^ 0; decide
  | izz + 1 => by
    have hzz := bsm_lt fzz izz
    show bsm fzz izz + (if fzz izz = true then 2 ^ izz else 0) < 2 ^ (izz + 1)
    rw [Nat.pow_succ]
    by_cases czz : fzz izz = true
    · rw [if_pos czz]; omega
    · rw [if_neg czz]; omega
set_option maxHeartbeats 200000 in
theorem p2_le {izz : Nat} (hzz : izz ≤ 7) : 2 ^ izz ≤ 128 := Nat.pow_le_pow_right (n := 2) (by decide) hzz
set_option maxHeartbeats 200000 in
theorem bsm_z {fzz : Nat → Bool} : ∀ {n : Nat}, bsm fzz n = 0 → ∀ qzz, qzz < n → fzz qzz = false
  | 0, _, qzz, hq => absurd hq (Nat.not_lt_zero qzz)
  | n + 1, hzz, qzz, hq => by
    have hzz : bsm fzz n + (if fzz n = true then 2 ^ n else 0) = 0 := hzz
    by_cases czz : fzz n = true
    · rw [if_pos czz] at hzz
      have := Nat.two_pow_pos n
      omega
    · by_cases cq : qzz = n
      · rw [cq]; exact Bool.eq_false_iff.mpr czz
      · rw [if_neg czz] at hzz
        exact bsm_z hzz qzz (by omega)
set_option maxHeartbeats 200000 in
theorem bsm_z' {fzz : Nat → Bool} : ∀ {n : Nat}, (∀ qzz, qzz < n → fzz qzz = false) → bsm fzz n = 0
  | 0, _ => rfl
  | n + 1, hzz => by
    show bsm fzz n + (if fzz n = true then 2 ^ n else 0) = 0
    rw [bsm_z' (fun qzz hq => hzz qzz (by omega)), hzz n (by omega)]
    rfl
set_option maxHeartbeats 200000 in
theorem cnt_z {fzz : Nat → Bool} : ∀ {n : Nat}, cntf fzz n = 0 → ∀ qzz, qzz < n → fzz qzz = false
  | 0, _, qzz, hq => absurd hq (Nat.not_lt_zero qzz)
  | n + 1, hzz, qzz, hq => by
    have hzz : cntf fzz n + (if fzz n = true then 1 else 0) = 0 := hzz
    by_cases czz : fzz n = true
    · rw [if_pos czz] at hzz; omega
    · by_cases cq : qzz = n
      · rw [cq]; exact Bool.eq_false_iff.mpr czz
      · rw [if_neg czz] at hzz
        exact cnt_z hzz qzz (by omega)
set_option maxHeartbeats 200000 in
theorem cnt_z' {fzz : Nat → Bool} : ∀ {n : Nat}, (∀ qzz, qzz < n → fzz qzz = false) → cntf fzz n = 0
  | 0, _ => rfl
  | n + 1, hzz => by
    show cntf fzz n + (if fzz n = true then 1 else 0) = 0
    rw [cnt_z' (fun qzz hq => hzz qzz (by omega)), hzz n (by omega)]
    rfl
set_option maxHeartbeats 200000 in
theorem cntf_le (fzz : Nat → Bool) : ∀ n, cntf fzz n ≤ n
  | 0 => Nat.le_refl _
  | n + 1 => by
    have hzz := cntf_le fzz n
    show cntf fzz n + (if fzz n = true then 1 else 0) ≤ n + 1
    by_cases czz : fzz n = true
    · rw [if_pos czz]; omega
    · rw [if_neg czz]; omega
set_option maxHeartbeats 200000 in
theorem or_bit : ∀ izz, izz < 7 → ∀ ezz, ezz < 128 → ezz < 2 ^ izz → (Int32.ofNat ezz) ||| ((1 : Int32) <<< ((Int32.ofNat izz) &&& 31)) = Int32.ofNat (ezz + 2 ^ izz) := by decide +kernel
set_option maxHeartbeats 200000 in
theorem of_z : ∀ ezz, ezz < 128 → Int32.ofNat ezz = 0 → ezz = 0 := by decide +kernel
def ahf (st : Ob) (R Pzz qzz : Nat) : Bool := decide (¬ gA st 5 (7 * R + qzz) = -1 ∧ (gA st 5 (7 * R + Pzz) < gA st 5 (7 * R + qzz) ∨ (gA st 5 (7 * R + qzz) = gA st 5 (7 * R + Pzz) ∧ qzz < Pzz)))
set_option maxHeartbeats 200000 in
theorem ah_lp {st isl : Ob} {pzz rzz zzz : Int32} {n R Pzz : Nat} (e7zz : (gI isl 7).toInt = (n : Int)) (n7 : n ≤ 7) (eP : pzz.toInt = (Pzz : Int)) (eR : rzz.toInt = (R : Int)) (hR : R < 4) : ∀ (Nzz : Nat) (v4zz v5 : Int32) (izz : Nat), v5.toInt = (izz : Int) → izz ≤ n → v4zz = Int32.ofNat (bsm (ahf st R Pzz) izz) → lp_X7_aheadOf_18 st isl Nzz (pzz, rzz, gA st 5 (7 * R + Pzz), v4zz, v5) = some zzz → zzz = Int32.ofNat (bsm (ahf st R Pzz) n) := by
  intro Nzz
  induction Nzz with
  | zero => intro v4zz v5 izz _ _ _ hzz; cases hzz
  | succ Nzz ihzz =>
    intro v4zz v5 izz ezz hizz e4zz hzz
    have hzz : lb_X7_aheadOf_18 st isl (lp_X7_aheadOf_18 st isl Nzz) pzz rzz (gA st 5 (7 * R + Pzz)) v4zz v5 = some zzz := hzz
    unfold lb_X7_aheadOf_18 at hzz
    by_cases c1zz : gI isl 7 ≤ v5
    · have d := cv_le (a := (n : Int)) (b := (izz : Int)) e7zz ezz c1zz
      have ein : izz = n := by omega
      rw [← Option.some.inj (z_t hzz c1zz), e4zz, ein]
    · have d := cv_nle (a := (n : Int)) (b := (izz : Int)) e7zz ezz c1zz
      have e1zz : (v5 + (1 : Int32)).toInt = ((izz + 1 : Nat) : Int) := Eq.trans (i32_add ezz (by decide : (1 : Int32).toInt = 1) (by omega) (by omega)) (by omega)
      have ix : ((rzz * (7 : Int32)) + v5).toNatClampNeg = 7 * R + izz := tnc_eq (by rw [i32_add (i32_mul eR (by decide : (7 : Int32).toInt = 7) (by omega) (by omega)) ezz (by omega) (by omega)]; omega)
      have hzz := (z_gd (z_f hzz c1zz)).2
      rw [ix] at hzz
      obtain ⟨x4zz, g4, hzz⟩ := z_lt hzz
      have no : ahf st R Pzz izz = false → bk_X7_aheadOf_77 st isl (lp_X7_aheadOf_18 st isl Nzz) pzz rzz (gA st 5 (7 * R + Pzz)) v4zz v5 = some zzz → zzz = Int32.ofNat (bsm (ahf st R Pzz) n) := by
        intro hf hzz
        unfold bk_X7_aheadOf_77 at hzz
        obtain ⟨x5zz, g5zz, hzz⟩ := z_lt hzz
        refine ihzz v4zz x5zz (izz + 1) (by rw [g5zz]; exact e1zz) (by omega) ?_ hzz
        rw [e4zz]
        show _ = Int32.ofNat (bsm (ahf st R Pzz) izz + (if ahf st R Pzz izz = true then 2 ^ izz else 0))
        rw [hf]; rfl
      have yes : ahf st R Pzz izz = true → bk_X7_aheadOf_68 st isl (lp_X7_aheadOf_18 st isl Nzz) pzz rzz (gA st 5 (7 * R + Pzz)) v4zz v5 = some zzz → zzz = Int32.ofNat (bsm (ahf st R Pzz) n) := by
        intro hf hzz
        unfold bk_X7_aheadOf_68 bk_X7_aheadOf_77 at hzz
        obtain ⟨x6, g6, hzz⟩ := z_lt hzz
        obtain ⟨x5zz, g5zz, hzz⟩ := z_lt hzz
        refine ihzz x6 x5zz (izz + 1) (by rw [g5zz]; exact e1zz) (by omega) ?_ hzz
        have e5zz : v5 = Int32.ofNat izz := i32_of ezz (by omega)
        have b1 := bsm_lt (ahf st R Pzz) izz
        have b2 := p2_le (show izz ≤ 7 by omega)
        rw [g6, e4zz, e5zz, or_bit izz (by omega) _ (by omega) b1]
        show _ = Int32.ofNat (bsm (ahf st R Pzz) izz + (if ahf st R Pzz izz = true then 2 ^ izz else 0))
        rw [if_pos hf]
      by_cases c2zz : x4zz = -1
      · exact no (decide_eq_false (fun qzz => qzz.1 (g4 ▸ c2zz))) (z_t hzz c2zz)
      · have hzz := z_f hzz c2zz
        by_cases c3zz : gA st 5 (7 * R + Pzz) < x4zz
        · exact yes (decide_eq_true ⟨g4 ▸ c2zz, Or.inl (g4 ▸ c3zz)⟩) (z_t hzz c3zz)
        · have hzz := z_f hzz c3zz
          by_cases c4zz : x4zz = gA st 5 (7 * R + Pzz)
          · have hzz := z_t hzz c4zz
            by_cases c5zz : pzz ≤ v5
            · have d5zz := cv_le (a := (Pzz : Int)) (b := (izz : Int)) eP ezz c5zz
              refine no (decide_eq_false (fun qzz => ?_)) (z_t hzz c5zz)
              rcases qzz.2 with qzz | qzz
              · exact c3zz (g4 ▸ qzz)
              · omega
            · have d5zz := cv_nle (a := (Pzz : Int)) (b := (izz : Int)) eP ezz c5zz
              exact yes (decide_eq_true ⟨g4 ▸ c2zz, Or.inr ⟨g4 ▸ c4zz, by omega⟩⟩) (z_f hzz c5zz)
          · refine no (decide_eq_false (fun qzz => ?_)) (z_f hzz c4zz)
            rcases qzz.2 with qzz | qzz
            · exact c3zz (g4 ▸ qzz)
            · exact c4zz (g4 ▸ qzz.1)
set_option maxHeartbeats 200000 in
theorem ah_eq {st isl : Ob} {pzz rzz zzz : Int32} {n R Pzz : Nat} (e7zz : (gI isl 7).toInt = (n : Int)) (n7 : n ≤ 7) (eP : pzz.toInt = (Pzz : Int)) (hP : Pzz < 7) (eR : rzz.toInt = (R : Int)) (hR : R < 4) (hzz : f_X7_aheadOf st isl pzz rzz = some zzz) : zzz = Int32.ofNat (bsm (ahf st R Pzz) n) := by
  have ix : ((rzz * (7 : Int32)) + pzz).toNatClampNeg = 7 * R + Pzz := tnc_eq (by rw [i32_add (i32_mul eR (by decide : (7 : Int32).toInt = 7) (by omega) (by omega)) eP (by omega) (by omega)]; omega)
  unfold f_X7_aheadOf at hzz
  have hzz := (z_gd hzz).2
  rw [ix] at hzz
  obtain ⟨x2zz, g2, hzz⟩ := z_lt hzz
  rw [g2] at hzz
  exact ah_lp e7zz n7 eP eR hR zfu 0 0 0 (by decide) (Nat.zero_le _) rfl hzz
set_option maxHeartbeats 200000 in
theorem pl_lp {o st : Ob} {Gzz : Nat → Int32} {pzz v2 zzz : Int32} {n R Pzz ezz : Nat} (eP : pzz.toInt = (Pzz : Int)) (n7 : n ≤ 7) (hP : Pzz < n) (en : (gA o 3 0).toInt = (n : Int)) (hSzz : ∀ qzz, qzz < n → ScP st o Gzz R qzz) (hbzz : gA o 44 Pzz = 0) (evzz : v2 = Int32.ofNat ezz) (he : ezz < 128) : ∀ (Nzz : Nat) (v3 v4zz : Int32) (izz : Nat), v4zz.toInt = (izz : Int) → izz ≤ n → v3.toInt = 1 + (cntf (fun qzz => ahf st R Pzz qzz && decide ((ezz / 2 ^ qzz) % 2 = 1)) izz : Int) → lp_X9_placeOf_5 o Nzz (pzz, v2, v3, v4zz) = some zzz → zzz.toInt = 1 + (cntf (fun qzz => ahf st R Pzz qzz && decide ((ezz / 2 ^ qzz) % 2 = 1)) n : Int) := by
  have n0zz : (0 : Int32).toNatClampNeg = 0 := by decide
  have iP : pzz.toNatClampNeg = Pzz := tnc_eq eP
  have sP : gA st 5 (7 * R + Pzz) = gA o 41 Pzz := by
    rcases hSzz Pzz hP with ⟨-, qzz, -⟩ | ⟨qzz, -, -⟩
    · exact qzz
    · rw [hbzz] at qzz; exact absurd qzz (by decide)
  intro Nzz
  induction Nzz with
  | zero => intro v3 v4zz izz _ _ _ hzz; cases hzz
  | succ Nzz ihzz =>
    intro v3 v4zz izz e4zz hizz e3zz hzz
    have hzz : lb_X9_placeOf_5 o (lp_X9_placeOf_5 o Nzz) pzz v2 v3 v4zz = some zzz := hzz
    unfold lb_X9_placeOf_5 at hzz
    rw [n0zz] at hzz
    by_cases c1zz : gA o 3 0 ≤ v4zz
    · have d := cv_le (a := (n : Int)) (b := (izz : Int)) en e4zz c1zz
      have ein : izz = n := by omega
      rw [← Option.some.inj (z_t hzz c1zz), e3zz, ein]
    · have d := cv_nle (a := (n : Int)) (b := (izz : Int)) en e4zz c1zz
      have ii : v4zz.toNatClampNeg = izz := tnc_eq e4zz
      have e1zz : (v4zz + (1 : Int32)).toInt = ((izz + 1 : Nat) : Int) := Eq.trans (i32_add e4zz (by decide : (1 : Int32).toInt = 1) (by omega) (by omega)) (by omega)
      have hzz := z_f hzz c1zz
      rw [ii, iP] at hzz
      have cl := cntf_le (fun qzz => ahf st R Pzz qzz && decide ((ezz / 2 ^ qzz) % 2 = 1)) izz
      have no : (ahf st R Pzz izz && decide ((ezz / 2 ^ izz) % 2 = 1)) = false → bk_X9_placeOf_84 o (lp_X9_placeOf_5 o Nzz) pzz v2 v4zz v3 = some zzz → zzz.toInt = 1 + (cntf (fun qzz => ahf st R Pzz qzz && decide ((ezz / 2 ^ qzz) % 2 = 1)) n : Int) := by
        intro hf hzz
        unfold bk_X9_placeOf_84 bk_X9_placeOf_85 at hzz
        obtain ⟨x1zz, g1, hzz⟩ := z_lt hzz
        obtain ⟨x2zz, g2, hzz⟩ := z_lt hzz
        refine ihzz x1zz x2zz (izz + 1) (by rw [g2]; exact e1zz) (by omega) ?_ hzz
        rw [g1, Int32.add_zero, e3zz]
        show _ = 1 + ((cntf (fun qzz => ahf st R Pzz qzz && decide ((ezz / 2 ^ qzz) % 2 = 1)) izz + (if (ahf st R Pzz izz && decide ((ezz / 2 ^ izz) % 2 = 1)) = true then 1 else 0) : Nat) : Int)
        rw [hf]; rfl
      have yes : (ahf st R Pzz izz && decide ((ezz / 2 ^ izz) % 2 = 1)) = true → bk_X9_placeOf_80 o (lp_X9_placeOf_5 o Nzz) pzz v2 v4zz v3 = some zzz → zzz.toInt = 1 + (cntf (fun qzz => ahf st R Pzz qzz && decide ((ezz / 2 ^ qzz) % 2 = 1)) n : Int) := by
        intro hf hzz
        unfold bk_X9_placeOf_80 bk_X9_placeOf_85 at hzz
        obtain ⟨x1zz, g1, hzz⟩ := z_lt hzz
        obtain ⟨x2zz, g2, hzz⟩ := z_lt hzz
        refine ihzz x1zz x2zz (izz + 1) (by rw [g2]; exact e1zz) (by omega) ?_ hzz
        rw [g1, i32_add e3zz (by decide : (1 : Int32).toInt = 1) (by omega) (by omega)]
        show _ = 1 + ((cntf (fun qzz => ahf st R Pzz qzz && decide ((ezz / 2 ^ qzz) % 2 = 1)) izz + (if (ahf st R Pzz izz && decide ((ezz / 2 ^ izz) % 2 = 1)) = true then 1 else 0) : Nat) : Int)
        rw [if_pos hf]; omega
      have nfzz : ahf st R Pzz izz = false → (ahf st R Pzz izz && decide ((ezz / 2 ^ izz) % 2 = 1)) = false := fun qzz => by rw [qzz]; rfl
      by_cases c2zz : v4zz = pzz
      · have ei : izz = Pzz := by
          have qzz := cv_eq (a := (izz : Int)) (b := (Pzz : Int)) e4zz eP c2zz
          omega
        refine no (nfzz (decide_eq_false (fun qzz => ?_))) (z_t hzz c2zz)
        rw [ei] at qzz
        rcases qzz.2 with qzz | qzz
        · exact Int32.lt_irrefl qzz
        · omega
      · have hzz := z_f hzz c2zz
        obtain ⟨w3zz, l3, hzz⟩ := z_bd hzz
        unfold f_X9_is at l3
        have e5zz : v4zz = Int32.ofNat izz := i32_of e4zz (by omega)
        have bb := bit_all ezz he izz (by omega)
        rw [← evzz, ← e5zz] at bb
        by_cases cb : ((v2 >>> (v4zz &&& 31)) &&& (1 : Int32)) = (1 : Int32)
        · have w30 : ¬ w3zz = 0 := by rw [← Option.some.inj (z_t l3 cb)]; decide
          have b1 : (ezz / 2 ^ izz) % 2 = 1 := by
            rw [cb, (by decide : (1 : Int32).toInt = 1)] at bb
            omega
          have hzz := (z_gd (z_f hzz w30)).2
          rcases hSzz izz (by omega) with ⟨s1zz, s2zz, s3zz, s4zz⟩ | ⟨s1zz, s2zz, -⟩
          · have hzz := (z_gd (z_gd (z_t hzz s1zz)).2).2
            have ne : ¬ gA st 5 (7 * R + izz) = -1 := fun qzz => by
              rw [← s2zz, qzz, (by decide : (-1 : Int32).toInt = -1)] at s3zz; omega
            by_cases c3zz : gA o 41 Pzz < gA o 41 izz
            · have t : ahf st R Pzz izz = true := decide_eq_true ⟨ne, Or.inl (by rw [sP, s2zz]; exact c3zz)⟩
              exact yes (by rw [t, decide_eq_true b1]; rfl) (z_t hzz c3zz)
            · have hzz := (z_gd (z_gd (z_f hzz c3zz)).2).2
              by_cases c4zz : gA o 41 izz = gA o 41 Pzz
              · have hzz := z_t hzz c4zz
                by_cases c5zz : pzz ≤ v4zz
                · have d5zz := cv_le (a := (Pzz : Int)) (b := (izz : Int)) eP e4zz c5zz
                  refine no (nfzz (decide_eq_false (fun qzz => ?_))) (z_t hzz c5zz)
                  rcases qzz.2 with qzz | qzz
                  · rw [sP, s2zz] at qzz; exact c3zz qzz
                  · omega
                · have d5zz := cv_nle (a := (Pzz : Int)) (b := (izz : Int)) eP e4zz c5zz
                  have t : ahf st R Pzz izz = true := decide_eq_true ⟨ne, Or.inr ⟨by rw [sP, s2zz]; exact c4zz, by omega⟩⟩
                  exact yes (by rw [t, decide_eq_true b1]; rfl) (z_f hzz c5zz)
              · refine no (nfzz (decide_eq_false (fun qzz => ?_))) (z_f hzz c4zz)
                rcases qzz.2 with qzz | qzz
                · rw [sP, s2zz] at qzz; exact c3zz qzz
                · rw [sP, s2zz] at qzz; exact c4zz qzz.1
          · have nb : ¬ gA o 44 izz = 0 := by rw [s1zz]; decide
            exact no (nfzz (decide_eq_false (fun qzz => qzz.1 s2zz))) (z_f hzz nb)
        · have w30 : w3zz = 0 := (Option.some.inj (z_f l3 cb)).symm
          have b0 : ¬ (ezz / 2 ^ izz) % 2 = 1 := fun qzz => cb (Int32.toInt_inj.mp (by rw [bb, qzz]; decide))
          refine no ?_ (z_t hzz w30)
          rw [decide_eq_false b0, Bool.and_false]
set_option maxHeartbeats 200000 in
theorem pl_eq {o st : Ob} {Gzz : Nat → Int32} {pzz v2 zzz : Int32} {n R Pzz ezz : Nat} (eP : pzz.toInt = (Pzz : Int)) (n7 : n ≤ 7) (hP : Pzz < n) (en : (gA o 3 0).toInt = (n : Int)) (hSzz : ∀ qzz, qzz < n → ScP st o Gzz R qzz) (hbzz : gA o 44 Pzz = 0) (evzz : v2 = Int32.ofNat ezz) (he : ezz < 128) (hzz : f_X9_placeOf o pzz v2 = some zzz) : zzz.toInt = 1 + (cntf (fun qzz => ahf st R Pzz qzz && decide ((ezz / 2 ^ qzz) % 2 = 1)) n : Int) := by
  unfold f_X9_placeOf at hzz
  exact pl_lp eP n7 hP en hSzz hbzz evzz he zfu 1 0 0 (by decide) (Nat.zero_le _) (by show (1 : Int32).toInt = 1 + ((0 : Nat) : Int); decide) hzz
set_option maxHeartbeats 200000 in
theorem b127 : ∀ qzz, qzz < 7 → (127 / 2 ^ qzz) % 2 = 1 := by decide
set_option maxHeartbeats 200000 in
theorem nv_in {pl : List CR} {czz isl mv st mezz o : Ob} {rec14 : Int32 × Int32 × Ob × Ob → Option (Int32 × Ob × Ob)} {rec18 : Int32 × Int32 × Ob → Option (Int32 × Ob)} {Gzz : Nat → Int32} {v2 : Int32} {n R : Nat} {yzz : Int32 × Ob × Ob} {y' : Int32 × Ob} {Qzz : Prop} (e7zz : gI isl 7 = gA o 3 0) (n7 : n ≤ 7) (en : (gA o 3 0).toInt = (n : Int)) (eR : v2.toInt = (R : Int)) (hR : R < 4) (hSzz : ∀ qzz, qzz < n → ScP st o Gzz R qzz)
    (hrec : ∀ (xzz v1zz : Int32), xzz = v2 + 1 → rec14 (v1zz, xzz, st, mezz) = some yzz → rec18 (v1zz, xzz, o) = some y' → Qzz) : ∀ (Nzz N' : Nat) (v1zz v3 : Int32) (izz : Nat), v3.toInt = (izz : Int) → izz ≤ n → lp_X7_neverSecond_26 czz isl mv pl rec14 Nzz (v1zz, v2, v3, st, mezz) = some yzz → lp_X9_never_30 rec18 N' (v1zz, v2, v3, o) = some y' → Qzz := by
  have n0zz : (0 : Int32).toNatClampNeg = 0 := by decide
  intro Nzz
  induction Nzz with
  | zero => intro N' v1zz v3 izz _ _ hzz; cases hzz
  | succ Nzz ihzz =>
    intro N' v1zz v3 izz ezz hizz h1 h2
    cases N' with
    | zero => cases h2
    | succ N' =>
    have h1 : lb_X7_neverSecond_26 czz isl mv pl rec14 (lp_X7_neverSecond_26 czz isl mv pl rec14 Nzz) v1zz v2 v3 st mezz = some yzz := h1
    have h2 : lb_X9_never_30 rec18 (lp_X9_never_30 rec18 N') v1zz v2 v3 o = some y' := h2
    unfold lb_X7_neverSecond_26 at h1
    unfold lb_X9_never_30 at h2
    rw [n0zz] at h2
    rw [e7zz] at h1
    by_cases c1zz : gA o 3 0 ≤ v3
    · obtain ⟨x3, g3zz, h1⟩ := z_lt (z_t h1 c1zz)
      obtain ⟨x4zz, g4, h2⟩ := z_lt (z_t h2 c1zz)
      have exzz : x4zz = x3 := g4.trans g3zz.symm
      rw [exzz] at h2
      exact hrec x3 v1zz g3zz h1 h2
    · have d := cv_nle (a := (n : Int)) (b := (izz : Int)) en ezz c1zz
      have ii : v3.toNatClampNeg = izz := tnc_eq ezz
      have e1zz : (v3 + (1 : Int32)).toInt = ((izz + 1 : Nat) : Int) := Eq.trans (i32_add ezz (by decide : (1 : Int32).toInt = 1) (by omega) (by omega)) (by omega)
      have ix : ((v2 * (7 : Int32)) + v3).toNatClampNeg = 7 * R + izz := tnc_eq (by rw [i32_add (i32_mul eR (by decide : (7 : Int32).toInt = 7) (by omega) (by omega)) ezz (by omega) (by omega)]; omega)
      have h1 := (z_gd (z_f h1 c1zz)).2
      have h2 := (z_gd (z_f h2 c1zz)).2
      rw [ix] at h1
      rw [ii] at h2
      have skip : bk_X7_neverSecond_69 czz isl mv pl rec14 (lp_X7_neverSecond_26 czz isl mv pl rec14 Nzz) v1zz v2 v3 st mezz = some yzz → bk_X9_never_61 rec18 (lp_X9_never_30 rec18 N') v2 v3 v1zz o = some y' → Qzz := by
        intro h1 h2
        unfold bk_X7_neverSecond_69 at h1
        unfold bk_X9_never_61 bk_X9_never_70 at h2
        obtain ⟨x5zz, g5zz, h1⟩ := z_lt h1
        obtain ⟨x6, g6, h2⟩ := z_lt h2
        obtain ⟨x7, g7, h2⟩ := z_lt h2
        have exzz : x7 = x5zz := g7.trans g5zz.symm
        have evzz : x6 = v1zz := by rw [g6, Int32.and_neg_one]
        rw [exzz, evzz] at h2
        exact ihzz N' v1zz x5zz (izz + 1) (by rw [g5zz]; exact e1zz) (by omega) h1 h2
      rcases hSzz izz (by omega) with ⟨s1zz, s2zz, s3zz, s4zz⟩ | ⟨s1zz, s2zz, -⟩
      · have ne : ¬ gA st 5 (7 * R + izz) = -1 := fun qzz => by
          rw [← s2zz, qzz, (by decide : (-1 : Int32).toInt = -1)] at s3zz; omega
        obtain ⟨z6, k6zz, h1⟩ := z_bd (z_f h1 ne)
        obtain ⟨w8, l8, h2⟩ := z_bd (z_t h2 s1zz)
        have za := ah_eq (by rw [e7zz]; exact en) n7 ezz (by omega) eR hR k6zz
        have wp := pl_eq (ezz := 127) ezz n7 (by omega) en hSzz s1zz rfl (by decide) l8
        have bl := bsm_lt (ahf st R izz) n
        have b2 := p2_le n7
        by_cases cz : z6 = 0
        · have bz := of_z _ (by omega) (za.symm.trans cz)
          have cz' : cntf (fun qzz => ahf st R izz qzz && decide ((127 / 2 ^ qzz) % 2 = 1)) n = 0 := cnt_z' (fun qzz hq => by rw [bsm_z bz qzz hq]; rfl)
          rw [cz'] at wp
          have w81 : w8 = 1 := Int32.toInt_inj.mp (by rw [wp]; decide)
          exact skip (z_t h1 cz) (z_t h2 w81)
        · have w81 : ¬ w8 = 1 := fun qzz => by
            rw [qzz, (by decide : (1 : Int32).toInt = 1)] at wp
            have c0zz : cntf (fun qzz => ahf st R izz qzz && decide ((127 / 2 ^ qzz) % 2 = 1)) n = 0 := by omega
            have bz : bsm (ahf st R izz) n = 0 := bsm_z' (fun qzz hq => by
              have uzz := cnt_z c0zz qzz hq
              rw [decide_eq_true (b127 qzz (by omega)), Bool.and_true] at uzz
              exact uzz)
            rw [bz] at za
            exact cz za
          obtain ⟨x7, g7, h1⟩ := z_lt (z_f h1 cz)
          have h2 := z_f h2 w81
          unfold bk_X7_neverSecond_69 at h1
          unfold bk_X9_never_70 at h2
          obtain ⟨x5zz, g5zz, h1⟩ := z_lt h1
          obtain ⟨x6, g6, h2⟩ := z_lt h2
          obtain ⟨x8, g8, h2⟩ := z_lt h2
          have exzz : x8 = x5zz := g8.trans g5zz.symm
          have evzz : x6 = x7 := g6.trans g7.symm
          rw [exzz, evzz] at h2
          exact ihzz N' x7 x5zz (izz + 1) (by rw [g5zz]; exact e1zz) (by omega) h1 h2
      · have nb : ¬ gA o 44 izz = 0 := by rw [s1zz]; decide
        exact skip (z_t h1 s2zz) (z_f h2 nb)
set_option maxHeartbeats 200000 in
theorem nv_out {pl : List CR} {czz isl mv : Ob} {n : Nat} {yzz : Int32 × Ob × Ob} {y' : Int32 × Ob} : ∀ (Nzz N' : Nat) (v1zz v2 : Int32) (st mezz o : Ob) (izz : Nat), v2.toInt = (izz : Int) → izz ≤ 4 → AsB pl isl mv o n → lp_X7_neverSecond_14 czz isl mv pl Nzz (v1zz, v2, st, mezz) = some yzz → lp_X9_never_18 N' (v1zz, v2, o) = some y' → yzz.1 = y'.1 := by
  intro Nzz
  induction Nzz with
  | zero => intro N' v1zz v2 st mezz o izz _ _ _ hzz; cases hzz
  | succ Nzz ihzz =>
    intro N' v1zz v2 st mezz o izz ezz hizz hA h1 h2
    cases N' with
    | zero => cases h2
    | succ N' =>
    have h1 : lb_X7_neverSecond_14 czz isl mv pl (lp_X7_neverSecond_14 czz isl mv pl Nzz) v1zz v2 st mezz = some yzz := h1
    have h2 : lb_X9_never_18 (lp_X9_never_18 N') v1zz v2 o = some y' := h2
    unfold lb_X7_neverSecond_14 at h1
    unfold lb_X9_never_18 at h2
    by_cases c1zz : (4 : Int32) ≤ v2
    · rw [← Option.some.inj (z_t h1 c1zz), ← Option.some.inj (z_t h2 c1zz)]
    · have d := cv_nle (a := 4) (b := (izz : Int)) (by decide) ezz c1zz
      have e1zz : (v2 + (1 : Int32)).toInt = ((izz + 1 : Nat) : Int) := Eq.trans (i32_add ezz (by decide : (1 : Int32).toInt = 1) (by omega) (by omega)) (by omega)
      obtain ⟨z2, k2zz, h1⟩ := z_bd (z_f h1 c1zz)
      obtain ⟨w3zz, l3, h2⟩ := z_bd (z_f h2 c1zz)
      have hSzz := scr_eq hA ezz (by omega) k2zz l3
      have flzz := fr_f_X9_layRuns l3
      have hA' : AsB pl isl mv w3zz n := hA.eq (flzz.A 3 rfl) (flzz.I 20 rfl)
      have pp := hA'.ppl
      exact nv_in pp.1 pp.2 hA'.2.2.2 ezz (by omega) hSzz (fun xzz vzz hx h1 h2 => ihzz N' vzz xzz z2.1 z2.2 w3zz (izz + 1) (by rw [hx]; exact e1zz) (by omega) hA' h1 h2) zfu zfu v1zz 0 0 (by decide) (Nat.zero_le _) h1 h2
set_option maxHeartbeats 200000 in
theorem tf_never {pl : List CR} {o0zz o1 mezz o4zz o5zz czz st o8zz o6 o11 o9 : Ob} {im0 im1 : Option IR} {yzz : Int32 × Ob × Ob} {y' : Int32 × Ob} (ht : TF pl o0zz o1 o4zz o5zz o8zz o6 o11 o9 im0 im1) (h20 : gI o9 20 = 0) (h1 : f_X8_never o0zz mezz o4zz o5zz czz st pl = some yzz) (h2 : f_X9_never o9 = some y') : yzz.1 = y'.1 := by
  have n0zz : (0 : Int32).toNatClampNeg = 0 := by decide
  unfold f_X8_never at h1
  unfold f_X9_never at h2
  rw [n0zz] at h2
  obtain ⟨q1zz, g1, h2⟩ := z_lt h2
  have ht1 : TF pl o0zz o1 o4zz o5zz o8zz o6 o11 q1zz im0 im1 := by rw [g1]; exact ht.sI0
  have hA := (ht1.s (by rw [g1]; exact h20)).asb
  obtain ⟨x2zz, g2, h2⟩ := z_lt h2
  obtain ⟨z1, k1zz, h1⟩ := z_bd h1
  rw [← Option.some.inj h1]
  unfold f_X7_neverSecond at k1zz
  obtain ⟨x1zz, f1zz, k1zz⟩ := z_lt k1zz
  have exzz : x2zz = x1zz := by rw [g2, f1zz, hA.ppl.1]
  rw [exzz] at h2
  show z1.1 = y'.1
  exact nv_out zfu zfu x1zz 0 st mezz q1zz 0 (by decide) (Nat.zero_le _) hA k1zz h2
def pc7 (xzz : Nat) : Nat := pop7 xzz
set_option maxHeartbeats 200000 in
theorem cnt_tail {fzz : Nat → Bool} {n : Nat} : ∀ mzz, (∀ qzz, n ≤ qzz → qzz < n + mzz → fzz qzz = false) → cntf fzz (n + mzz) = cntf fzz n
  | 0, _ => rfl
  | mzz + 1, hzz => by
    show cntf fzz (n + mzz) + (if fzz (n + mzz) = true then 1 else 0) = cntf fzz n
    rw [cnt_tail mzz (fun qzz azz b => hzz qzz azz (by omega)), hzz (n + mzz) (by omega) (by omega)]
    rfl
set_option maxHeartbeats 200000 in
theorem cnt_cg {fzz gzz : Nat → Bool} : ∀ n, (∀ qzz, qzz < n → fzz qzz = gzz qzz) → cntf fzz n = cntf gzz n
  | 0, _ => rfl
  | n + 1, hzz => by
    show cntf fzz n + (if fzz n = true then 1 else 0) = cntf gzz n + (if gzz n = true then 1 else 0)
    rw [cnt_cg n (fun qzz azz => hzz qzz (by omega)), hzz n (by omega)]
set_option maxHeartbeats 200000 in
theorem cnt_bits {azz ezz s : Nat → Bool} : ∀ n, cntf (fun qzz => azz qzz && (ezz qzz ^^ s qzz)) n + cntf (fun qzz => (azz qzz && ezz qzz) && s qzz) n = cntf (fun qzz => azz qzz && ezz qzz) n + cntf (fun qzz => (azz qzz && (true ^^ ezz qzz)) && s qzz) n
  | 0 => rfl
  | n + 1 => by
    have hzz := cnt_bits (azz := azz) (ezz := ezz) (s := s) n
    show (cntf (fun qzz => azz qzz && (ezz qzz ^^ s qzz)) n + (if (azz n && (ezz n ^^ s n)) = true then 1 else 0)) + (cntf (fun qzz => (azz qzz && ezz qzz) && s qzz) n + (if ((azz n && ezz n) && s n) = true then 1 else 0)) = (cntf (fun qzz => azz qzz && ezz qzz) n + (if (azz n && ezz n) = true then 1 else 0)) + (cntf (fun qzz => (azz qzz && (true ^^ ezz qzz)) && s qzz) n + (if ((azz n && (true ^^ ezz n)) && s n) = true then 1 else 0))
    have kzz : (if (azz n && (ezz n ^^ s n)) = true then 1 else 0) + (if ((azz n && ezz n) && s n) = true then 1 else 0) = (if (azz n && ezz n) = true then 1 else 0) + (if ((azz n && (true ^^ ezz n)) && s n) = true then 1 else 0) := by
      cases azz n <;> cases ezz n <;> cases s n <;> rfl
    omega
set_option maxHeartbeats 200000 in
theorem c7_cnt : ∀ xzz, xzz < 128 → pc7 xzz = cntf (fun qzz => xzz.testBit qzz) 7 := by decide +kernel
set_option maxHeartbeats 200000 in
theorem ones_all : ∀ ezz, ezz < 128 → f_X9_ones (Int32.ofNat ezz) = some (Int32.ofNat (pc7 ezz)) := by decide +kernel
set_option maxHeartbeats 200000 in
theorem and_all : ∀ azz, azz < 128 → ∀ b, b < 128 → (Int32.ofNat azz) &&& (Int32.ofNat b) = Int32.ofNat (azz &&& b) := by decide +kernel
set_option maxHeartbeats 200000 in
theorem andn_all : ∀ azz, azz < 128 → ∀ b, b < 128 → (Int32.ofNat azz) &&& ((Int32.ofNat b) ^^^ (-1 : Int32)) = Int32.ofNat (azz &&& (127 ^^^ b)) := by decide +kernel
set_option maxHeartbeats 200000 in
theorem xor_all : ∀ azz, azz < 128 → ∀ b, b < 128 → (Int32.ofNat azz) ^^^ (Int32.ofNat b) = Int32.ofNat (azz ^^^ b) := by decide +kernel
set_option maxHeartbeats 200000 in
theorem is_all : ∀ ezz, ezz < 128 → ∀ qzz, qzz < 7 → f_X9_is (Int32.ofNat ezz) (Int32.ofNat qzz) = some (if ezz.testBit qzz = true then 1 else 0) := by decide +kernel
set_option maxHeartbeats 200000 in
theorem shl_all : ∀ n, n < 8 → (1 : Int32) <<< ((Int32.ofNat n) &&& 31) = Int32.ofNat (2 ^ n) := by decide +kernel
set_option maxHeartbeats 200000 in
theorem shl_z : ∀ n, n < 8 → (0 : Int32) <<< ((Int32.ofNat n) &&& 31) = 0 := by decide +kernel
def lwa (Bzz : Nat) : List Nat → Nat → Nat
  | [], _ => 0
  | wzz :: wszz, d => if d = 0 then 0 else if (Bzz / wzz) % 2 = 1 then wzz + lwa Bzz wszz (d - 1) else lwa Bzz wszz d
def lwf (Bzz d : Nat) : Nat := lwa Bzz [1, 2, 4, 8, 16, 32, 64] d
set_option maxHeartbeats 200000 in
theorem low_all : ∀ Bzz, Bzz < 128 → ∀ d, d < 8 → f_X7_lowestBits (Int32.ofNat Bzz) (Int32.ofNat d) = some (if pc7 Bzz < d then -1 else Int32.ofNat (lwf Bzz d)) := by decide +kernel
set_option maxHeartbeats 200000 in
theorem lw_ok : ∀ Bzz, Bzz < 128 → ∀ d, d < 8 → d ≤ pc7 Bzz → pc7 (lwf Bzz d) = d ∧ lwf Bzz d &&& Bzz = lwf Bzz d := by decide +kernel
set_option maxHeartbeats 200000 in
theorem lw_min : ∀ Bzz, Bzz < 128 → ∀ Uzz, Uzz < 128 → Uzz &&& Bzz = Uzz → lwf Bzz (pc7 Uzz) ≤ Uzz := by decide +kernel
set_option maxHeartbeats 200000 in
theorem ss_all : ∀ Xzz, Xzz < 128 → ∀ Szz, Szz < 128 → pc7 (Xzz &&& Szz) ≤ pc7 Szz ∧ pc7 (Xzz &&& Szz) ≤ pc7 Xzz ∧ (pc7 (Xzz &&& Szz) = pc7 Szz → Szz &&& Xzz = Szz) ∧ pc7 Szz ≤ 7 := by decide +kernel
set_option maxHeartbeats 200000 in
theorem bsm_tb {fzz : Nat → Bool} : ∀ n qzz, (bsm fzz n).testBit qzz = (decide (qzz < n) && fzz qzz)
  | 0, qzz => by
    show (0 : Nat).testBit qzz = _
    rw [Nat.zero_testBit, decide_eq_false (Nat.not_lt_zero qzz)]; rfl
  | n + 1, qzz => by
    have hzz := bsm_tb (fzz := fzz) n qzz
    have hl := bsm_lt fzz n
    show (bsm fzz n + (if fzz n = true then 2 ^ n else 0)).testBit qzz = _
    by_cases czz : fzz n = true
    · rw [if_pos czz, Nat.add_comm]
      by_cases c1zz : qzz = n
      · rw [c1zz, Nat.testBit_two_pow_add_eq, Nat.testBit_lt_two_pow hl, decide_eq_true (Nat.lt_succ_self n), czz]; rfl
      · by_cases c2zz : qzz < n
        · rw [Nat.testBit_two_pow_add_gt c2zz, hzz, decide_eq_true c2zz, decide_eq_true (show qzz < n + 1 by omega)]
        · have hbzz : 2 ^ n + bsm fzz n < 2 ^ qzz := by
            have h1 : 2 ^ (n + 1) ≤ 2 ^ qzz := Nat.pow_le_pow_right (by decide) (by omega)
            rw [Nat.pow_succ] at h1
            omega
          rw [Nat.testBit_lt_two_pow hbzz, decide_eq_false (show ¬ qzz < n + 1 by omega)]; rfl
    · rw [if_neg czz, Nat.add_zero, hzz]
      by_cases c1zz : qzz = n
      · rw [c1zz, Bool.eq_false_iff.mpr czz, Bool.and_false, Bool.and_false]
      · by_cases c2zz : qzz < n
        · rw [decide_eq_true c2zz, decide_eq_true (show qzz < n + 1 by omega)]
        · rw [decide_eq_false c2zz, decide_eq_false (show ¬ qzz < n + 1 by omega)]
def GoodS (st : Ob) (R Pzz n Ezz : Nat) (pl : Int) (Szz : Nat) : Prop := Szz.testBit Pzz = false ∧ 1 + (cntf (fun qzz => ahf st R Pzz qzz && (Ezz ^^^ Szz).testBit qzz) n : Int) = pl
def Bst (st : Ob) (R Pzz n Ezz : Nat) (pl : Int) (izz : Nat) (v7 v6 : Int32) : Prop :=
  (v7 = -1 ∧ v6 = 100000000 ∧ ∀ Szz, Szz < izz → ¬ GoodS st R Pzz n Ezz pl Szz) ∨ (∃ s, s < izz ∧ GoodS st R Pzz n Ezz pl s ∧ v7 = Int32.ofNat s ∧ v6 = Int32.ofNat (pc7 s) ∧ ∀ Szz, Szz < izz → GoodS st R Pzz n Ezz pl Szz → pc7 s < pc7 Szz ∨ (pc7 s = pc7 Szz ∧ s ≤ Szz))
set_option maxHeartbeats 200000 in
theorem ofn {ezz : Nat} (hzz : ezz < 2147483648) : (Int32.ofNat ezz).toInt = (ezz : Int) := Int32.toInt_ofNat_of_lt hzz
set_option maxHeartbeats 200000 in
theorem c7_le {xzz : Nat} (hzz : xzz < 128) : pc7 xzz ≤ 7 := (ss_all 0 (by decide) xzz hzz).2.2.2
set_option maxHeartbeats 200000 in
theorem be_lp {st o : Ob} {Gzz : Nat → Int32} {pzz pl v5 : Int32} {wh : Int32} {n R Pzz Ezz : Nat} {y' : Int32 × Ob} (eP : pzz.toInt = (Pzz : Int)) (n7 : n ≤ 7) (hP : Pzz < n) (en : (gA o 3 0).toInt = (n : Int)) (hSzz : ∀ qzz, qzz < n → ScP st o Gzz R qzz) (hbzz : gA o 44 Pzz = 0) (e5zz : v5 = Int32.ofNat Ezz) (hE : Ezz < 2 ^ n) :
    ∀ (Nzz : Nat) (v6 v7 v8 : Int32) (izz : Nat), v8.toInt = (izz : Int) → izz ≤ 2 ^ n → Bst st R Pzz n Ezz pl.toInt izz v7 v6 → lp_X9_be_76 Nzz (pzz, pl, wh, v5, v6, v7, v8, o) = some y' → ∃ azz b : Int32, Bst st R Pzz n Ezz pl.toInt (2 ^ n) azz b ∧ y'.1 = if azz = -1 ∨ wh = 1 then azz else b := by
  have n0zz : (0 : Int32).toNatClampNeg = 0 := by decide
  have p2zz := p2_le n7
  intro Nzz
  induction Nzz with
  | zero => intro v6 v7 v8 izz _ _ _ hzz; cases hzz
  | succ Nzz ihzz =>
    intro v6 v7 v8 izz e8 hizz hBzz hzz
    have hzz : lb_X9_be_76 (lp_X9_be_76 Nzz) pzz pl wh v5 v6 v7 v8 o = some y' := hzz
    unfold lb_X9_be_76 at hzz
    rw [n0zz] at hzz
    have esh : (1 : Int32) <<< ((gA o 3 0) &&& 31) = Int32.ofNat (2 ^ n) := by rw [i32_of en (by omega)]; exact shl_all n (by omega)
    rw [esh] at hzz
    have tsh : (Int32.ofNat (2 ^ n)).toInt = ((2 ^ n : Nat) : Int) := ofn (by omega)
    by_cases c1zz : Int32.ofNat (2 ^ n) ≤ v8
    · have d := cv_le (a := ((2 ^ n : Nat) : Int)) (b := (izz : Int)) tsh e8 c1zz
      have ei : izz = 2 ^ n := by omega
      rw [ei] at hBzz
      refine ⟨v7, v6, hBzz, ?_⟩
      have hzz := z_t hzz c1zz
      unfold bk_X9_be_178 at hzz
      by_cases c2zz : v7 = -1
      · rw [← Option.some.inj (z_t hzz c2zz), if_pos (Or.inl c2zz)]
      · have hzz := z_f hzz c2zz
        by_cases c3zz : wh = 1
        · rw [← Option.some.inj (z_t hzz c3zz), if_pos (Or.inr c3zz)]
        · rw [← Option.some.inj (z_f hzz c3zz), if_neg (fun qzz => qzz.elim c2zz c3zz)]
    · have d := cv_nle (a := ((2 ^ n : Nat) : Int)) (b := (izz : Int)) tsh e8 c1zz
      have hi2 : izz < 2 ^ n := by omega
      have hzz := z_f hzz c1zz
      have e8' : v8 = Int32.ofNat izz := i32_of e8 (by omega)
      have eP' : pzz = Int32.ofNat Pzz := i32_of eP (by omega)
      have e1zz : (v8 + (1 : Int32)).toInt = ((izz + 1 : Nat) : Int) := Eq.trans (i32_add e8 (by decide : (1 : Int32).toInt = 1) (by omega) (by omega)) (by omega)
      have onzz := ones_all izz (by omega)
      rw [← e8'] at onzz
      have ti : (Int32.ofNat (pc7 izz)).toInt = (pc7 izz : Int) := ofn (by have := c7_le (show izz < 128 by omega); omega)
      have no : (GoodS st R Pzz n Ezz pl.toInt izz → ∃ s, s < izz ∧ GoodS st R Pzz n Ezz pl.toInt s ∧ v7 = Int32.ofNat s ∧ v6 = Int32.ofNat (pc7 s) ∧ pc7 s ≤ pc7 izz) → bk_X9_be_126 (lp_X9_be_76 Nzz) pzz pl wh v5 v6 v7 v8 o = some y' → ∃ azz b : Int32, Bst st R Pzz n Ezz pl.toInt (2 ^ n) azz b ∧ y'.1 = if azz = -1 ∨ wh = 1 then azz else b := by
        intro hg hzz
        unfold bk_X9_be_126 bk_X9_be_127 at hzz
        have hzz := z_t hzz rfl
        unfold bk_X9_be_141 at hzz
        have hzz := z_t hzz rfl
        unfold bk_X9_be_158 at hzz
        obtain ⟨x10, g10, hzz⟩ := z_lt hzz
        refine ihzz v6 v7 x10 (izz + 1) (by rw [g10]; exact e1zz) (by omega) ?_ hzz
        rcases hBzz with ⟨b1, b2, b3⟩ | ⟨s, b1, b2, b3, b4, b5⟩
        · refine Or.inl ⟨b1, b2, fun Szz hS' hG => ?_⟩
          by_cases cs : Szz = izz
          · rw [cs] at hG
            obtain ⟨s, s1zz, s2zz, -⟩ := hg hG
            exact b3 s s1zz s2zz
          · exact b3 Szz (by omega) hG
        · refine Or.inr ⟨s, by omega, b2, b3, b4, fun Szz hS' hG => ?_⟩
          by_cases cs : Szz = izz
          · rw [cs] at hG ⊢
            obtain ⟨s', s1zz, s2zz, s3zz, s4zz, s5⟩ := hg hG
            have es : s = s' := by
              have qzz : (Int32.ofNat s).toInt = (Int32.ofNat s').toInt := by rw [← b3, ← s3zz]
              rw [ofn (by omega), ofn (by omega)] at qzz
              omega
            rw [es]
            omega
          · exact b5 Szz (by omega) hG
      obtain ⟨w9, l9, hzz⟩ := z_bd hzz
      rw [e8', eP', is_all izz (by omega) Pzz (by omega)] at l9
      have l9 := Option.some.inj l9
      by_cases cP : izz.testBit Pzz = true
      · rw [if_pos cP] at l9
        exact no (fun hG => by have qzz := hG.1; rw [cP] at qzz; cases qzz) (z_f hzz (by rw [← l9]; decide))
      · rw [if_neg cP] at l9
        obtain ⟨w12, l12, hzz⟩ := z_bd (z_t hzz l9.symm)
        rw [onzz] at l12
        have l12 := Option.some.inj l12
        rw [← l12] at hzz
        by_cases c6zz : v6 ≤ Int32.ofNat (pc7 izz)
        · refine no (fun hG => ?_) (z_t hzz c6zz)
          rcases hBzz with ⟨b1, b2, b3⟩ | ⟨s, b1, b2, b3, b4, b5⟩
          · rw [b2] at c6zz
            have qzz := cv_le (a := 100000000) (b := (pc7 izz : Int)) (by decide) ti c6zz
            have := c7_le (show izz < 128 by omega)
            omega
          · rw [b4] at c6zz
            have qzz := cv_le (a := (pc7 s : Int)) (b := (pc7 izz : Int)) (ofn (by have := c7_le (show s < 128 by omega); omega)) ti c6zz
            exact ⟨s, b1, b2, b3, b4, by omega⟩
        · have hzz := z_f hzz c6zz
          obtain ⟨w13zz, l13, hzz⟩ := z_bd hzz
          have exzz : v5 ^^^ v8 = Int32.ofNat (Ezz ^^^ izz) := by rw [e5zz, e8']; exact xor_all Ezz (by omega) izz (by omega)
          have hx : Ezz ^^^ izz < 128 := Nat.xor_lt_two_pow (n := 7) (show Ezz < 2 ^ 7 by omega) (show izz < 2 ^ 7 by omega)
          have wp := pl_eq eP n7 hP en hSzz hbzz exzz hx l13
          have wc : cntf (fun qzz => ahf st R Pzz qzz && decide (((Ezz ^^^ izz) / 2 ^ qzz) % 2 = 1)) n = cntf (fun qzz => ahf st R Pzz qzz && (Ezz ^^^ izz).testBit qzz) n := cnt_cg n (fun qzz _ => by rw [Nat.testBit_eq_decide_div_mod_eq])
          rw [wc] at wp
          by_cases c13zz : w13zz = pl
          ·
            have hG : GoodS st R Pzz n Ezz pl.toInt izz := ⟨Bool.eq_false_iff.mpr cP, by rw [← wp, c13zz]⟩
            have hzz := z_t hzz c13zz
            unfold bk_X9_be_127 at hzz
            have hzz := z_f hzz (by decide)
            unfold bk_X9_be_141 at hzz
            obtain ⟨w11zz, l11, hzz⟩ := z_bd (z_f hzz (by decide))
            rw [onzz] at l11
            have l11 := Option.some.inj l11
            unfold bk_X9_be_158 at hzz
            obtain ⟨x10, g10, hzz⟩ := z_lt hzz
            refine ihzz w11zz v8 x10 (izz + 1) (by rw [g10]; exact e1zz) (by omega) ?_ hzz
            refine Or.inr ⟨izz, by omega, hG, e8', l11.symm, fun Szz hS' hGS => ?_⟩
            by_cases cs : Szz = izz
            · rw [cs]; exact Or.inr ⟨rfl, Nat.le_refl _⟩
            · rcases hBzz with ⟨b1, b2, b3⟩ | ⟨s, b1, b2, b3, b4, b5⟩
              · exact absurd hGS (b3 Szz (by omega))
              · rw [b4] at c6zz
                have qzz := cv_nle (a := (pc7 s : Int)) (b := (pc7 izz : Int)) (ofn (by have := c7_le (show s < 128 by omega); omega)) ti c6zz
                rcases b5 Szz (by omega) hGS with uzz | ⟨uzz, -⟩
                · exact Or.inl (by omega)
                · exact Or.inl (by omega)
          · refine no (fun hG => absurd (Int32.toInt_inj.mp ?_) c13zz) (z_f hzz c13zz)
            rw [wp]; exact hG.2
set_option maxHeartbeats 200000 in
theorem en_lp {o : Ob} {n ezz : Nat} {zzz : Int32} (en : (gA o 3 0).toInt = (n : Int)) (n7 : n ≤ 7) (hG : ∀ qzz, qzz < 7 → gA o 3 (22 + qzz) = if ezz.testBit qzz = true then 1 else 0) : ∀ (Nzz : Nat) (v1zz v2 : Int32) (izz : Nat), v2.toInt = (izz : Int) → izz ≤ n → v1zz = Int32.ofNat (bsm (fun qzz => ezz.testBit qzz) izz) → lp_X9_enteredBits_4 o Nzz (v1zz, v2) = some zzz → zzz = Int32.ofNat (bsm (fun qzz => ezz.testBit qzz) n) := by
  have n0zz : (0 : Int32).toNatClampNeg = 0 := by decide
  intro Nzz
  induction Nzz with
  | zero => intro v1zz v2 izz _ _ _ hzz; cases hzz
  | succ Nzz ihzz =>
    intro v1zz v2 izz e2zz hizz e1zz hzz
    have hzz : lb_X9_enteredBits_4 o (lp_X9_enteredBits_4 o Nzz) v1zz v2 = some zzz := hzz
    unfold lb_X9_enteredBits_4 at hzz
    rw [n0zz] at hzz
    by_cases c1zz : gA o 3 0 ≤ v2
    · have d := cv_le (a := (n : Int)) (b := (izz : Int)) en e2zz c1zz
      have ein : izz = n := by omega
      rw [← Option.some.inj (z_t hzz c1zz), e1zz, ein]
    · have d := cv_nle (a := (n : Int)) (b := (izz : Int)) en e2zz c1zz
      have i22 : ((22 : Int32) + v2).toNatClampNeg = 22 + izz := tnc_eq (by rw [i32_add (by decide : (22 : Int32).toInt = 22) e2zz (by omega) (by omega)]; omega)
      have hzz := (z_gd (z_f hzz c1zz)).2
      rw [i22, hG izz (by omega)] at hzz
      obtain ⟨x2zz, g2, hzz⟩ := z_lt hzz
      obtain ⟨x3, g3zz, hzz⟩ := z_lt hzz
      refine ihzz x2zz x3 (izz + 1) (by rw [g3zz]; exact Eq.trans (i32_add e2zz (by decide : (1 : Int32).toInt = 1) (by omega) (by omega)) (by omega)) (by omega) ?_ hzz
      have e2' : v2 = Int32.ofNat izz := i32_of e2zz (by omega)
      have b1 := bsm_lt (fun qzz => ezz.testBit qzz) izz
      have b2 := p2_le (show izz ≤ 7 by omega)
      show _ = Int32.ofNat (bsm (fun qzz => ezz.testBit qzz) izz + (if ezz.testBit izz = true then 2 ^ izz else 0))
      rw [g2, e1zz, e2']
      by_cases cb : ezz.testBit izz = true
      · rw [if_pos cb, if_pos cb, or_bit izz (by omega) _ (by omega) b1]
      · rw [if_neg cb, if_neg cb, shl_z izz (by omega), Int32.or_zero, Nat.add_zero]
set_option maxHeartbeats 200000 in
theorem bsm_own {ezz n : Nat} (he : ezz < 2 ^ n) : bsm (fun qzz => ezz.testBit qzz) n = ezz := by
  refine Nat.eq_of_testBit_eq (fun qzz => ?_)
  rw [bsm_tb]
  by_cases czz : qzz < n
  · rw [decide_eq_true czz]; rfl
  · rw [decide_eq_false czz, Nat.testBit_lt_two_pow (Nat.lt_of_lt_of_le he (Nat.pow_le_pow_right (by decide) (by omega)))]; rfl
set_option maxHeartbeats 200000 in
theorem tb_ge {ezz n : Nat} (he : ezz < 128) (n7 : n ≤ 7) (hzz : ∀ qzz, n ≤ qzz → qzz < 7 → ezz.testBit qzz = false) : ezz < 2 ^ n := by
  have qzz : bsm (fun qzz => ezz.testBit qzz) n = ezz := by
    refine Nat.eq_of_testBit_eq (fun qzz => ?_)
    rw [bsm_tb]
    by_cases czz : qzz < n
    · rw [decide_eq_true czz]; rfl
    · rw [decide_eq_false czz]
      by_cases c7' : qzz < 7
      · rw [hzz qzz (by omega) c7']; rfl
      · rw [Nat.testBit_lt_two_pow (Nat.lt_of_lt_of_le (show ezz < 2 ^ 7 by omega) (Nat.pow_le_pow_right (by decide) (by omega)))]; rfl
  rw [← qzz]; exact bsm_lt _ n
