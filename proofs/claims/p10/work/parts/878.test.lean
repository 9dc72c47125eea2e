-- tests: both, either
set_option maxHeartbeats 200000 in
theorem GoodC.tt {L : Int} {od : Bool} {rd oc o rd' oc' o' : Ob} {k1zz k2zz pzz bzz n k1' : Nat} (hzz : GoodC L od rd oc o rd' oc' o' k1zz k2zz pzz bzz n k1') : TT rd' o' ∧ gI o' 19 = 0 ∧ ((k1' + pzz : Nat) : Int) ≤ (gI o' 14).toInt ∧ (∀ jzz, jzz < k1zz → gA oc' 5 jzz = gA oc 5 jzz ∧ gA oc' 6 jzz = gA oc 6 jzz) ∧ k1zz ≤ k1' := by
  obtain ⟨k2', b', h0, h1, h2, h3, h4, h5, h6, h7, h8, -⟩ := hzz
  exact ⟨h1.1, h1.2.1, h1.2.2.2.2.2.2.1, h8, h0⟩
set_option maxHeartbeats 200000 in
theorem bnd_30 {xzz : Int32} (hzz : 30 ≤ xzz.toInt) : (bnd xzz).toInt < 2 := by
  unfold bnd
  by_cases c1zz : xzz < (31 : Int32)
  · have d1zz := cv_lt (a := xzz.toInt) (b := 31) rfl (by decide) c1zz
    have ezz : xzz = 30 := Int32.toInt_inj.mp ((show xzz.toInt = 30 by omega).trans (by decide))
    rw [if_pos c1zz, if_pos ezz]; decide
  · rw [if_neg c1zz]; decide
set_option maxHeartbeats 200000 in
theorem both_lp {rT : Ob → Ob → Int32 → Option (Int32 × Ob × Ob)} (hR : TstH rT) {od : Bool} {rd oc o yzz : Ob} {k1zz k2zz pzz bzz : Nat} {tst p0zz : Int32} {zzz : Int32 × Ob × Ob} (h30 : gI o 30 = p0zz) (hp0 : 0 ≤ p0zz.toInt) (hp8 : p0zz.toInt ≤ 8) (ht : ¬ tst = 0) (hbzz : bzz ≤ 400) (hbase : bzz = 0 ∨ (bnd (gA o 27 (bzz - 1))).toInt < 2) (hI : InT o bzz) :
    ∀ (Nzz N2 : Nat) (v2 : Int32) (rd1 oc1 o1 : Ob) (n k1' : Nat), GoodC 2 od rd oc o rd1 oc1 o1 k1zz k2zz pzz bzz n k1' → 0 ≤ v2.toInt → v2.toInt ≤ (k1' : Int) → lp_X6_readBoth_12 rT 12 400 Nzz (p0zz, v2, rd1, oc1) = some zzz → lp_X9_readExpression_20 N2 (tst, 2, o1) = some yzz → TstOut 2 od rd oc o zzz yzz tst k1zz k2zz pzz bzz (fun o' => ¬ IsW o' [4, 14, 1]) := by
  intro Nzz
  induction Nzz with
  | zero => intro N2 v2 rd1 oc1 o1 n k1' _ _ _ hzz; cases hzz
  | succ Nzz ihzz =>
    intro N2 v2 rd1 oc1 o1 n k1' gzz hv0 hv h1 hy
    have h1 : lb_X6_readBoth_12 rT 12 400 (lp_X6_readBoth_12 rT 12 400 Nzz) p0zz v2 rd1 oc1 = some zzz := h1
    unfold lb_X6_readBoth_12 at h1
    obtain ⟨hTzz, h19, hpos, hk13, hk11⟩ := gzz.tt
    have h400 := hTzz.1.2.2.2
    obtain ⟨azz, bb, ea, ebb, hab, hbb, -⟩ := hTzz.2.2.2.2
    have hlen : IsW o1 [4, 14, 1] → (gI o1 14).toInt < (gI o1 15).toInt := fun wzz => by
      obtain ⟨-, a', w1zz, w2zz, -⟩ := wzz
      have w2' : (gI o1 15).toInt = (a' : Int) + 3 := by rw [w2zz]; rfl
      omega
    have hend : ¬ IsW o1 [4, 14, 1] → zzz = (1, rd1, oc1) → TstOut 2 od rd oc o zzz yzz tst k1zz k2zz pzz bzz (fun o' => ¬ IsW o' [4, 14, 1]) := fun qzz ezz => by rw [ezz]; exact Or.inr ⟨rfl, N2, o1, n, k1', hy, gzz, qzz⟩
    by_cases c4zz : (400 : Int32) ≤ v2
    · have d4zz := cv_le (a := 400) (b := v2.toInt) (by decide) rfl c4zz
      exact hend (fun wzz => by have := hlen wzz; omega) (Option.some.inj (z_t h1 c4zz)).symm
    · obtain ⟨zw, ezw, h1⟩ := z_bd (z_f h1 c4zz)
      rcases iw8 (R := [4, 14, 1]) hTzz (by decide) tx5_ok ezw with ⟨q1zz, q2zz⟩ | ⟨q1zz, q2zz⟩
      · exact hend q2zz (Option.some.inj (z_t h1 q1zz)).symm
      · obtain ⟨zs, ezs, h1⟩ := z_bd (z_f h1 q1zz)
        obtain ⟨za, eza, h1⟩ := z_bd h1
        obtain ⟨zi, ezi, h1⟩ := z_bd h1
        obtain ⟨N3, zr, hbt, hy⟩ := ex_test h19 hy
        obtain ⟨z2, z3, z4, z5, f2zz, f3zz, f4zz, f5zz, ezr⟩ := bt_and hTzz q2zz hbt
        rw [ezr] at hy
        obtain ⟨k3zz, i1zz, i2zz, i3zz, i4zz, i5zz, i6zz, i7zz, i8zz, i9zz, i10zz, i11zz, i12zz, i13, i14, i15⟩ := ao_in gzz hbzz ⟨by decide, by decide⟩ (by rcases hbase with qzz | qzz; exact Or.inl qzz; exact Or.inr qzz) (hlen q2zz) f2zz f3zz f4zz f5zz ezs eza
        have hI5 : InT z5 (bzz + 1) := hI.ext (by omega) (fun jzz hj => (i4zz jzz hj).1) (fun jzz x1zz x2zz => by
          rw [show jzz = bzz by omega, i5zz]; decide)
        rcases plain_eq hR i1zz (i7zz.trans h30) hp0 hp8 ht (Or.inr (by rw [Nat.add_sub_cancel, i5zz]; decide)) hI5 ezi hy with gb | ⟨g1, N4zz, o4zz, n', k1'', hy4, g4, -⟩
        · have ezz : zzz = zi := by rw [← Option.some.inj (z_t h1 gb.1), ← gb.1]
          rw [ezz]; exact Or.inl (gb.tr i2zz i3zz)
        · have h1 := z_f h1 (by rw [g1]; decide)
          obtain ⟨zl, ezl, h1⟩ := z_bd h1
          obtain ⟨x7, e7zz, h1⟩ := z_lt h1
          have g5zz := ao_out (L := 2) i10zz i2zz i3zz i4zz i5zz i6zz i7zz i8zz i9zz i15 i14 i12zz i11zz i13 g4 (by decide) (by decide) (Or.inl ⟨rfl, rfl⟩) ezl
          have kk := g4.tt.2.2.2.2
          have d4zz := cv_nle (a := 400) (b := v2.toInt) (by decide) rfl c4zz
          have t7 : x7.toInt = v2.toInt + 1 := by rw [e7zz]; exact i32_add rfl (by decide) (by omega) (by omega)
          exact ihzz N4zz x7 zi.2.1 zl o4zz (n + n') k1'' g5zz (by omega) (by omega) h1 hy4
set_option maxHeartbeats 200000 in
theorem both_eq {rT : Ob → Ob → Int32 → Option (Int32 × Ob × Ob)} (hR : TstH rT) {od : Bool} {rd oc o yzz : Ob} {k1zz k2zz pzz bzz Nzz : Nat} {tst p0zz : Int32} {zzz : Int32 × Ob × Ob} (hzz : PSt od rd oc o k1zz k2zz pzz bzz) (h30 : gI o 30 = p0zz) (hp0 : 0 ≤ p0zz.toInt) (hp8 : p0zz.toInt ≤ 8) (ht : ¬ tst = 0) (hbase : bzz = 0 ∨ 30 ≤ (gA o 27 (bzz - 1)).toInt) (hI : InT o bzz) (h1 : f_X6_readBoth rT 12 400 rd oc p0zz = some zzz) (hy : lp_X9_readExpression_20 Nzz (tst, 0, o) = some yzz) : TstOut 2 od rd oc o zzz yzz tst k1zz k2zz pzz bzz (fun o' => ¬ IsW o' [4, 14, 1]) := by
  unfold f_X6_readBoth at h1
  obtain ⟨z1, ez1, h1⟩ := z_bd h1
  have hb2 : bzz = 0 ∨ (bnd (gA o 27 (bzz - 1))).toInt < 2 := by
    rcases hbase with qzz | qzz
    · exact Or.inl qzz
    · exact Or.inr (bnd_30 qzz)
  rcases plain_eq hR hzz h30 hp0 hp8 ht (by rcases hbase with qzz | qzz; exact Or.inl qzz; exact Or.inr (by omega)) hI ez1 hy with gzz | ⟨g1, N4zz, o4zz, n, k1', hy4, g4, -⟩
  · have ezz : zzz = z1 := by rw [← Option.some.inj (z_t h1 gzz.1), ← gzz.1]
    rw [ezz]; exact Or.inl gzz
  · exact both_lp hR h30 hp0 hp8 ht hzz.2.2.2.2.2.2.2.2.1 hb2 hI zfu N4zz 0 _ _ o4zz n k1' (g4.le (by decide)) (by decide) (by have : (0 : Int32).toInt = 0 := (by decide); omega) (z_f h1 (by rw [g1]; decide)) hy4
set_option maxHeartbeats 200000 in
theorem test_lp {rT : Ob → Ob → Int32 → Option (Int32 × Ob × Ob)} (hR : TstH rT) {od : Bool} {rd oc o yzz : Ob} {k1zz k2zz pzz bzz : Nat} {tst p0zz : Int32} {zzz : Int32 × Ob × Ob} (h30 : gI o 30 = p0zz) (hp0 : 0 ≤ p0zz.toInt) (hp8 : p0zz.toInt ≤ 8) (ht : ¬ tst = 0) (hbzz : bzz ≤ 400) (hbase : bzz = 0 ∨ (bnd (gA o 27 (bzz - 1))).toInt < 1) (hI : InT o bzz) :
    ∀ (Nzz N2 : Nat) (v2 : Int32) (rd1 oc1 o1 : Ob) (n k1' : Nat), GoodC 1 od rd oc o rd1 oc1 o1 k1zz k2zz pzz bzz n k1' → ¬ IsW o1 [4, 14, 1] → 0 ≤ v2.toInt → v2.toInt ≤ (k1' : Int) → lp_X6_readTest_12 rT 12 400 Nzz (p0zz, v2, rd1, oc1) = some zzz → lp_X9_readExpression_20 N2 (tst, 2, o1) = some yzz → TstOut 1 od rd oc o zzz yzz tst k1zz k2zz pzz bzz NoAO := by
  intro Nzz
  induction Nzz with
  | zero => intro N2 v2 rd1 oc1 o1 n k1' _ _ _ _ hzz; cases hzz
  | succ Nzz ihzz =>
    intro N2 v2 rd1 oc1 o1 n k1' gzz na hv0 hv h1 hy
    have h1 : lb_X6_readTest_12 rT 12 400 (lp_X6_readTest_12 rT 12 400 Nzz) p0zz v2 rd1 oc1 = some zzz := h1
    unfold lb_X6_readTest_12 at h1
    obtain ⟨hTzz, h19, hpos, hk13, hk11⟩ := gzz.tt
    have h400 := hTzz.1.2.2.2
    obtain ⟨azz, bb, ea, ebb, hab, hbb, -⟩ := hTzz.2.2.2.2
    have hlen : IsW o1 [18, 15] → (gI o1 14).toInt < (gI o1 15).toInt := fun wzz => by
      obtain ⟨-, a', w1zz, w2zz, -⟩ := wzz
      have w2' : (gI o1 15).toInt = (a' : Int) + 2 := by rw [w2zz]; rfl
      omega
    have hend : ¬ IsW o1 [18, 15] → zzz = (1, rd1, oc1) → TstOut 1 od rd oc o zzz yzz tst k1zz k2zz pzz bzz NoAO := fun qzz ezz => by rw [ezz]; exact Or.inr ⟨rfl, N2, o1, n, k1', hy, gzz, na, qzz⟩
    by_cases c4zz : (400 : Int32) ≤ v2
    · have d4zz := cv_le (a := 400) (b := v2.toInt) (by decide) rfl c4zz
      exact hend (fun wzz => by have := hlen wzz; omega) (Option.some.inj (z_t h1 c4zz)).symm
    · obtain ⟨zw, ezw, h1⟩ := z_bd (z_f h1 c4zz)
      rcases iw8 (R := [18, 15]) hTzz (by decide) tx4_ok ezw with ⟨q1zz, q2zz⟩ | ⟨q1zz, q2zz⟩
      · exact hend q2zz (Option.some.inj (z_t h1 q1zz)).symm
      · obtain ⟨zs, ezs, h1⟩ := z_bd (z_f h1 q1zz)
        obtain ⟨za, eza, h1⟩ := z_bd h1
        obtain ⟨zi, ezi, h1⟩ := z_bd h1
        obtain ⟨N3, zr, hbt, hy⟩ := ex_test h19 hy
        obtain ⟨z2, z3, z4, z5, f2zz, f3zz, f4zz, f5zz, ezr⟩ := bt_or hTzz na q2zz hbt
        rw [ezr] at hy
        obtain ⟨k3zz, i1zz, i2zz, i3zz, i4zz, i5zz, i6zz, i7zz, i8zz, i9zz, i10zz, i11zz, i12zz, i13, i14, i15⟩ := ao_in gzz hbzz ⟨by decide, by decide⟩ (by rcases hbase with qzz | qzz; exact Or.inl qzz; exact Or.inr qzz) (hlen q2zz) f2zz f3zz f4zz f5zz ezs eza
        have hI5 : InT z5 (bzz + 1) := hI.ext (by omega) (fun jzz hj => (i4zz jzz hj).1) (fun jzz x1zz x2zz => by
          rw [show jzz = bzz by omega, i5zz]; decide)
        rcases both_eq hR i1zz (i7zz.trans h30) hp0 hp8 ht (Or.inr (by rw [Nat.add_sub_cancel, i5zz]; decide)) hI5 ezi hy with gb | ⟨g1, N4zz, o4zz, n', k1'', hy4, g4, na4⟩
        · have ezz : zzz = zi := by rw [← Option.some.inj (z_t h1 gb.1), ← gb.1]
          rw [ezz]; exact Or.inl (gb.tr i2zz i3zz)
        · have h1 := z_f h1 (by rw [g1]; decide)
          obtain ⟨zl, ezl, h1⟩ := z_bd h1
          obtain ⟨x7, e7zz, h1⟩ := z_lt h1
          have g5zz := ao_out (L := 1) i10zz i2zz i3zz i4zz i5zz i6zz i7zz i8zz i9zz i15 i14 i12zz i11zz i13 g4 (by decide) (by decide) (Or.inr ⟨rfl, rfl⟩) ezl
          have kk := g4.tt.2.2.2.2
          have d4zz := cv_nle (a := 400) (b := v2.toInt) (by decide) rfl c4zz
          have t7 : x7.toInt = v2.toInt + 1 := by rw [e7zz]; exact i32_add rfl (by decide) (by omega) (by omega)
          exact ihzz N4zz x7 zi.2.1 zl o4zz (n + n') k1'' g5zz na4 (by omega) (by omega) h1 hy4
set_option maxHeartbeats 200000 in
theorem test_eq {rT : Ob → Ob → Int32 → Option (Int32 × Ob × Ob)} (hR : TstH rT) : TstH (fun rd oc p0zz => f_X6_readTest rT 12 400 rd oc p0zz) := by
  intro od rd oc o yzz k1zz k2zz pzz bzz Nzz tst p0zz zzz hzz h30 hp0 hp8 ht hbase h1 hy
  have h1 : f_X6_readTest rT 12 400 rd oc p0zz = some zzz := h1
  unfold f_X6_readTest at h1
  obtain ⟨z1, ez1, h1⟩ := z_bd h1
  have hI : InT o bzz := by
    rcases (show bzz = 0 ∨ 0 < bzz by omega) with qzz | qzz
    · exact Or.inl (fun jzz hj => by omega)
    · rcases hbase with uzz | uzz
      · omega
      · exact Or.inr ⟨bzz - 1, by omega, uzz, fun jzz x1zz x2zz => by omega⟩
  have hb1 : bzz = 0 ∨ (bnd (gA o 27 (bzz - 1))).toInt < 1 := by
    rcases hbase with qzz | qzz
    · exact Or.inl qzz
    · exact Or.inr (by rw [qzz]; decide)
  rcases both_eq hR hzz h30 hp0 hp8 ht (by rcases hbase with qzz | qzz; exact Or.inl qzz; exact Or.inr (by rw [qzz]; decide)) hI ez1 hy with gzz | ⟨g1, N4zz, o4zz, n, k1', hy4, g4, na⟩
  · have ezz : zzz = z1 := by rw [← Option.some.inj (z_t h1 gzz.1), ← gzz.1]
    rw [ezz]; exact Or.inl gzz
  · exact test_lp hR h30 hp0 hp8 ht hzz.2.2.2.2.2.2.2.2.1 hb1 hI zfu N4zz 0 _ _ o4zz n k1' (g4.le (by decide)) na (by decide) (by have : (0 : Int32).toInt = 0 := (by decide); omega) (z_f h1 (by rw [g1]; decide)) hy4
set_option maxHeartbeats 200000 in
theorem tests_all : ∀ d : Nat, TstH (fx_X6_readTest 12 400 d) := by
  intro d
  induction d with
  | zero => intro od rd oc o yzz k1zz k2zz pzz bzz Nzz tst p0zz zzz _ _ _ _ _ _ hzz; cases hzz
  | succ d ihzz =>
    have hzz := test_eq ihzz
    exact hzz
