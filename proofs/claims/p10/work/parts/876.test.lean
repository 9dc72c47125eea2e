-- a plain test: nots, then a comparison or a test in brackets
set_option maxHeartbeats 200000 in
theorem plain_eq {rT : Ob → Ob → Int32 → Option (Int32 × Ob × Ob)} (hR : TstH rT) {od : Bool} {rd oc o yzz : Ob} {k1zz k2zz pzz bzz Nzz : Nat} {tst p0zz : Int32} {zzz : Int32 × Ob × Ob} (hzz : PSt od rd oc o k1zz k2zz pzz bzz) (h30 : gI o 30 = p0zz) (hp0 : 0 ≤ p0zz.toInt) (hp8 : p0zz.toInt ≤ 8) (ht : ¬ tst = 0) (hbase : bzz = 0 ∨ 29 ≤ (gA o 27 (bzz - 1)).toInt) (hI : InT o bzz) (h1 : f_X6_readPlain rT 12 400 rd oc p0zz = some zzz) (hy : lp_X9_readExpression_20 Nzz (tst, 0, o) = some yzz) : TstOut 3 od rd oc o zzz yzz tst k1zz k2zz pzz bzz (fun _ => True) := by
  unfold f_X6_readPlain at h1
  obtain ⟨N', mzz, v2, rd1, o1, hizz, hv, nw, h1, hy⟩ := nots_lp zfu Nzz 0 0 rd o 0 (NI.rf hzz) (by decide) (Or.inl ⟨rfl, rfl⟩) h1 hy
  have hi' := hizz
  obtain ⟨i1zz, i2zz, i3zz, i4zz, i5zz, i6zz, i7zz, i8zz, i9zz⟩ := hizz
  have hTzz := i1zz.1
  have h19 := i1zz.2.1
  have c28zz : (28 : Int32).toInt = 28 := by decide
  have hbase1 : bzz + mzz = 0 ∨ 28 ≤ (gA o1 27 (bzz + mzz - 1)).toInt := by
    rcases (show mzz = 0 ∨ 0 < mzz by omega) with uzz | uzz
    · rcases (show bzz = 0 ∨ 0 < bzz by omega) with wzz | wzz
      · exact Or.inl (by omega)
      · rcases hbase with qzz | qzz
        · exact Or.inl (by omega)
        · refine Or.inr ?_
          rw [show bzz + mzz - 1 = bzz - 1 by omega, (i4zz (bzz - 1) (by omega)).1]; omega
    · refine Or.inr ?_
      rw [i5zz (bzz + mzz - 1) (by omega) (by omega), c28zz]; omega
  have hI1 : InT o1 (bzz + mzz) := hI.ext (by omega) (fun jzz hj => (i4zz jzz hj).1) (fun jzz x1zz x2zz => by rw [i5zz jzz x1zz x2zz, c28zz]; omega)
  have outzz : PlOut rT od rd1 oc o1 zzz yzz tst v2 k1zz k2zz (pzz + mzz) (bzz + mzz) := by
    unfold bk_X6_readPlain_40 at h1
    obtain ⟨z1, e1zz, h1⟩ := z_bd h1
    rcases s8 hTzz e1zz with ⟨a1zz, a2⟩ | ⟨a1zz, a2⟩
    · obtain ⟨z2, ez2, h1⟩ := z_bd (z_t h1 a1zz)
      obtain ⟨N2, zr, hr2, hy⟩ := ex_plain h19 hy
      unfold f_X9_readPlain at hr2
      obtain ⟨zw, ezw, hr2⟩ := z_bd hr2
      have uw : zw = 0 := by
        rcases w9 (R := [20, 15, 14]) hTzz (all_dig (by decide)) (by decide) (by decide) ezw with ⟨uzz, -⟩ | ⟨-, uzz⟩
        · exact uzz
        · exact absurd uzz nw
      obtain ⟨zs, ezs, hr2⟩ := z_bd (z_t hr2 uw)
      rcases s9 hTzz ezs with ⟨u1zz, -⟩ | ⟨-, u2zz⟩
      · obtain ⟨z3, ez3, hr2⟩ := z_bd (z_t hr2 u1zz)
        have ezr := Option.some.inj hr2
        rw [← ezr] at hy
        exact sums_eq i1zz (i6zz.trans h30) hp0 hp8 hbase1 hI1 ht (ex_part_inv h19 ez3 hy) ez2 h1
      · exact absurd u2zz a2
    · exact br_eq hR i1zz (i6zz.trans h30) hp0 hp8 ht a2 nw hy (z_f h1 a1zz)
  rcases outzz with gzz | ⟨rd3, oc3, o3zz, n, k1', N3, h185, hy3, gzz⟩
  · exact Or.inl (gzz.tr i2zz i3zz)
  · obtain ⟨x1zz, x2zz, k1'', gC⟩ := not_out hi' gzz hv h185
    refine Or.inr ⟨x1zz, N3, o3zz, n, k1'', hy3, ?_, trivial⟩
    rw [x2zz]; exact gC
