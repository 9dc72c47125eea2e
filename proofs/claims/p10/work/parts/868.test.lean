set_option maxHeartbeats 200000 in
theorem c_norm {rd oc : Ob} {zzz : Int32 × Ob × Ob} {t : Nat} (ht : (gI rd 4 = 0 ∧ t = 8) ∨ (¬ gI rd 4 = 0 ∧ t = 7)) (hzz : f_X6_readSinglePart 12 400 rd oc = some zzz) : ∃ z1 : Int32, f_X6_wordOf rd t = some z1 ∧ (((gI rd 6 = 2 ∧ (gI rd 9).toInt ≤ 1000) ∧ bk_X6_readSinglePart_52 12 400 1 z1 rd oc = some zzz) ∨ (¬ (gI rd 6 = 2 ∧ (gI rd 9).toInt ≤ 1000) ∧ ((z1 = -1 ∧ bk_X6_readSinglePart_61 12 400 rd oc = some zzz) ∨ (¬ z1 = -1 ∧ bk_X6_readSinglePart_52 12 400 0 z1 rd oc = some zzz)))) := by
  have h23 : ∀ s0zz : Int32, bk_X6_readSinglePart_23 12 400 s0zz rd oc = some zzz → bk_X6_readSinglePart_39 12 400 s0zz t rd oc = some zzz := by
    intro s0zz hzz
    unfold bk_X6_readSinglePart_23 at hzz
    rcases ht with ⟨azz, bzz⟩ | ⟨azz, bzz⟩
    · rw [bzz]; exact z_t hzz azz
    · rw [bzz]; exact z_f hzz azz
  have h1 : bk_X6_readSinglePart_39 12 400 1 t rd oc = some zzz → ∃ z1 : Int32, f_X6_wordOf rd t = some z1 ∧ bk_X6_readSinglePart_52 12 400 1 z1 rd oc = some zzz := by
    intro hzz
    unfold bk_X6_readSinglePart_39 at hzz
    obtain ⟨z1, ez, hzz⟩ := z_bd hzz
    exact ⟨z1, ez, z_f hzz (by decide)⟩
  have h0 : bk_X6_readSinglePart_39 12 400 0 t rd oc = some zzz → ∃ z1 : Int32, f_X6_wordOf rd t = some z1 ∧ ((z1 = -1 ∧ bk_X6_readSinglePart_61 12 400 rd oc = some zzz) ∨ (¬ z1 = -1 ∧ bk_X6_readSinglePart_52 12 400 0 z1 rd oc = some zzz)) := by
    intro hzz
    unfold bk_X6_readSinglePart_39 at hzz
    obtain ⟨z1, ez, hzz⟩ := z_bd hzz
    have hzz := z_t hzz rfl
    by_cases czz : z1 = -1
    · exact ⟨z1, ez, Or.inl ⟨czz, z_t hzz czz⟩⟩
    · exact ⟨z1, ez, Or.inr ⟨czz, z_f hzz czz⟩⟩
  unfold f_X6_readSinglePart bk_X6_readSinglePart_22 at hzz
  by_cases czz : gI rd 6 = 2
  · have hzz := z_t hzz czz
    by_cases d : (1000 : Int32) < gI rd 9
    · have d' := cv_lt (a := 1000) (b := (gI rd 9).toInt) (by decide) rfl d
      obtain ⟨z1, azz, bzz⟩ := h0 (h23 0 (z_t hzz d))
      exact ⟨z1, azz, Or.inr ⟨fun qzz => by omega, bzz⟩⟩
    · have d' := cv_nlt (a := 1000) (b := (gI rd 9).toInt) (by decide) rfl d
      obtain ⟨z1, azz, bzz⟩ := h1 (h23 1 (z_f hzz d))
      exact ⟨z1, azz, Or.inl ⟨⟨czz, d'⟩, bzz⟩⟩
  · obtain ⟨z1, azz, bzz⟩ := h0 (h23 0 (z_f hzz czz))
    exact ⟨z1, azz, Or.inr ⟨fun qzz => czz qzz.1, bzz⟩⟩
set_option maxHeartbeats 200000 in
theorem r_norm {o : Ob} {z2 : Int32} {zr : Int32 × Ob} (hzz : bk_X9_readPart_35 z2 o = some zr) : ((gI o 16 = 2 ∧ (gL o 17).toInt ≤ 1000) ∧ (z2 = -1 → bk_X9_readPart_99 (-1) (gL o 17).toInt32 0 1 o = some zr)) ∨ (¬ (gI o 16 = 2 ∧ (gL o 17).toInt ≤ 1000) ∧ ((z2 = -1 ∧ bk_X9_readPart_99 (-1) 0 0 0 o = some zr) ∨ (¬ z2 = -1 ∧ bk_X9_readPart_99 z2 0 z2 1 o = some zr))) := by
  have h1 : bk_X9_readPart_60 z2 1 o = some zr → z2 = -1 → bk_X9_readPart_99 (-1) (gL o 17).toInt32 0 1 o = some zr := by
    intro hzz ezz
    rw [ezz] at hzz
    unfold bk_X9_readPart_60 at hzz
    have hzz := z_f (z_t hzz rfl) (by decide)
    unfold bk_X9_readPart_71 bk_X9_readPart_76 at hzz
    have hzz := z_t hzz rfl
    unfold bk_X9_readPart_86 at hzz
    exact z_f hzz (by decide)
  have h0 : bk_X9_readPart_60 z2 0 o = some zr → (z2 = -1 ∧ bk_X9_readPart_99 (-1) 0 0 0 o = some zr) ∨ (¬ z2 = -1 ∧ bk_X9_readPart_99 z2 0 z2 1 o = some zr) := by
    intro hzz
    unfold bk_X9_readPart_60 at hzz
    by_cases czz : z2 = -1
    · rw [czz] at hzz
      have hzz := z_t (z_t hzz rfl) rfl
      unfold bk_X9_readPart_76 at hzz
      have hzz := z_t hzz rfl
      unfold bk_X9_readPart_86 at hzz
      exact Or.inl ⟨czz, z_t hzz rfl⟩
    · have hzz := z_f hzz czz
      unfold bk_X9_readPart_71 bk_X9_readPart_76 at hzz
      have hzz := z_f hzz czz
      unfold bk_X9_readPart_86 at hzz
      exact Or.inr ⟨czz, z_t hzz rfl⟩
  unfold bk_X9_readPart_35 bk_X9_readPart_59 at hzz
  by_cases czz : gI o 16 = 2
  · have hzz := z_t hzz czz
    by_cases d : (0 : Int32) < lg_cmp (gL o 17) (1000 : Int64)
    · have d' := cvl_gt (a := (gL o 17).toInt) (b := 1000) rfl (by decide) d
      exact Or.inr ⟨fun qzz => by omega, h0 (z_t hzz d)⟩
    · have d' := cvl_ngt (a := (gL o 17).toInt) (b := 1000) rfl (by decide) d
      exact Or.inl ⟨⟨czz, d'⟩, h1 (z_f hzz d)⟩
  · exact Or.inr ⟨fun qzz => czz qzz.1, h0 (z_f hzz czz)⟩
set_option maxHeartbeats 200000 in
theorem single_eq {od : Bool} {rd oc o yzz : Ob} {k1zz k2zz pzz bzz Nzz : Nat} {tst : Int32} {zzz : Int32 × Ob × Ob} {zr : Int32 × Ob} (hzz : PSt od rd oc o k1zz k2zz pzz bzz) (nb : ¬ IsS o 91) (h1 : f_X6_readSinglePart 12 400 rd oc = some zzz) (h2 : f_X9_readPart o = some zr) (hy : lp_X9_readExpression_20 Nzz (tst, zr.1, zr.2) = some yzz) : Bad rd oc o zzz yzz ∨ (zzz.1 = 1 ∧ zr.1 = 3 ∧ Good1 od rd oc o zzz.2.1 zzz.2.2 zr.2 k1zz k2zz pzz bzz 1 (k1zz + 1) (k2zz + 1)) := by
  have hP := hzz
  obtain ⟨hTzz, h19, e5zz, hr, ek1, ek2, hp, eb, hbzz, hk2, hMzz⟩ := hzz
  have hT' := hTzz
  obtain ⟨hz0, t6, t7, t8, azz, bb, ea, ebb, hab, hbb, hx⟩ := hT'
  have h400 := hz0.2.2.2
  -- which word
  obtain ⟨t, ht, hword⟩ : ∃ t : Nat, ((gI rd 4 = 0 ∧ t = 8) ∨ (¬ gI rd 4 = 0 ∧ t = 7)) ∧ (∀ z1, f_X6_wordOf rd t = some z1 → ∃ z2, bk_X9_readPart_35 z2 o = some zr ∧ ((z1 = -1 ∧ z2 = -1) ∨ (∃ jzz : Nat, (od = false ∧ jzz < 9 ∨ od = true ∧ jzz < 7) ∧ z1.toInt = (jzz : Int) ∧ z2.toInt = (jzz : Int) + 1 ∧ gI o 16 = 1))) := by
    unfold f_X9_readPart at h2
    obtain ⟨zs, ezs, h2⟩ := z_bd h2
    rcases s9 hTzz ezs with ⟨q1zz, -⟩ | ⟨-, q2zz⟩
    · have h2 := z_t h2 q1zz
      cases od with
      | false =>
        obtain ⟨m1zz, m2zz⟩ := hMzz.2.1 rfl
        obtain ⟨z2, ez2, h2⟩ := z_bd (z_t h2 m2zz)
        refine ⟨7, Or.inr ⟨m1zz, rfl⟩, fun z1 ez1 => ⟨z2, h2, ?_⟩⟩
        rcases part7 hTzz hMzz.2.2.1 ez1 ez2 with qzz | ⟨jzz, q1zz, q2zz, q3zz, q4zz⟩
        · exact Or.inl qzz
        · exact Or.inr ⟨jzz, Or.inl ⟨rfl, q1zz⟩, q2zz, q3zz, q4zz⟩
      | true =>
        obtain ⟨m1zz, m2zz⟩ := hMzz.1 rfl
        obtain ⟨z2, ez2, h2⟩ := z_bd (z_f h2 m2zz)
        refine ⟨8, Or.inl ⟨m1zz, rfl⟩, fun z1 ez1 => ⟨z2, h2, ?_⟩⟩
        rcases part8 hTzz hMzz.2.2.2 ez1 ez2 with qzz | ⟨jzz, q1zz, q2zz, q3zz, q4zz⟩
        · exact Or.inl qzz
        · exact Or.inr ⟨jzz, Or.inr ⟨rfl, q1zz⟩, q2zz, q3zz, q4zz⟩
    · exact absurd q2zz nb
  obtain ⟨z1, ez1, hczz⟩ := c_norm ht h1
  obtain ⟨z2, hr2, hw⟩ := hword z1 ez1
  have hrn := r_norm hr2
  -- the failing leaf
  have hfail : ∀ v1zz s0zz s1zz s2zz : Int32, (s2zz = 0 ∨ 50 ≤ (gI o 26).toInt) → bk_X9_readPart_99 v1zz s0zz s1zz s2zz o = some zr → bk_X6_readSinglePart_61 12 400 rd oc = some zzz → Bad rd oc o zzz yzz := by
    intro v1zz s0zz s1zz s2zz hs k2' k1'
    unfold bk_X9_readPart_99 at k2'
    obtain ⟨z3, ez3, k2'⟩ := z_bd k2'
    have e3zz := leaf_no h19 hs ez3
    have k19 : gI z3 19 = 1 := by rw [e3zz]; rfl
    have ezr : zr.2 = z3 := by
      by_cases c1zz : gI z3 20 = 0
      · rw [← Option.some.inj (z_t k2' c1zz)]
      · have k2' := z_f k2' c1zz
        by_cases c2zz : v1zz < 6
        · rw [← Option.some.inj (z_t k2' c2zz)]
        · have k2' := z_f (z_f k2' c2zz) (by rw [k19]; decide)
          rw [← Option.some.inj k2']
    unfold bk_X6_readSinglePart_61 at k1'
    obtain ⟨z12, ez12, k1'⟩ := z_bd k1'
    obtain ⟨-, k1'⟩ := z_gd k1'
    obtain ⟨u1zz, u2zz⟩ := stop8 ez12
    rw [← Option.some.inj k1', u1zz, u2zz]
    exact bad_no hTzz (ezr.trans e3zz) hy CF.stop
  have h61 : 50 ≤ (gI o 26).toInt → ∀ v1zz z1 : Int32, bk_X6_readSinglePart_52 12 400 v1zz z1 rd oc = some zzz → bk_X6_readSinglePart_61 12 400 rd oc = some zzz := by
    intro qzz v1zz z1 kzz
    unfold bk_X6_readSinglePart_52 at kzz
    exact z_f kzz (fun czz => by have czz := cv_lt (a := (gI o 26).toInt) (b := 50) (by rw [e5zz]) (by decide) czz; omega)
  rcases hczz with ⟨⟨n1zz, n2zz⟩, hczz⟩ | ⟨hn, hczz⟩
  · -- a number
    have n16 : gI o 16 = 2 := by rw [← t6]; exact n1zz
    have hnv : azz < bb ∧ NV (gI rd 9) (gL o 17) := by
      rcases hx with ⟨qzz, -⟩ | ⟨qzz, -⟩ | ⟨-, q1zz, q2zz⟩ | ⟨qzz, -⟩
      · exact absurd (qzz.symm.trans n16) (by decide)
      · exact absurd (qzz.symm.trans n16) (by decide)
      · exact ⟨q1zz, q2zz⟩
      · exact absurd (qzz.symm.trans n16) (by decide)
    obtain ⟨hlt, v0zz, v1zz, vv⟩ := hnv
    have vw : (gL o 17).toInt ≤ 1000 ∧ (gI rd 9).toInt = (gL o 17).toInt := by rcases vv with qzz | ⟨q1zz, q2zz⟩ <;> omega
    have hz2 : z2 = -1 := by
      rcases hw with ⟨-, qzz⟩ | ⟨jzz, -, -, -, qzz⟩
      · exact qzz
      · exact absurd (n16.symm.trans qzz) (by decide)
    have hr3 : bk_X9_readPart_99 (-1) (gL o 17).toInt32 0 1 o = some zr := by
      rcases hrn with ⟨-, qzz⟩ | ⟨qzz, -⟩
      · exact qzz hz2
      · exact absurd ⟨n16, vw.1⟩ qzz
    rcases (show 50 ≤ (gI o 26).toInt ∨ (gI o 26).toInt < 50 by omega) with q50 | q50
    · exact Or.inl (hfail _ _ _ _ (Or.inr q50) hr3 (h61 q50 _ _ hczz))
    · unfold bk_X6_readSinglePart_52 at hczz
      have hczz := z_t hczz (Int32.lt_iff_toInt_lt.mpr (by rw [e5zz]; have : (50 : Int32).toInt = 50 := (by decide); omega))
      obtain ⟨o2, f2zz, hczz⟩ := z_lt hczz
      have hczz := z_f hczz (by decide)
      obtain ⟨z10, ez10, hczz⟩ := z_bd hczz
      obtain ⟨z11, ez11, hczz⟩ := z_bd hczz
      unfold bk_X9_readPart_99 at hr3
      obtain ⟨z3, ez3, hr3⟩ := z_bd hr3
      obtain ⟨o1, en, hl⟩ := leaf_ok h19 q50 hr.1 ek2 hk2 ez3
      have zz : TZ o2 o := by rw [f2zz]; exact hz0
      obtain ⟨T1, T2, T3, T4⟩ := tk_eq zz (by rw [f2zz]; exact t8) (by omega) (by omega) ez11 en
      have hl := hl T3
      obtain ⟨d1zz, d2zz, d3zz, d4zz, d5zz, d6zz, d7zz⟩ := add8 ek1 (by omega) ez10
      have ezr : zr = (3, z3) := by
        by_cases c1zz : gI z3 20 = 0
        · exact (Option.some.inj (z_t hr3 c1zz)).symm
        · exact (Option.some.inj (z_t (z_f hr3 c1zz) (by decide))).symm
      have e9zz : gI o2 9 = gI rd 9 := by rw [f2zz]; rfl
      have ew : gI o2 9 = (gL o 17).toInt32 := by rw [e9zz]; exact Int32.toInt_inj.mp (by rw [l32 v0zz (by omega)]; exact vw.2)
      refine Or.inr ⟨by rw [← Option.some.inj hczz], by rw [ezr], ?_⟩
      rw [← Option.some.inj hczz, ezr]
      refine leaf_fin (rd2 := z11) (oc2 := z10.2) (o1 := o1) (zo := z3) hP T1 T3 (fun izz x1zz x2zz x3 x4zz x5zz => ?_) ?_ ?_ (by omega) q50 d2zz d3zz d4zz d5zz d6zz d7zz hl (Or.inl ⟨rfl, rfl, ew⟩)
      · rw [T2.1 izz x2zz x3 x4zz x5zz, f2zz]; exact fset_ne x1zz
      · rw [T2.2, f2zz]; rfl
      · rw [T2.1 5 (by decide) (by decide) (by decide) (by decide), f2zz]; rfl
  · have hn' : ¬ (gI o 16 = 2 ∧ (gL o 17).toInt ≤ 1000) := by
      intro qzz
      rcases hx with ⟨uzz, -⟩ | ⟨uzz, -⟩ | ⟨-, -, uzz⟩ | ⟨uzz, -⟩
      · exact absurd (uzz.symm.trans qzz.1) (by decide)
      · exact absurd (uzz.symm.trans qzz.1) (by decide)
      · refine hn ⟨by rw [t6]; exact qzz.1, ?_⟩
        rcases uzz.2.2 with wzz | wzz <;> omega
      · exact absurd (uzz.symm.trans qzz.1) (by decide)
    have hrn : (z2 = -1 ∧ bk_X9_readPart_99 (-1) 0 0 0 o = some zr) ∨ (¬ z2 = -1 ∧ bk_X9_readPart_99 z2 0 z2 1 o = some zr) := by
      rcases hrn with ⟨qzz, -⟩ | ⟨-, qzz⟩
      · exact absurd qzz hn'
      · exact qzz
    have m1zz : (-1 : Int32).toInt = -1 := by decide
    rcases hw with ⟨w1zz, w2zz⟩ | ⟨jzz, hj, w1zz, w2zz, w16⟩
    · have hczz : bk_X6_readSinglePart_61 12 400 rd oc = some zzz := by
        rcases hczz with ⟨-, qzz⟩ | ⟨qzz, -⟩
        · exact qzz
        · exact absurd w1zz qzz
      rcases hrn with ⟨-, qzz⟩ | ⟨qzz, -⟩
      · exact Or.inl (hfail _ _ _ _ (Or.inl rfl) qzz hczz)
      · exact absurd w2zz qzz
    · have hj9 : jzz < 9 := by rcases hj with ⟨-, qzz⟩ | ⟨-, qzz⟩ <;> omega
      have hczz : bk_X6_readSinglePart_52 12 400 0 z1 rd oc = some zzz := by
        rcases hczz with ⟨qzz, -⟩ | ⟨-, qzz⟩
        · rw [qzz] at w1zz; omega
        · exact qzz
      have hr3 : bk_X9_readPart_99 z2 0 z2 1 o = some zr := by
        rcases hrn with ⟨qzz, -⟩ | ⟨-, qzz⟩
        · rw [qzz] at w2zz; omega
        · exact qzz
      have hlt : azz < bb := by
        rcases hx with ⟨uzz, -⟩ | ⟨-, uzz, -⟩ | ⟨uzz, -⟩ | ⟨uzz, -⟩
        · exact absurd (uzz.symm.trans w16) (by decide)
        · exact uzz
        · exact absurd (uzz.symm.trans w16) (by decide)
        · exact absurd (uzz.symm.trans w16) (by decide)
      rcases (show 50 ≤ (gI o 26).toInt ∨ (gI o 26).toInt < 50 by omega) with q50 | q50
      · exact Or.inl (hfail _ _ _ _ (Or.inr q50) hr3 (h61 q50 _ _ hczz))
      · unfold bk_X6_readSinglePart_52 at hczz
        have hczz := z_t hczz (Int32.lt_iff_toInt_lt.mpr (by rw [e5zz]; have : (50 : Int32).toInt = 50 := (by decide); omega))
        obtain ⟨o2, f2zz, hczz⟩ := z_lt hczz
        have hczz := z_t hczz rfl
        obtain ⟨z3c, ez3c, hczz⟩ := z_bd hczz
        unfold bk_X9_readPart_99 at hr3
        obtain ⟨z3, ez3, hr3⟩ := z_bd hr3
        obtain ⟨o1, en, hl⟩ := leaf_ok h19 q50 hr.1 ek2 hk2 ez3
        have zz : TZ o2 o := by rw [f2zz]; exact hz0
        obtain ⟨T1, T2, T3, T4⟩ := tk_eq zz (by rw [f2zz]; exact t8) (by omega) (by omega) ez3c en
        have hl := hl T3
        have c6zz : ∀ izz, izz ≠ 5 → izz ≠ 6 → izz ≠ 7 → izz ≠ 8 → izz ≠ 9 → gI z3c izz = gI rd izz := fun izz x1zz x2zz x3 x4zz x5zz => by rw [T2.1 izz x2zz x3 x4zz x5zz, f2zz]; exact fset_ne x1zz
        have c62 : z3c.2 = rd.2 := by rw [T2.2, f2zz]; rfl
        have c5zz : gI z3c 5 = gI rd 5 + 1 := by rw [T2.1 5 (by decide) (by decide) (by decide) (by decide), f2zz]; rfl
        have k4zz : gI z3c 4 = gI rd 4 := c6zz 4 (by decide) (by decide) (by decide) (by decide) (by decide)
        have k20 : gI z3 20 = gI o 20 := hl.1.1 20 (by decide) (by decide) (by decide) (by decide) (by decide) (by decide) (by decide) (by decide) (by decide)
        -- a word without a person
        have plainzz : (od = false ∨ jzz < 5) → zr = (3, z3) → bk_X6_readSinglePart_115 12 400 z1 z3c oc = some zzz → zzz.1 = 1 ∧ zr.1 = 3 ∧ Good1 od rd oc o zzz.2.1 zzz.2.2 zr.2 k1zz k2zz pzz bzz 1 (k1zz + 1) (k2zz + 1) := by
          intro hod ezr kzz
          unfold bk_X6_readSinglePart_115 at kzz
          obtain ⟨z4, ez4, kzz⟩ := z_bd kzz
          obtain ⟨d1zz, d2zz, d3zz, d4zz, d5zz, d6zz, d7zz⟩ := add8 ek1 (by omega) ez4
          refine ⟨by rw [← Option.some.inj kzz], by rw [ezr], ?_⟩
          rw [← Option.some.inj kzz, ezr]
          refine leaf_fin (rd2 := z3c) (oc2 := z4.2) (o1 := o1) (zo := z3) hP T1 T3 c6zz c62 c5zz (by omega) q50 d2zz d3zz d4zz d5zz d6zz d7zz hl (Or.inr ⟨rfl, Or.inl ⟨jzz, ?_, w1zz, w2zz⟩⟩)
          rcases hod with qzz | qzz
          · exact Or.inr ⟨qzz, hj9⟩
          · exact Or.inl qzz
        cases od with
        | false =>
          obtain ⟨m1', m2'⟩ := hMzz.2.1 rfl
          have ezr : zr = (3, z3) := (Option.some.inj (z_t hr3 (by rw [k20]; exact m2'))).symm
          exact Or.inr (plainzz (Or.inl rfl) ezr (z_f hczz (by rw [k4zz]; exact m1')))
        | true =>
          obtain ⟨m1', m2'⟩ := hMzz.1 rfl
          have hczz := z_t hczz (by rw [k4zz]; exact m1')
          have hr3 := z_f hr3 (by rw [k20]; exact m2')
          have hj7 : jzz < 7 := by
            rcases hj with ⟨qzz, -⟩ | ⟨-, qzz⟩
            · cases qzz
            · exact qzz
          by_cases c5' : (5 : Int32) ≤ z1
          · have d5' := cv_le (a := 5) (b := (jzz : Int)) (by decide) w1zz c5'
            have hczz := z_t hczz c5'
            have hr3 := z_f hr3 (fun czz => by have czz := cv_lt (a := (jzz : Int) + 1) (b := 6) w2zz (by decide) czz; omega)
            obtain ⟨r1zz, r2, r3, r4, r5zz, r6, r7, r8, r9, r10, r11, r12, r13, r14, r15, r16⟩ := hl
            have hr3 := z_t hr3 r11
            obtain ⟨x4zz, g4, hr3⟩ := z_lt hr3
            obtain ⟨z5, ez5, hr3⟩ := z_bd hr3
            obtain ⟨-, hr3⟩ := z_gd hr3
            obtain ⟨o7, g7, hr3⟩ := z_lt hr3
            have tx4 : x4zz.toInt = (k2zz : Int) + 1 - 1 := by rw [g4]; exact i32_sub r3 (by decide) (by omega) (by omega)
            have ix4 : x4zz.toNatClampNeg = k2zz := tnc_eq (by omega)
            rw [ix4] at g7
            have k13 : gI z3 13 = gI o1 13 := (r1zz.1 13 (by decide) (by decide) (by decide) (by decide) (by decide) (by decide) (by decide) (by decide) (by decide)).trans (T3.1 13 (by decide) (by decide) (by decide)).symm
            have kAzz : gA z3 12 = gA o1 12 := (r1zz.2.1 12 (by decide) (by decide) (by decide) (by decide)).trans (T3.gA 12).symm
            have TT3 : TT z3c z3 := T1.cg rfl rfl rfl rfl rfl rfl k13 kAzz r13 r14 r15 r16
            have ezr : zr = (3, o7) := (Option.some.inj hr3).symm
            unfold f_X9_number at ez5
            obtain ⟨x1zz, g1, ez5⟩ := z_lt ez5
            have nfail : f_X9_must z3 0 = some z5.2 → bk_X6_readSinglePart_144 12 400 z3c oc = some zzz → Bad rd oc o zzz yzz := by
              intro k2' k1'
              have ezz := mu_no r11 k2'
              unfold bk_X6_readSinglePart_144 at k1'
              obtain ⟨zs, ezs, k1'⟩ := z_bd k1'
              obtain ⟨-, k1'⟩ := z_gd k1'
              obtain ⟨u1zz, u2zz⟩ := stop8 ezs
              have k19 : gI o7 19 = 1 := by rw [g7, ezz]; rfl
              have hy' : lp_X9_readExpression_20 Nzz (tst, zr.1, o7) = some yzz := by rw [ezr] at hy ⊢; exact hy
              have fzz := ex_bad (by rw [k19]; decide) hy'
              have rr : RF z3 o7 := by
                rw [g7, ezz]
                exact ⟨fun izz _ _ _ azz bzz _ _ _ _ => (fset_ne azz).trans (fset_ne bzz), fun izz _ bzz _ _ => fset_ne (f := fun izz => gA (sI (sI z3 19 1) 18 (gI z3 14)) izz) bzz, rfl⟩
              rw [← Option.some.inj k1', u1zz, u2zz]
              refine ⟨rfl, (fzz.1 19 (by decide) (by decide)).trans k19, ?_, r1zz.tr (rr.tr fzz.rr), ⟨fun izz x0zz x1zz x2zz x3 x4zz x5zz => (fset_ne x0zz).trans (c6zz izz x1zz x2zz x3 x4zz x5zz), c62, fun _ _ => rfl, fun _ _ _ => rfl⟩⟩
              rw [fzz.1 18 (by decide) (by decide), g7, ezz]
              show gI z3 14 = gI z3c 7
              exact TT3.2.2.1.symm
            have tok : gI z3c 6 = gI z3 16 := TT3.2.1
            obtain ⟨a3, b3, ea3, eb3, hab3, hb3, hx3⟩ := TT3.2.2.2.2
            by_cases c16 : gI z3 16 = 2
            · have hnv3 : a3 < b3 ∧ NV (gI z3c 9) (gL z3 17) := by
                rcases hx3 with ⟨qzz, -⟩ | ⟨qzz, -⟩ | ⟨-, q1zz, q2zz⟩ | ⟨qzz, -⟩
                · exact absurd (qzz.symm.trans c16) (by decide)
                · exact absurd (qzz.symm.trans c16) (by decide)
                · exact ⟨q1zz, q2zz⟩
                · exact absurd (qzz.symm.trans c16) (by decide)
              obtain ⟨hlt3, v0zz, v1zz, vv⟩ := hnv3
              obtain ⟨zi, ezi, ez5⟩ := z_bd (z_t ez5 c16)
              have hczz := z_t hczz (by rw [tok]; exact c16)
              have l0 : (0 : Int64).toInt = 0 := by decide
              have l6 : (6 : Int64).toInt = 6 := by decide
              rcases in_iff _ _ _ _ ezi with ⟨q1zz, q2zz⟩ | ⟨q1zz, q2zz, q3zz⟩
              · have ez5 := z_t ez5 q1zz
                unfold bk_X9_number_32 bk_X9_number_33 at ez5
                obtain ⟨zm, ezm, ez5⟩ := z_bd ez5
                have e52 : z5.2 = zm := by rw [← Option.some.inj ez5]
                have hczz := z_f hczz (fun czz => by
                  have czz := cv_lt (a := (gI z3c 9).toInt) (b := 7) rfl (by decide) czz
                  rcases vv with ⟨wzz, w'⟩ | ⟨wzz, w'⟩ <;> omega)
                exact Or.inl (nfail (by rw [e52]; exact ezm) hczz)
              · have ez5 := z_f ez5 q1zz
                unfold bk_X9_number_33 at ez5
                obtain ⟨zm, ezm, ez5⟩ := z_bd ez5
                have e52 : z5 = (x1zz, zm) := (Option.some.inj ez5).symm
                have vw : (gI z3c 9).toInt = (gL z3 17).toInt := by rcases vv with ⟨wzz, w'⟩ | ⟨wzz, w'⟩ <;> omega
                have hczz := z_t hczz (Int32.lt_iff_toInt_lt.mpr (by have : (7 : Int32).toInt = 7 := (by decide); omega))
                obtain ⟨z7, ez7, hczz⟩ := z_bd hczz
                obtain ⟨z8, ez8, hczz⟩ := z_bd hczz
                obtain ⟨z9, ez9, hczz⟩ := z_bd hczz
                have ezm := mu_ok r11 (by decide) ezm
                obtain ⟨V1, V2, V3, V4⟩ := tk_eq TT3.1 TT3.2.2.2.1 (by omega) (by omega) ez9 ezm
                obtain ⟨d1zz, d2zz, d3zz, d4zz, d5zz, d6zz, d7zz⟩ := add8 ek1 (by omega) ez8
                have tx1 : x1zz.toInt = (gL z3 17).toInt := by rw [g1]; exact l32 v0zz (by omega)
                -- the reference's end
                have ho7 : o7 = tA zm 25 k2zz x1zz := by rw [g7, e52]
                have q27 : gA o7 27 = gA o 27 := by rw [ho7]; show gA zm 27 = _; rw [V3.gA 27, r8]
                have q28 : gA o7 28 = gA o 28 := by rw [ho7]; show gA zm 28 = _; rw [V3.gA 28, r9]
                have qI : ∀ izz, izz ≠ 14 → izz ≠ 15 → izz ≠ 16 → gI o7 izz = gI z3 izz := fun izz azz bzz czz => by rw [ho7]; exact V3.1 izz azz bzz czz
                have q25 : ∀ izz, gA o7 25 izz = if izz = k2zz then x1zz else gA z3 25 izz := fun izz => by
                  rw [ho7]; show (if izz = k2zz then x1zz else gA zm 25 izz) = _; rw [V3.gA 25]
                have q24 : gA o7 24 = gA z3 24 := by rw [ho7]; show gA zm 24 = _; rw [V3.gA 24]
                have rr : RF o o7 := r1zz.tr (V3.rr.tr (by rw [ho7]; exact ⟨fun _ _ _ _ _ _ _ _ _ _ => rfl, fun izz _ bzz _ _ => fset_ne (f := fun izz => gA zm izz) bzz, rfl⟩))
                have fz : FR9 o1 o1 := FR9.rf
                refine Or.inr ⟨by rw [← Option.some.inj hczz], by rw [ezr], ?_⟩
                rw [← Option.some.inj hczz, ezr]
                have t26 : (gI z3 26).toInt = (gI o 26).toInt + 1 := by rw [r12]; exact i32_add rfl (by decide) (by omega) (by omega)
                have cfzz : CF rd oc z9 z8.2 := ⟨fun izz _ azz bzz czz d ezz => (V2.1 izz bzz czz d ezz).trans (c6zz izz azz bzz czz d ezz), V2.2.trans c62, d6zz, d7zz⟩
                have z7v : ((z7.toInt = 5 + (gL z3 17).toInt ∧ z2.toInt = 6) ∨ (z7.toInt = 12 + (gL z3 17).toInt ∧ z2.toInt = 7)) := by
                  unfold f_X3_wordOfPerson bk_X3_wordOfPerson_11 at ez7
                  by_cases e5' : z1 = 5
                  · have qzz := cv_eq (a := (jzz : Int)) (b := 5) w1zz (by decide) e5'
                    refine Or.inl ⟨?_, by omega⟩
                    rw [← Option.some.inj (z_t ez7 e5')]; exact i32_add (by decide) vw (by omega) (by omega)
                  · have qzz := cv_ne (a := (jzz : Int)) (b := 5) w1zz (by decide) e5'
                    refine Or.inr ⟨?_, by omega⟩
                    rw [← Option.some.inj (z_f ez7 e5')]; exact i32_add (by decide) vw (by omega) (by omega)
                refine ⟨⟨V1.cg rfl rfl rfl rfl rfl rfl (by rw [ho7]; rfl) (by rw [ho7]; rfl) (by rw [ho7]; rfl) (by rw [ho7]; rfl) (by rw [ho7]; rfl) (by rw [ho7]; rfl), by rw [qI 19 (by decide) (by decide) (by decide)]; exact r11, ?_, ?_, by first | omega | (dsimp only; omega), ?_, ?_, ?_, hbzz, by omega, hMzz.fr cfzz rr⟩, rr, cfzz, fun izz hizz => by rw [q27, q28]; exact ⟨rfl, rfl⟩, ?_, fun izz hizz => d5zz izz (by omega), fun izz hizz => ⟨?_, ?_⟩, ?_, ?_⟩
                · rw [V2.1 5 (by decide) (by decide) (by decide) (by decide), c5zz, qI 26 (by decide) (by decide) (by decide), r12, e5zz]
                · rw [qI 26 (by decide) (by decide) (by decide)]; omega
                · rw [qI 23 (by decide) (by decide) (by decide)]; omega
                · rw [ho7]; show _ ≤ (gI zm 14).toInt; rw [r13] at ea3; omega
                · rw [qI 29 (by decide) (by decide) (by decide), r4]; exact eb
                · rw [qI 30 (by decide) (by decide) (by decide)]; exact r10
                · rw [q24]; exact (r2 izz hizz).1
                · rw [q25 izz, if_neg (by omega)]; exact (r2 izz hizz).2
                · rw [qI 26 (by decide) (by decide) (by decide)]; omega
                · refine (Sx.cl true (gA z8.2 5) (gA z8.2 6) (gA o7 24) (gA o7 25)).2.1 k1zz k2zz d3zz ?_
                  rw [d4zz, q24, r5zz, q25 k2zz, if_pos rfl]
                  exact Or.inr ⟨rfl, (gL z3 17).toInt.toNat, by omega, by omega, by omega⟩
            · have ez5 := z_f ez5 c16
              unfold bk_X9_number_32 bk_X9_number_33 at ez5
              obtain ⟨zm, ezm, ez5⟩ := z_bd ez5
              have e52 : z5.2 = zm := by rw [← Option.some.inj ez5]
              exact Or.inl (nfail (by rw [e52]; exact ezm) (z_f hczz (by rw [tok]; exact c16)))
          · have d5' := cv_nle (a := 5) (b := (jzz : Int)) (by decide) w1zz c5'
            have ezr : zr = (3, z3) := (Option.some.inj (z_t hr3 (Int32.lt_iff_toInt_lt.mpr (by have : (6 : Int32).toInt = 6 := (by decide); omega)))).symm
            exact Or.inr (plainzz (Or.inr (by omega)) ezr (z_f hczz c5'))
