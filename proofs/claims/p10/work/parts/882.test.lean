-- a clause of a law
set_option maxHeartbeats 200000 in
theorem ix8 {xzz czz : Int32} {n kzz : Nat} (hzz : xzz.toInt = 8 * (n : Int)) (hn : n < 12) (hczz : czz.toInt = (kzz : Int)) (hk : kzz < 8) : (xzz + czz).toNatClampNeg = 8 * n + kzz := tnc_eq (by rw [i32_add hzz hczz (by omega) (by omega)]; omega)
set_option maxHeartbeats 200000 in
theorem clause_L {rd oc o yzz : Ob} {k1zz k2zz n : Nat} {v1zz : Int32} {zzz : Int32 × Ob × Ob} {Gzz : Nat → Int32} (hC : ClS false Gzz rd oc o k1zz k2zz n) (hn : n < 12) (evzz : v1zz.toInt = (n : Int)) (h1 : f_X6_readClause 12 400 rd oc v1zz = some zzz) (hy : f_X9_readLaw o = some yzz) : (zzz.1 = 0 ∧ gI yzz 19 = 1 ∧ gI yzz 18 = gI zzz.2.1 3 ∧ gA yzz 3 = Gzz) ∨ (zzz.1 = 1 ∧ ∃ k1' k2' : Nat, ClS false Gzz zzz.2.1 zzz.2.2 yzz k1' k2' (n + 1)) := by
  obtain ⟨hX, e21zz, e7zz, hH, hG, hcl⟩ := hC
  have hTzz := hX.1
  have hMzz := hX.2.2.2.2.2.2.2.2
  have ivzz : v1zz.toNatClampNeg = n := tnc_eq evzz
  unfold f_X6_readClause at h1
  have h1 := z_f h1 (hMzz.2.1 rfl).1
  unfold bk_X6_readClause_15 at h1
  obtain ⟨z1, ez1, h1⟩ := z_bd h1
  rcases head_eqL hTzz hH.1 ez1 hy with ⟨q1zz, q2zz⟩ | ⟨q1zz, q3zz, q4zz⟩
  · refine Or.inl ?_
    have h1 := z_t h1 q1zz
    unfold bk_X6_readClause_34 at h1
    obtain ⟨zs, ezs, h1⟩ := z_bd h1
    obtain ⟨-, h1⟩ := z_gd h1
    obtain ⟨s1zz, s2zz⟩ := stop8 ezs
    unfold bk_X9_readLaw_54 at q2zz
    obtain ⟨zm, ezm, q2zz⟩ := z_bd q2zz
    have em := mu_no hX.2.1 ezm
    have k19 : gI zm 19 = 1 := by rw [em]; rfl
    rw [← Option.some.inj (z_f q2zz (by rw [k19]; decide)), ← Option.some.inj h1]
    refine ⟨s1zz, k19, ?_, Eq.trans (by rw [em]; rfl) hG⟩
    show gI zm 18 = gI zs.2 3
    rw [s2zz, em]
    show gI o 14 = gI rd 7
    exact hTzz.2.2.1.symm
  · have h1 := z_f h1 (fun czz => by have czz := cv_eq (a := z1.toInt) (b := -1) rfl (by decide) czz; omega)
    have h1 := z_f h1 (fun czz => by have czz := cv_lt (a := (n : Int)) (b := 0) evzz (by decide) czz; omega)
    have h1 := z_t h1 (Int32.lt_iff_toInt_lt.mpr (by have : (12 : Int32).toInt = 12 := (by decide); omega))
    obtain ⟨z4, ez4, h1⟩ := z_bd h1
    obtain ⟨-, h1⟩ := z_gd h1
    obtain ⟨o6, g6, h1⟩ := z_lt h1
    obtain ⟨-, h1⟩ := z_gd h1
    obtain ⟨o8zz, g8, h1⟩ := z_lt h1
    obtain ⟨-, h1⟩ := z_gd h1
    obtain ⟨o10, g10, h1⟩ := z_lt h1
    rw [ivzz] at g6 g8 g10
    have q4zz := q4zz (by omega)
    unfold bk_X9_readLaw_54 at q4zz
    obtain ⟨zm, ezm, q4zz⟩ := z_bd q4zz
    have ezm := mu_ok hX.2.1 (by decide) ezm
    obtain ⟨hX4, f6zz, f9zz⟩ := hX.step ez4 ezm
    obtain ⟨x2zz, gx2, q4zz⟩ := z_lt (z_t q4zz hX4.2.1)
    have k21 : gI zm 21 = gI o 21 := f9zz.1 21 (by decide) (by decide) (by decide)
    have tx2 : x2zz.toInt = 8 * (n : Int) := by rw [gx2, k21]; exact i32_mul (by decide) e21zz (by omega) (by omega)
    obtain ⟨o7, w7zz, c21, c0zz, c3zz, q4zz⟩ := clr_L tx2 hn zfu 0 zm 0 (by decide) (by decide) q4zz
    have k8zz : gI o10 8 = gI oc 8 := by rw [g10, g8, g6]; rfl
    have hX7 : XS false z4 o10 o7 k1zz k2zz := hX4.rw' w7zz (by decide) k8zz
    have hmid : (zzz.1 = 0 ∧ ∃ wzz, bk_X9_readLaw_135 x2zz wzz = some yzz ∧ gI wzz 19 = 1 ∧ gI wzz 18 = gI zzz.2.1 3 ∧ gA wzz 3 = gA o7 3) ∨ (∃ (rd' oc' o' : Ob) (k1' k2' : Nat), bk_X6_readClause_94 12 400 v1zz rd' oc' = some zzz ∧ bk_X9_readLaw_135 x2zz o' = some yzz ∧ XS false rd' oc' o' k1' k2' ∧ RF o7 o' ∧ CF z4 o10 rd' oc' ∧ (∀ jzz, jzz < k1zz → gA oc' 5 jzz = gA o10 5 jzz ∧ gA oc' 6 jzz = gA o10 6 jzz) ∧ ckp k2zz o7 o' ∧ ((z1 = 3 ∧ k1' = k1zz ∧ k2' = k2zz) ∨ (¬ z1 = 3 ∧ ∃ mzz, mzz ≤ 50 ∧ Sx false (gA oc' 5) (gA oc' 6) (gA o' 24) (gA o' 25) false k1zz k1' k2zz k2' mzz))) := by
      by_cases czz : z1 = 3
      · exact Or.inr ⟨z4, o10, o7, k1zz, k2zz, z_t h1 czz, z_t q4zz czz, hX7, RF.rf, CF.rf, fun _ _ => ⟨rfl, rfl⟩, ckp.rf, Or.inl ⟨czz, rfl, rfl⟩⟩
      · obtain ⟨z26, ez26, h1⟩ := z_bd (z_f h1 czz)
        obtain ⟨z17, ez17, q4zz⟩ := z_bd (z_f q4zz czz)
        rcases x_sum hX7 ez26 ez17 with gb | ⟨e1zz, k1', k2', mzz, x1zz, x2', x3, x4zz, x5zz, x6, x7⟩
        · have h1 := Option.some.inj (z_t h1 gb.1)
          exact Or.inl ⟨by rw [← h1], z17, q4zz, gb.2.1, by rw [← h1]; exact gb.2.2.1, gb.2.2.2.1.2.1 3 (by decide) (by decide) (by decide) (by decide)⟩
        · exact Or.inr ⟨z26.2.1, z26.2.2, z17, k1', k2', z_f h1 (by rw [e1zz]; decide), q4zz, x1zz, x2', x3, x4zz, x5zz, Or.inr ⟨czz, mzz, x6, x7⟩⟩
    have G7 : gA o7 3 = Gzz := (w7zz.2.2.1 3 (by decide)).trans ((f9zz.gA 3).trans hG)
    rcases hmid with ⟨e0zz, wzz, b1, b2, b3, b4⟩ | ⟨rd', oc', o', k1', k2', h1, q4zz, hX', r1zz, cf1zz, cd1, ck1, hsum⟩
    · have qzz := bad135 b2 b1
      exact Or.inl ⟨e0zz, qzz.1, qzz.2.1.trans b3, qzz.2.2.trans (b4.trans G7)⟩
    · unfold bk_X6_readClause_94 at h1
      obtain ⟨-, h1⟩ := z_gd h1
      obtain ⟨o12, g12, h1⟩ := z_lt h1
      have h1 := z_f h1 (hX'.2.2.2.2.2.2.2.2.2.1 rfl).1
      unfold bk_X9_readLaw_135 at q4zz
      obtain ⟨-, q4zz⟩ := z_gd q4zz
      obtain ⟨o9, g9, q4zz⟩ := z_lt q4zz
      obtain ⟨-, q4zz⟩ := z_gd q4zz
      obtain ⟨o11, g11, q4zz⟩ := z_lt q4zz
      rw [ix8 (kzz := 4) tx2 hn (by decide) (by decide)] at g9
      rw [ix8 (kzz := 5) tx2 hn (by decide) (by decide)] at g11
      rw [ivzz] at g12
      have y9 : RW 22 (8 * n) o' o9 := by rw [g9]; exact RW.tA ⟨by omega, by omega⟩
      have y11 : RW 22 (8 * n) o9 o11 := by rw [g11]; exact RW.tA ⟨by omega, by omega⟩
      have hX11 : XS false rd' o12 o11 k1' k2' := hX'.rw' (y9.tr y11) (by decide) (by rw [g12]; rfl)
      have G11 : gA o11 3 = Gzz := ((y9.tr y11).2.2.1 3 (by decide)).trans ((r1zz.2.1 3 (by decide) (by decide) (by decide) (by decide)).trans G7)
      rcases ph_test (Kzz := bk_X9_readLaw_185 x2zz) hX11 h1 q4zz with ⟨e0zz, wzz, b1, b2, b3, b4⟩ | ⟨rd'', oc'', o'', k1'', k2'', h1, q4zz, hX'', r2, cf2, cd2, ck2, htst⟩
      · have qzz := bad185 b1
        exact Or.inl ⟨e0zz, qzz.1.trans b2, qzz.2.1.trans b3, qzz.2.2.trans (b4.trans G11)⟩
      · unfold bk_X6_readClause_200 at h1
        obtain ⟨-, h1⟩ := z_gd h1
        obtain ⟨o15, g15, h1⟩ := z_lt h1
        obtain ⟨o16, g16, h1⟩ := z_lt h1
        unfold bk_X9_readLaw_185 at q4zz
        obtain ⟨-, q4zz⟩ := z_gd q4zz
        obtain ⟨o13, g13, q4zz⟩ := z_lt q4zz
        rw [ivzz] at g15
        rw [ix8 (kzz := 6) tx2 hn (by decide) (by decide)] at g13
        rw [← Option.some.inj h1, ← Option.some.inj q4zz]
        refine Or.inr ⟨rfl, k1'', k2'', ?_⟩
        show ClS false Gzz rd'' o16 o13 k1'' k2'' (n + 1)
        have y13 : RW 22 (8 * n) o'' o13 := by rw [g13]; exact RW.tA ⟨by omega, by omega⟩
        have hXf : XS false rd'' o16 o13 k1'' k2'' := hX''.rw' y13 (by decide) (by rw [g16, g15]; rfl)
        have A16 : ∀ izz, gA o16 izz = gA o15 izz := fun izz => by rw [g16]; rfl
        have A2 : ∀ izz, izz < 5 → gA oc'' izz = gA o12 izz := fun izz hizz => cf2.2.2.2 izz (by omega) (by omega)
        have A1 : ∀ izz, izz < 5 → gA oc' izz = gA o10 izz := fun izz hizz => cf1zz.2.2.2 izz (by omega) (by omega)
        have v8 : gI o8zz 8 = gI oc 8 := by rw [g8, g6]; rfl
        have AA : ∀ izz mzz, izz < 5 → gA o16 izz mzz = if izz = 4 ∧ mzz = n then gI oc'' 8 else if izz = 3 ∧ mzz = n then gI oc' 8 else if izz = 2 ∧ mzz = n then gI oc 8 else if izz = 1 ∧ mzz = n then 1 else if izz = 0 ∧ mzz = n then z1 else gA oc izz mzz := fun izz mzz hizz => by
          rw [A16 izz, g15, tA_gA, A2 izz hizz, g12, tA_gA, A1 izz hizz, g10, tA_gA, v8, g8, tA_gA, g6, tA_gA]
        have R'' : gA o'' 22 = gA o11 22 := r2.2.1 22 (by decide) (by decide) (by decide) (by decide)
        have R' : gA o' 22 = gA o7 22 := r1zz.2.1 22 (by decide) (by decide) (by decide) (by decide)
        have v9 : gI o9 23 = gI o' 23 := y9.1 23 (by decide)
        have BB : ∀ xzz, gA o13 22 xzz = if xzz = 8 * n + 6 then gI o'' 23 else if xzz = 8 * n + 5 then gI o' 23 else if xzz = 8 * n + 4 then gI o' 23 else gA o7 22 xzz := fun xzz => by rw [g13, upd_at, R'', g11, upd_at, v9, g9, upd_at, R']
        have l1 : k1zz ≤ k1' ∧ k2zz ≤ k2' := by
          rcases hsum with ⟨-, azz, bzz⟩ | ⟨-, mzz, -, s⟩
          · exact ⟨by omega, by omega⟩
          · have := s.lt; exact ⟨by omega, by omega⟩
        have l2 : k1' ≤ k1'' ∧ k2' ≤ k2'' := by
          rcases htst with ⟨azz, bzz⟩ | ⟨mzz, -, s⟩
          · exact ⟨by omega, by omega⟩
          · have := s.lt; exact ⟨by omega, by omega⟩
        have e16zz : ∀ izz, izz = 5 ∨ izz = 6 → gA o16 izz = gA oc'' izz := fun izz hizz => by rw [g16, g15]; rcases hizz with ezz | ezz <;> rw [ezz] <;> rfl
        have e12zz : ∀ izz, izz = 5 ∨ izz = 6 → gA o12 izz = gA oc' izz := fun izz hizz => by rw [g12]; rcases hizz with ezz | ezz <;> rw [ezz] <;> rfl
        have e10zz : ∀ izz, izz = 5 ∨ izz = 6 → gA o10 izz = gA oc izz := fun izz hizz => by rw [g10, g8, g6]; rcases hizz with ezz | ezz <;> rw [ezz] <;> rfl
        have m24 : ∀ izz, izz = 24 ∨ izz = 25 → gA o13 izz = gA o'' izz := fun izz hizz => y13.2.2.1 izz (by omega)
        have n24zz : ∀ izz, izz = 24 ∨ izz = 25 → gA o11 izz = gA o' izz := fun izz hizz => (y9.tr y11).2.2.1 izz (by omega)
        have p24 : ∀ izz, izz = 24 ∨ izz = 25 → gA o7 izz = gA o izz := fun izz hizz => (w7zz.2.2.1 izz (by omega)).trans (f9zz.gA izz)
        refine ⟨hXf, ?_, ?_, ?_, (y13.2.2.1 3 (by decide)).trans ((r2.2.1 3 (by decide) (by decide) (by decide) (by decide)).trans G11), fun mzz hmzz => ?_⟩
        · have uzz : gI o13 21 = gI o 21 + 1 := by
            rw [show gI o13 21 = gI o'' 21 by rw [g13]; rfl, r2.1 21 (by decide) (by decide) (by decide) (by decide) (by decide) (by decide) (by decide) (by decide) (by decide), show gI o11 21 = gI o' 21 by rw [g11, g9]; rfl, r1zz.1 21 (by decide) (by decide) (by decide) (by decide) (by decide) (by decide) (by decide) (by decide) (by decide), c21, k21]
          rw [uzz]; exact Eq.trans (i32_add e21zz (by decide : (1 : Int32).toInt = 1) (by omega) (by omega)) (by omega)
        · have uzz : gI o16 7 = v1zz + 1 := by rw [g16]; rfl
          rw [uzz]; exact Eq.trans (i32_add evzz (by decide : (1 : Int32).toInt = 1) (by omega) (by omega)) (by omega)
        · exact hH.eq (y13.2.2.2.1.trans (r2.2.2.trans ((y9.tr y11).2.2.2.1.trans (r1zz.2.2.trans (w7zz.2.2.2.1.trans (congrArg Prod.snd f9zz.2.2))))))
        · by_cases ezz : mzz = n
          · rw [ezz]
            have a0zz : gA o16 0 n = z1 := by rw [AA 0 n (by decide), if_neg (by omega), if_neg (by omega), if_neg (by omega), if_neg (by omega), if_pos ⟨rfl, rfl⟩]
            have a2 : gA o16 2 n = gI oc 8 := by rw [AA 2 n (by decide), if_neg (by omega), if_neg (by omega), if_pos ⟨rfl, rfl⟩]
            have a3 : gA o16 3 n = gI oc' 8 := by rw [AA 3 n (by decide), if_neg (by omega), if_pos ⟨rfl, rfl⟩]
            have a4 : gA o16 4 n = gI oc'' 8 := by rw [AA 4 n (by decide), if_pos ⟨rfl, rfl⟩]
            have b0 : gA o13 22 (8 * n) = z1 := by rw [BB, if_neg (by omega), if_neg (by omega), if_neg (by omega)]; exact c0zz
            have b3 : gA o13 22 (8 * n + 3) = gI zm 23 := by rw [BB, if_neg (by omega), if_neg (by omega), if_neg (by omega)]; exact c3zz
            have b4 : gA o13 22 (8 * n + 4) = gI o' 23 := by rw [BB, if_neg (by omega), if_neg (by omega), if_pos rfl]
            have b5 : gA o13 22 (8 * n + 5) = gI o' 23 := by rw [BB, if_neg (by omega), if_pos rfl]
            have b6 : gA o13 22 (8 * n + 6) = gI o'' 23 := by rw [BB, if_pos rfl]
            refine ⟨k1zz, k1', k1'', k2zz, k2', k2', k2'', ?_, ?_, ?_, ?_, ?_, ?_, ?_, ?_, ?_, ⟨l1.1, l2.1, Nat.le_refl _, l2.2, Nat.le_refl _⟩, ?_, ?_, fun qzz => by cases qzz⟩
            · show gA o16 0 n = gA o13 22 (8 * n); rw [a0zz, b0]
            · rw [a0zz]; exact q1zz
            · rw [a2]; exact hX.2.2.2.2.1
            · rw [a3]; exact hX'.2.2.2.2.1
            · rw [a4]; exact hX''.2.2.2.2.1
            · show (gA o13 22 (8 * n + 3)).toInt = _; rw [b3]; exact hX4.2.2.2.2.2.1
            · show (gA o13 22 (8 * n + 4)).toInt = _; rw [b4]; exact hX'.2.2.2.2.2.1
            · show (gA o13 22 (8 * n + 5)).toInt = _; rw [b5]; exact hX'.2.2.2.2.2.1
            · show (gA o13 22 (8 * n + 6)).toInt = _; rw [b6]; exact hX''.2.2.2.2.2.1
            · rw [a0zz]
              rcases hsum with ⟨azz, bzz, czz⟩ | ⟨azz, m', bzz, czz⟩
              · exact Or.inl ⟨azz, bzz.symm, czz.symm⟩
              · refine Or.inr ⟨azz, m', bzz, l2.2, czz.eq (fun jzz i1zz i2zz => ?_) (fun jzz i1zz i2zz => ?_)⟩
                · rw [e16zz 5 (Or.inl rfl), e16zz 6 (Or.inr rfl), (cd2 jzz i2zz).1, (cd2 jzz i2zz).2, e12zz 5 (Or.inl rfl), e12zz 6 (Or.inr rfl)]; exact ⟨rfl, rfl⟩
                · rw [m24 24 (Or.inl rfl), m24 25 (Or.inr rfl), (ck2 jzz i2zz).1, (ck2 jzz i2zz).2, n24zz 24 (Or.inl rfl), n24zz 25 (Or.inr rfl)]; exact ⟨rfl, rfl⟩
            · rcases htst with ⟨azz, bzz⟩ | ⟨m', azz, bzz⟩
              · exact Or.inl ⟨azz.symm, bzz.symm⟩
              · refine Or.inr ⟨m', azz, bzz.eq (fun jzz i1zz i2zz => ?_) (fun jzz i1zz i2zz => ?_)⟩
                · rw [e16zz 5 (Or.inl rfl), e16zz 6 (Or.inr rfl)]; exact ⟨rfl, rfl⟩
                · rw [m24 24 (Or.inl rfl), m24 25 (Or.inr rfl)]; exact ⟨rfl, rfl⟩
          · have hmn : mzz < n := by omega
            refine (hcl mzz hmn).mv (fun izz hizz => ?_) (fun jzz hj => ?_) (fun izz hizz => ?_) (fun jzz hj => ?_) (by omega) (by omega)
            · rw [AA izz mzz hizz, if_neg (fun qzz => ezz qzz.2), if_neg (fun qzz => ezz qzz.2), if_neg (fun qzz => ezz qzz.2), if_neg (fun qzz => ezz qzz.2), if_neg (fun qzz => ezz qzz.2)]
            · rw [e16zz 5 (Or.inl rfl), e16zz 6 (Or.inr rfl), (cd2 jzz (by omega)).1, (cd2 jzz (by omega)).2, e12zz 5 (Or.inl rfl), e12zz 6 (Or.inr rfl), (cd1 jzz hj).1, (cd1 jzz hj).2, e10zz 5 (Or.inl rfl), e10zz 6 (Or.inr rfl)]; exact ⟨rfl, rfl⟩
            · show gA o13 22 (8 * mzz + izz) = gA o 22 (8 * mzz + izz)
              rw [BB, if_neg (by omega), if_neg (by omega), if_neg (by omega), w7zz.2.2.2.2 (8 * mzz + izz) (Or.inl (by omega)), f9zz.gA 22]
            · rw [m24 24 (Or.inl rfl), m24 25 (Or.inr rfl), (ck2 jzz (by omega)).1, (ck2 jzz (by omega)).2, n24zz 24 (Or.inl rfl), n24zz 25 (Or.inr rfl), (ck1 jzz hj).1, (ck1 jzz hj).2, p24 24 (Or.inl rfl), p24 25 (Or.inr rfl)]; exact ⟨rfl, rfl⟩
