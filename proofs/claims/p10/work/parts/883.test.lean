-- a whole text
def dTx : DD := ([14, 15, 16, 18, 19, 20, 21, 23, 26, 29, 30], [17], [22, 24, 25, 27, 28, 55], [], [])
def TxO (od : Bool) (Gzz : Nat → Int32) (o0zz : Ob) (zzz : Int32 × Ob × Ob) (Kzz : Ob → Option (Int32 × Ob)) (yzz : Int32 × Ob) : Prop := ∃ wzz : Ob, Kzz wzz = some yzz ∧ (gA wzz 3 = Gzz ∧ FrX dTx o0zz wzz) ∧ ((zzz.1 = 0 ∧ ((gI wzz 19 = 1 ∧ gI wzz 18 = gI zzz.2.1 3) ∨ (gI wzz 19 = 0 ∧ ¬ gI wzz 16 = 0 ∧ gI wzz 14 = gI zzz.2.1 3))) ∨ (zzz.1 = 1 ∧ gI wzz 19 = 0 ∧ gI wzz 16 = 0 ∧ ∃ k1zz k2zz n : Nat, 1 ≤ n ∧ n ≤ 12 ∧ ClS od Gzz zzz.2.1 zzz.2.2 wzz k1zz k2zz n))
def TbW (o : Ob) : Prop := (∀ kzz, kzz < 9 → (gM o 31 kzz).toInt = codR (tx7.getD kzz [])) ∧ (∀ kzz, kzz < 7 → (gM o 32 kzz).toInt = codR (tx8.getD kzz []))
set_option maxHeartbeats 200000 in
theorem text_L {yzz : Int32 × Ob} {zzz : Int32 × Ob × Ob} {Gzz : Nat → Int32} {o0zz : Ob} : ∀ (N1 N2 : Nat) (v2 : Int32) (rd oc o z3 : Ob) (k1zz k2zz n : Nat), FrX dTx o0zz o → ClS false Gzz rd oc o k1zz k2zz n → n ≤ 12 → v2.toInt = (n : Int) → lp_X6_readText_33 12 400 N1 (v2, rd, oc) = some zzz → f_X9_readLaw o = some z3 → lp_X9_law_37 N2 z3 = some yzz → TxO false Gzz o0zz zzz bk_X9_law_64 yzz := by
  intro N1
  induction N1 with
  | zero => intro N2 v2 rd oc o z3 k1zz k2zz n _ _ _ _ hzz; cases hzz
  | succ N1 ihzz =>
    intro N2 v2 rd oc o z3 k1zz k2zz n hF hC hn evzz h1 hr hy
    have hF3 : FrX dTx o0zz z3 := hF.tr ((fr_f_X9_readLaw hr).mono rfl)
    cases N2 with
    | zero => cases hy
    | succ N2 =>
    have h1 : lb_X6_readText_33 12 400 (lp_X6_readText_33 12 400 N1) v2 rd oc = some zzz := h1
    have hy : lb_X9_law_37 (lp_X9_law_37 N2) z3 = some yzz := hy
    unfold lb_X6_readText_33 at h1
    unfold lb_X9_law_37 at hy
    have hTzz := hC.1.1
    by_cases czz : (12 : Int32) ≤ v2
    · have d := cv_le (a := 12) (b := (n : Int)) (by decide) evzz czz
      obtain ⟨zs, ezs, h1⟩ := z_bd (z_t h1 czz)
      obtain ⟨-, h1⟩ := z_gd h1
      obtain ⟨s1zz, s2zz⟩ := stop8 ezs
      have qzz := too_manyL hTzz hC.1.2.1 hC.2.2.2.1.1 (by rw [hC.2.1]; omega) hr
      refine ⟨z3, z_f hy (by rw [qzz.1]; decide), ⟨qzz.2.2.trans hC.2.2.2.2.1, hF3⟩, Or.inl ⟨by rw [← Option.some.inj h1]; exact s1zz, Or.inl ⟨qzz.1, ?_⟩⟩⟩
      rw [← Option.some.inj h1]
      show gI z3 18 = gI zs.2 3
      rw [qzz.2.1, s2zz]
      show gI o 14 = gI rd 7
      exact hTzz.2.2.1.symm
    · have d := cv_nle (a := 12) (b := (n : Int)) (by decide) evzz czz
      obtain ⟨z10, ez10, h1⟩ := z_bd (z_f h1 czz)
      rcases clause_L hC (by omega) evzz ez10 hr with ⟨a1zz, a2, a3, a4⟩ | ⟨a1zz, k1', k2', hC'⟩
      · have h1 := Option.some.inj (z_t h1 a1zz)
        exact ⟨z3, z_f hy (by rw [a2]; decide), ⟨a4, hF3⟩, Or.inl ⟨by rw [← h1], Or.inl ⟨a2, by rw [← h1]; exact a3⟩⟩⟩
      · have h1 := z_f h1 (by rw [a1zz]; decide)
        have hT' := hC'.1.1
        obtain ⟨zi, ezi, hy⟩ := z_bd (z_t hy hC'.1.2.1)
        by_cases c6zz : gI z10.2.1 6 = 0
        · have h1 := Option.some.inj (z_t h1 c6zz)
          have k16 : gI z3 16 = 0 := hT'.2.1.symm.trans c6zz
          have hizz : zi = 0 := by
            rcases s9 hT' ezi with ⟨uzz, -⟩ | ⟨-, uzz⟩
            · exact uzz
            · exact absurd (k16.symm.trans uzz.1) (by decide)
          refine ⟨z3, z_t hy hizz, ⟨hC'.2.2.2.2.1, hF3⟩, Or.inr ⟨by rw [← h1], hC'.1.2.1, k16, k1', k2', n + 1, by omega, by omega, ?_⟩⟩
          rw [← h1]; exact hC'
        · obtain ⟨z11, ez11, h1⟩ := z_bd (z_f h1 c6zz)
          rcases s8 hT' ez11 with ⟨u1zz, u2zz⟩ | ⟨u1zz, u2zz⟩ <;> rcases s9 hT' ezi with ⟨w1zz, w2zz⟩ | ⟨w1zz, w2zz⟩
          · obtain ⟨zs, ezs, h1⟩ := z_bd (z_t h1 u1zz)
            obtain ⟨-, h1⟩ := z_gd h1
            obtain ⟨s1zz, s2zz⟩ := stop8 ezs
            refine ⟨z3, z_t hy w1zz, ⟨hC'.2.2.2.2.1, hF3⟩, Or.inl ⟨by rw [← Option.some.inj h1]; exact s1zz, Or.inr ⟨hC'.1.2.1, fun qzz => c6zz (hT'.2.1.trans qzz), ?_⟩⟩⟩
            rw [← Option.some.inj h1]
            show gI z3 14 = gI zs.2 3
            rw [s2zz]
            show gI z3 14 = gI z10.2.1 7
            exact hT'.2.2.1.symm
          · exact absurd w2zz u2zz
          · exact absurd u2zz w2zz
          · obtain ⟨z12, ez12, h1⟩ := z_bd (z_f h1 u1zz)
            obtain ⟨x13, g13, h1⟩ := z_lt h1
            obtain ⟨z23, ez23, hy⟩ := z_bd (z_f hy w1zz)
            obtain ⟨z24, ez24, hy⟩ := z_bd hy
            obtain ⟨hX, f6zz, f9zz⟩ := hC'.1.step ez12 ez23
            have t13 : x13.toInt = ((n + 1 : Nat) : Int) := by rw [g13]; exact Eq.trans (i32_add evzz (by decide : (1 : Int32).toInt = 1) (by omega) (by omega)) (by omega)
            refine ihzz N2 x13 z12 z10.2.2 z23 z24 k1' k2' (n + 1) (hF3.tr ((fr_f_X9_next ez23).mono rfl)) ⟨hX, ?_, hC'.2.2.1, hC'.2.2.2.1.eq (congrArg Prod.snd f9zz.2.2), (f9zz.gA 3).trans hC'.2.2.2.2.1, fun mzz hmzz => ?_⟩ (by omega) t13 h1 ez24 hy
            · rw [f9zz.1 21 (by decide) (by decide) (by decide)]; exact hC'.2.1
            · have qzz := hC'.2.2.2.2.2 mzz hmzz
              rw [f9zz.gA (rwF false), f9zz.gA 24, f9zz.gA 25]; exact qzz
set_option maxHeartbeats 200000 in
theorem parse_L {rd oc o z2 z3 : Ob} {yzz : Int32 × Ob} {zzz : Int32 × Ob × Ob} {Nzz : Nat} (hz : TZ rd o) (ht : TbW o) (hH : HDs o) (h1 : f_X6_readText 12 400 rd oc 1 = some zzz) (h2 : f_X9_beginText o 0 = some z2) (hr : f_X9_readLaw z2 = some z3) (hy : lp_X9_law_37 Nzz z3 = some yzz) : TxO false (gA o 3) o zzz bk_X9_law_64 yzz := by
  have hF0 : FrX dTx o z2 := (fr_f_X9_beginText h2).mono rfl
  unfold f_X6_readText at h1
  obtain ⟨-, h1⟩ := z_gd h1
  obtain ⟨o2, g2, h1⟩ := z_lt h1
  obtain ⟨c3zz, ez3, h1⟩ := z_bd h1
  obtain ⟨o4zz, g4, h1⟩ := z_lt h1
  obtain ⟨o5zz, g5zz, h1⟩ := z_lt h1
  obtain ⟨o6, g6, h1⟩ := z_lt h1
  obtain ⟨z7, ez7, h1⟩ := z_bd h1
  unfold f_X0_clear at ez3
  obtain ⟨c1zz, gc1, ez3⟩ := z_lt ez3
  obtain ⟨c2zz, gc2, ez3⟩ := z_lt ez3
  have ez3 := Option.some.inj ez3
  unfold f_X9_beginText at h2
  obtain ⟨-, h2⟩ := z_gd h2
  obtain ⟨p2zz, gp2, h2⟩ := z_lt h2
  obtain ⟨p3zz, ep3, h2⟩ := z_bd h2
  obtain ⟨p4zz, gp4, h2⟩ := z_lt h2
  obtain ⟨p5zz, gp5, h2⟩ := z_lt h2
  obtain ⟨p6zz, gp6, h2⟩ := z_lt h2
  have h2 := Option.some.inj h2
  unfold f_X9_begin at ep3
  obtain ⟨b1, gb1, ep3⟩ := z_lt ep3
  obtain ⟨b2, gb2, ep3⟩ := z_lt ep3
  obtain ⟨b3, gb3, ep3⟩ := z_lt ep3
  obtain ⟨b4, eb4, ep3⟩ := z_bd ep3
  have ep3 := Option.some.inj ep3
  have z0 : (0 : Int32).toInt = 0 := by decide
  have r13 : gI b3 13 = gI o 13 := by rw [gb3, gb2, gb1, gp2]; rfl
  have r15 : gI b3 15 = 0 := by rw [gb3, gb2, gb1]; rfl
  have hz6 : TZ o6 b3 := by
    refine ⟨?_, ?_, by rw [r13]; exact hz.2.2.1, by rw [r13]; exact hz.2.2.2⟩
    · rw [r13, g6, g5zz, g4, g2]; exact hz.1
    · have uzz : gA b3 12 = gA o 12 := by rw [gb3, gb2, gb1, gp2]; rfl
      rw [uzz, g6, g5zz, g4, g2]; exact hz.2.1
  obtain ⟨T1, T2, T3, T4⟩ := tk_eq hz6 (by rw [r15, g6]; rfl) (by rw [r15, z0]; exact Int.le_refl _) (by rw [r15, r13, z0]; exact hz.2.2.1) ez7 eb4
  have eo : z2 = sI (sI (sI b4 21 0) 23 0) 26 0 := by rw [← h2, gp6, gp5, gp4, ep3]
  have ek : gI c3zz 8 = 0 := by rw [← ez3, gc2]; rfl
  have ek7 : gI c3zz 7 = 0 := by rw [← ez3, gc2, gc1]; rfl
  have em : z2.2.2.2 = o.2.2.2 := by
    have uzz : z2.2.2.2 = b4.2.2.2 := by rw [eo]; rfl
    have u2zz : b3.2.2.2 = o.2.2.2 := by rw [gb3, gb2, gb1, gp2]; rfl
    exact uzz.trans ((congrArg Prod.snd T3.2.2).trans u2zz)
  have eMzz : ∀ izz, gM z2 izz = gM o izz := fun izz => congrFun (congrArg Prod.fst em) izz
  have hT2 : TT z7 z2 := T1.cg rfl rfl rfl rfl rfl rfl (by rw [eo]; rfl) (by rw [eo]; rfl) (by rw [eo]; rfl) (by rw [eo]; rfl) (by rw [eo]; rfl) (by rw [eo]; rfl)
  obtain ⟨azz, bzz, ea, -⟩ := hT2.2.2.2.2
  have k4zz : gI z7 4 = 1 := by rw [T2.1 4 (by decide) (by decide) (by decide) (by decide), g6, g5zz, g4, g2]; rfl
  have k20 : gI z2 20 = 0 := by
    have uzz : gI z2 20 = gI b4 20 := by rw [eo]; rfl
    rw [uzz, T3.1 20 (by decide) (by decide) (by decide), gb3, gb2, gb1, gp2]; rfl
  have hX : XS false z7 c3zz z2 0 0 := by
    refine ⟨hT2, ?_, ?_, ?_, by rw [ek]; decide, ?_, by omega, by decide, ⟨fun qzz => ?_, fun qzz => ?_, fun kzz hk => by rw [eMzz 31]; exact ht.1 kzz hk, fun kzz hk => by rw [eMzz 32]; exact ht.2 kzz hk⟩⟩
    · have uzz : gI z2 19 = gI b4 19 := by rw [eo]; rfl
      rw [uzz, T3.1 19 (by decide) (by decide) (by decide), gb3, gb2]; rfl
    · rw [T2.1 5 (by decide) (by decide) (by decide) (by decide), eo, g6, g5zz, g4]; rfl
    · have uzz : gI z2 26 = 0 := by rw [eo]; rfl
      rw [uzz]; decide
    · have uzz : gI z2 23 = 0 := by rw [eo]; rfl
      rw [uzz]; decide
    · cases qzz
    · exact ⟨by rw [k4zz]; decide, k20⟩
  have k21 : gI z2 21 = 0 := by rw [eo]; rfl
  have e3zz : gA z2 3 = gA o 3 := by
    have uzz : gA z2 3 = gA b4 3 := by rw [eo]; rfl
    have u2zz : gA b3 3 = gA o 3 := by rw [gb3, gb2, gb1, gp2]; rfl
    exact uzz.trans ((T3.gA 3).trans u2zz)
  exact text_L zfu Nzz 0 z7 c3zz z2 z3 0 0 0 hF0 ⟨hX, by rw [k21]; decide, by rw [ek7]; decide, hH.eq em, e3zz, fun mzz hmzz => absurd hmzz (Nat.not_lt_zero _)⟩ (by decide) (by decide) h1 hr hy
