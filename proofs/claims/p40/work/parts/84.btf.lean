def dTx : DD := ([14, 15, 16, 18, 19, 20, 21, 23, 26, 29, 30], [17], [22, 24, 25, 27, 28, 55], [], [])
def TxO (od : Bool) (Gzz : Nat → Int32) (o0zz : Ob) (zzz : Int32 × Ob × Ob) (Kzz : Ob → Option (Int32 × Ob)) (yzz : Int32 × Ob) : Prop := ∃ wzz : Ob, Kzz wzz = some yzz ∧ (gA wzz 3 = Gzz ∧ FrX dTx o0zz wzz) ∧ ((zzz.1 = 0 ∧ ((gI wzz 19 = 1 ∧ gI wzz 18 = gI zzz.2.1 3) ∨ (gI wzz 19 = 0 ∧ ¬ gI wzz 16 = 0 ∧ gI wzz 14 = gI zzz.2.1 3))) ∨ (zzz.1 = 1 ∧ gI wzz 19 = 0 ∧ gI wzz 16 = 0 ∧ ∃ k1zz k2zz n : Nat, 1 ≤ n ∧ n ≤ 12 ∧ ClS od Gzz zzz.2.1 zzz.2.2 wzz k1zz k2zz n))
def TbW (o : Ob) : Prop := (∀ kzz, kzz < 9 → (gM o 31 kzz).toInt = codR (tx7.getD kzz [])) ∧ (∀ kzz, kzz < 7 → (gM o 32 kzz).toInt = codR (tx8.getD kzz []))
set_option maxHeartbeats 200000 in
theorem text_L {yzz : Int32 × Ob} {zzz : Int32 × Ob × Ob} {Gzz : Nat → Int32} {o0zz : Ob} : ∀ (N1 N2 : Nat) (v2 : Int32) (rd oc o z3 : Ob) (k1zz k2zz n : Nat), FrX dTx o0zz o → ClS false Gzz rd oc o k1zz k2zz n → n ≤ 12 → v2.toInt = (n : Int) → lp_X6_readText_33 12 400 N1 (v2, rd, oc) = some zzz → f_X9_readLaw o = some z3 → lp_X9_law_37 N2 z3 = some yzz → TxO false Gzz o0zz zzz bk_X9_law_64 yzz := by
  intro N1
  induction N1 with
  | zero => intro N2 v2 rd oc o z3 k1zz k2zz n _ _ _ _ hzz; cases hzz
  | succ N1 ihzz =>
    intro N2 v2 rd oc o z3 k1zz k2zz n hF hC hn evzz h1 hr hy
    have hF3 : FrX dTx o0zz z3 := hF.tr ((fr_f_X9_readLaw hr).mono rfl)
    cases N2 with
    | zero => cases hy
    | succ N2 =>
    have h1 : lb_X6_readText_33 12 400 (lp_X6_readText_33 12 400 N1) v2 rd oc = some zzz := h1
    have hy : lb_X9_law_37 (lp_X9_law_37 N2) z3 = some yzz := hy
    unfold lb_X6_readText_33 at h1
    unfold lb_X9_law_37 at hy
    have hTzz := hC.1.1
    by_cases czz : (12 : Int32) ≤ v2
    · have d := cv_le (a := 12) (b := (n : Int)) (by decide) evzz czz
      obtain ⟨zs, ezs, h1⟩ := z_bd (z_t h1 czz)
      obtain ⟨-, h1⟩ := z_gd h1
      obtain ⟨s1zz, s2zz⟩ := stop8 ezs
      have qzz := too_manyL hTzz hC.1.2.1 hC.2.2.2.1.1 (by rw [hC.2.1]; omega) hr
      refine ⟨z3, z_f hy (by rw [qzz.1]; decide), ⟨qzz.2.2.trans hC.2.2.2.2.1, hF3⟩, Or.inl ⟨by rw [← Option.some.inj h1]; exact s1zz, Or.inl ⟨qzz.1, ?_⟩⟩⟩
      rw [← Option.some.inj h1]
      show gI z3 18 = gI zs.2 3
      rw [qzz.2.1, s2zz]
      show gI o 14 = gI rd 7
      exact hTzz.2.2.1.symm
    · have d := cv_nle (a := 12) (b := (n : Int)) (by decide) evzz czz
      obtain ⟨z10, ez10, h1⟩ := z_bd (z_f h1 czz)
      rcases clause_L hC (by omega) evzz ez10 hr with ⟨a1zz, a2, a3, a4⟩ | ⟨a1zz, k1', k2', hC'⟩
      · have h1 := Option.some.inj (z_t h1 a1zz)
        exact ⟨z3, z_f hy (by rw [a2]; decide), ⟨a4, hF3⟩, Or.inl ⟨by rw [← h1], Or.inl ⟨a2, by rw [← h1]; exact a3⟩⟩⟩
      · have h1 := z_f h1 (by rw [a1zz]; decide)
        have hT' := hC'.1.1
        obtain ⟨zi, ezi, hy⟩ := z_bd (z_t hy hC'.1.2.1)
        by_cases c6zz : gI z10.2.1 6 = 0
        · have h1 := Option.some.inj (z_t h1 c6zz)
          have k16 : gI z3 16 = 0 := hT'.2.1.symm.trans c6zz
          have hizz : zi = 0 := by
            rcases s9 hT' ezi with ⟨uzz, -⟩ | ⟨-, uzz⟩
            · exact uzz
            · exact absurd (k16.symm.trans uzz.1) (by decide)
          refine ⟨z3, z_t hy hizz, ⟨hC'.2.2.2.2.1, hF3⟩, Or.inr ⟨by rw [← h1], hC'.1.2.1, k16, k1', k2', n + 1, by omega, by omega, ?_⟩⟩
          rw [← h1]; exact hC'
        · obtain ⟨z11, ez11, h1⟩ := z_bd (z_f h1 c6zz)
          rcases s8 hT' ez11 with ⟨u1zz, u2zz⟩ | ⟨u1zz, u2zz⟩ <;> rcases s9 hT' ezi with ⟨w1zz, w2zz⟩ | ⟨w1zz, w2zz⟩
          · obtain ⟨zs, ezs, h1⟩ := z_bd (z_t h1 u1zz)
            obtain ⟨-, h1⟩ := z_gd h1
            obtain ⟨s1zz, s2zz⟩ := stop8 ezs
            refine ⟨z3, z_t hy w1zz, ⟨hC'.2.2.2.2.1, hF3⟩, Or.inl ⟨by rw [← Option.some.inj h1]; exact s1zz, Or.inr ⟨hC'.1.2.1, fun qzz => c6zz (hT'.2.1.trans qzz), ?_⟩⟩⟩
            rw [← Option.some.inj h1]
            show gI z3 14 = gI zs.2 3
            rw [s2zz]
            show gI z3 14 = gI z10.2.1 7
            exact hT'.2.2.1.symm
          · exact absurd w2zz u2zz
          · exact absurd u2zz w2zz
          · obtain ⟨z12, ez12, h1⟩ := z_bd (z_f h1 u1zz)
            obtain ⟨x13, g13, h1⟩ := z_lt h1
            obtain ⟨z23, ez23, hy⟩ := z_bd (z_f hy w1zz)
            obtain ⟨z24, ez24, hy⟩ := z_bd hy
            obtain ⟨hX, f6zz, f9zz⟩ := hC'.1.step ez12 ez23
            have t13 : x13.toInt = ((n + 1 : Nat) : Int) := by rw [g13]; exact Eq.trans (i32_add evzz (by decide : (1 : Int32).toInt = 1) (by omega) (by omega)) (by omega)
            refine ihzz N2 x13 z12 z10.2.2 z23 z24 k1' k2' (n + 1) (hF3.tr ((fr_f_X9_next ez23).mono rfl)) ⟨hX, ?_, hC'.2.2.1, hC'.2.2.2.1.eq (congrArg Prod.snd f9zz.2.2), (f9zz.gA 3).trans hC'.2.2.2.2.1, fun mzz hmzz => ?_⟩ (by omega) t13 h1 ez24 hy
            · rw [f9zz.1 21 (by decide) (by decide) (by decide)]; exact hC'.2.1
            · have qzz := hC'.2.2.2.2.2 mzz hmzz
              rw [f9zz.gA (rwF false), f9zz.gA 24, f9zz.gA 25]; exact qzz
set_option maxHeartbeats 200000 in
theorem parse_L {rd oc o z2 z3 : Ob} {yzz : Int32 × Ob} {zzz : Int32 × Ob × Ob} {Nzz : Nat} (hz : TZ rd o) (ht : TbW o) (hH : HDs o) (h1 : f_X6_readText 12 400 rd oc 1 = some zzz) (h2 : f_X9_beginText o 0 = some z2) (hr : f_X9_readLaw z2 = some z3) (hy : lp_X9_law_37 Nzz z3 = some yzz) : TxO false (gA o 3) o zzz bk_X9_law_64 yzz := by
  have hF0 : FrX dTx o z2 := (fr_f_X9_beginText h2).mono rfl
  unfold f_X6_readText at h1
  obtain ⟨-, h1⟩ := z_gd h1
  obtain ⟨o2, g2, h1⟩ := z_lt h1
  obtain ⟨c3zz, ez3, h1⟩ := z_bd h1
  obtain ⟨o4zz, g4, h1⟩ := z_lt h1
  obtain ⟨o5zz, g5zz, h1⟩ := z_lt h1
  obtain ⟨o6, g6, h1⟩ := z_lt h1
  obtain ⟨z7, ez7, h1⟩ := z_bd h1
  unfold f_X0_clear at ez3
  obtain ⟨c1zz, gc1, ez3⟩ := z_lt ez3
  obtain ⟨c2zz, gc2, ez3⟩ := z_lt ez3
  have ez3 := Option.some.inj ez3
  unfold f_X9_beginText at h2
  obtain ⟨-, h2⟩ := z_gd h2
  obtain ⟨p2zz, gp2, h2⟩ := z_lt h2
  obtain ⟨p3zz, ep3, h2⟩ := z_bd h2
  obtain ⟨p4zz, gp4, h2⟩ := z_lt h2
  obtain ⟨p5zz, gp5, h2⟩ := z_lt h2
  obtain ⟨p6zz, gp6, h2⟩ := z_lt h2
  have h2 := Option.some.inj h2
  unfold f_X9_begin at ep3
  obtain ⟨b1, gb1, ep3⟩ := z_lt ep3
  obtain ⟨b2, gb2, ep3⟩ := z_lt ep3
  obtain ⟨b3, gb3, ep3⟩ := z_lt ep3
  obtain ⟨b4, eb4, ep3⟩ := z_bd ep3
  have ep3 := Option.some.inj ep3
  have z0 : (0 : Int32).toInt = 0 := by decide
  have r13 : gI b3 13 = gI o 13 := by rw [gb3, gb2, gb1, gp2]; rfl
  have r15 : gI b3 15 = 0 := by rw [gb3, gb2, gb1]; rfl
  have hz6 : TZ o6 b3 := by
    refine ⟨?_, ?_, by rw [r13]; exact hz.2.2.1, by rw [r13]; exact hz.2.2.2⟩
    · rw [r13, g6, g5zz, g4, g2]; exact hz.1
    · have uzz : gA b3 12 = gA o 12 := by rw [gb3, gb2, gb1, gp2]; rfl
      rw [uzz, g6, g5zz, g4, g2]; exact hz.2.1
  obtain ⟨T1, T2, T3, T4⟩ := tk_eq hz6 (by rw [r15, g6]; rfl) (by rw [r15, z0]; exact Int.le_refl _) (by rw [r15, r13, z0]; exact hz.2.2.1) ez7 eb4
  have eo : z2 = sI (sI (sI b4 21 0) 23 0) 26 0 := by rw [← h2, gp6, gp5, gp4, ep3]
  have ek : gI c3zz 8 = 0 := by rw [← ez3, gc2]; rfl
  have ek7 : gI c3zz 7 = 0 := by rw [← ez3, gc2, gc1]; rfl
  have em : z2.2.2.2 = o.2.2.2 := by
    have uzz : z2.2.2.2 = b4.2.2.2 := by rw [eo]; rfl
    have u2zz : b3.2.2.2 = o.2.2.2 := by rw [gb3, gb2, gb1, gp2]; rfl
    exact uzz.trans ((congrArg Prod.snd T3.2.2).trans u2zz)
  have eMzz : ∀ izz, gM z2 izz = gM o izz := fun izz => congrFun (congrArg Prod.fst em) izz
  have hT2 : TT z7 z2 := T1.cg rfl rfl rfl rfl rfl rfl (by rw [eo]; rfl) (by rw [eo]; rfl) (by rw [eo]; rfl) (by rw [eo]; rfl) (by rw [eo]; rfl) (by rw [eo]; rfl)
  obtain ⟨azz, bzz, ea, -⟩ := hT2.2.2.2.2
  have k4zz : gI z7 4 = 1 := by rw [T2.1 4 (by decide) (by decide) (by decide) (by decide), g6, g5zz, g4, g2]; rfl
  have k20 : gI z2 20 = 0 := by
    have uzz : gI z2 20 = gI b4 20 := by rw [eo]; rfl
    rw [uzz, T3.1 20 (by decide) (by decide) (by decide), gb3, gb2, gb1, gp2]; rfl
  have hX : XS false z7 c3zz z2 0 0 := by
    refine ⟨hT2, ?_, ?_, ?_, by rw [ek]; decide, ?_, by omega, by decide, ⟨fun qzz => ?_, fun qzz => ?_, fun kzz hk => by rw [eMzz 31]; exact ht.1 kzz hk, fun kzz hk => by rw [eMzz 32]; exact ht.2 kzz hk⟩⟩
    · have uzz : gI z2 19 = gI b4 19 := by rw [eo]; rfl
      rw [uzz, T3.1 19 (by decide) (by decide) (by decide), gb3, gb2]; rfl
    · rw [T2.1 5 (by decide) (by decide) (by decide) (by decide), eo, g6, g5zz, g4]; rfl
    · have uzz : gI z2 26 = 0 := by rw [eo]; rfl
      rw [uzz]; decide
    · have uzz : gI z2 23 = 0 := by rw [eo]; rfl
      rw [uzz]; decide
    · cases qzz
    · exact ⟨by rw [k4zz]; decide, k20⟩
  have k21 : gI z2 21 = 0 := by rw [eo]; rfl
  have e3zz : gA z2 3 = gA o 3 := by
    have uzz : gA z2 3 = gA b4 3 := by rw [eo]; rfl
    have u2zz : gA b3 3 = gA o 3 := by rw [gb3, gb2, gb1, gp2]; rfl
    exact uzz.trans ((T3.gA 3).trans u2zz)
  exact text_L zfu Nzz 0 z7 c3zz z2 z3 0 0 0 hF0 ⟨hX, by rw [k21]; decide, by rw [ek7]; decide, hH.eq em, e3zz, fun mzz hmzz => absurd hmzz (Nat.not_lt_zero _)⟩ (by decide) (by decide) h1 hr hy
set_option maxHeartbeats 200000 in
theorem clr_O {yzz : Ob} {v1zz v2 : Int32} {n : Nat} (e2zz : v2.toInt = 8 * (n : Int)) (hn : n < 12) : ∀ (Nzz : Nat) (v3 : Int32) (o : Ob) (izz : Nat), v3.toInt = (izz : Int) → izz ≤ 8 → (∀ kzz, kzz < izz → gA o 55 (8 * n + kzz) = 0) → lp_X9_readOrder_85 Nzz (v1zz, v2, v3, o) = some yzz →
    ∃ o5zz : Ob, RW 55 (8 * n) o o5zz ∧ gI o5zz 21 = gI o 21 ∧ gA o5zz 55 (8 * n) = v1zz ∧ (∀ kzz, 1 ≤ kzz → kzz < 8 → gA o5zz 55 (8 * n + kzz) = 0) ∧ (if v1zz = (3 : Int32) then (bk_X9_readOrder_125 v2 o5zz) else ((f_X9_readSum o5zz (v2 + (1 : Int32))).bind fun z20 => bk_X9_readOrder_125 v2 z20)) = some yzz := by
  intro Nzz
  induction Nzz with
  | zero => intro v3 o izz _ _ _ hzz; cases hzz
  | succ Nzz ihzz =>
    intro v3 o izz e3zz hizz hk hz
    have hz : lb_X9_readOrder_85 (lp_X9_readOrder_85 Nzz) v1zz v2 v3 o = some yzz := hz
    unfold lb_X9_readOrder_85 at hz
    have i0zz : v2.toNatClampNeg = 8 * n := tnc_eq (by omega)
    by_cases czz : (8 : Int32) ≤ v3
    · have d := cv_le (a := 8) (b := (izz : Int)) (by decide) e3zz czz
      obtain ⟨-, hz⟩ := z_gd (z_t hz czz)
      obtain ⟨o5zz, g5zz, hz⟩ := z_lt hz
      rw [i0zz] at g5zz
      refine ⟨o5zz, by rw [g5zz]; exact RW.tA ⟨by omega, by omega⟩, by rw [g5zz]; rfl, by rw [g5zz, upd_at, if_pos rfl], fun kzz h1 h2 => ?_, hz⟩
      rw [g5zz, upd_at, if_neg (by omega)]; exact hk kzz (by omega)
    · have d := cv_nle (a := 8) (b := (izz : Int)) (by decide) e3zz czz
      obtain ⟨-, hz⟩ := z_gd (z_f hz czz)
      obtain ⟨o19, g19, hz⟩ := z_lt hz
      obtain ⟨x20, gx, hz⟩ := z_lt hz
      have t3zz : (v2 + v3).toInt = 8 * (n : Int) + (izz : Int) := i32_add e2zz e3zz (by omega) (by omega)
      have i3zz : (v2 + v3).toNatClampNeg = 8 * n + izz := tnc_eq (by omega)
      have tx : x20.toInt = (izz : Int) + 1 := by rw [gx]; exact i32_add e3zz (by decide) (by omega) (by omega)
      rw [i3zz] at g19
      have w19 : RW 55 (8 * n) o o19 := by rw [g19]; exact RW.tA ⟨by omega, by omega⟩
      have hk' : ∀ kzz, kzz < izz + 1 → gA o19 55 (8 * n + kzz) = 0 := fun kzz hzz => by
        rw [g19, upd_at]
        by_cases qzz : kzz = izz
        · rw [if_pos (by omega)]
        · rw [if_neg (by omega)]; exact hk kzz (by omega)
      obtain ⟨o5zz, q1zz, q2zz, q3zz, q4zz, q5zz⟩ := ihzz x20 o19 (izz + 1) (by omega) (by omega) hk' hz
      have uzz : gI o19 21 = gI o 21 := by rw [g19]; rfl
      exact ⟨o5zz, w19.tr q1zz, by rw [q2zz, uzz], q3zz, q4zz, q5zz⟩
set_option maxHeartbeats 200000 in
theorem bad211 {v2 : Int32} {wzz yzz : Ob} (hzz : bk_X9_readOrder_211 v2 wzz = some yzz) : gI yzz 19 = gI wzz 19 ∧ gI yzz 18 = gI wzz 18 ∧ gA yzz 3 = gA wzz 3 := by
  unfold bk_X9_readOrder_211 at hzz
  obtain ⟨-, hzz⟩ := z_gd hzz
  obtain ⟨o13, gzz, hzz⟩ := z_lt hzz
  rw [← Option.some.inj hzz, gzz]
  exact ⟨rfl, rfl, rfl⟩
set_option maxHeartbeats 200000 in
theorem bad173 {v2 : Int32} {wzz yzz : Ob} (h19 : gI wzz 19 = 1) (hzz : bk_X9_readOrder_173 v2 wzz = some yzz) : gI yzz 19 = 1 ∧ gI yzz 18 = gI wzz 18 ∧ gA yzz 3 = gA wzz 3 := by
  unfold bk_X9_readOrder_173 at hzz
  obtain ⟨-, hzz⟩ := z_gd hzz
  obtain ⟨o9, g9, hzz⟩ := z_lt hzz
  have e19zz : gI o9 19 = 1 := by rw [g9]; exact h19
  have e18zz : gI o9 18 = gI wzz 18 := by rw [g9]; rfl
  have qzz := bad211 (z_f hzz (by rw [e19zz]; decide))
  exact ⟨qzz.1.trans e19zz, qzz.2.1.trans e18zz, qzz.2.2.trans (by rw [g9]; rfl)⟩
set_option maxHeartbeats 200000 in
theorem bad125 {v2 : Int32} {wzz yzz : Ob} (h19 : gI wzz 19 = 1) (hzz : bk_X9_readOrder_125 v2 wzz = some yzz) : gI yzz 19 = 1 ∧ gI yzz 18 = gI wzz 18 ∧ gA yzz 3 = gA wzz 3 := by
  unfold bk_X9_readOrder_125 at hzz
  obtain ⟨-, hzz⟩ := z_gd hzz
  obtain ⟨o7, g7, hzz⟩ := z_lt hzz
  have e19zz : gI o7 19 = 1 := by rw [g7]; exact h19
  have e18zz : gI o7 18 = gI wzz 18 := by rw [g7]; rfl
  have qzz := bad173 e19zz (z_f hzz (by rw [e19zz]; decide))
  exact ⟨qzz.1, qzz.2.1.trans e18zz, qzz.2.2.trans (by rw [g7]; rfl)⟩
set_option maxHeartbeats 200000 in
theorem ph_times {rd oc o yzz : Ob} {k1zz k2zz n : Nat} {v1zz x2zz : Int32} {zzz : Int32 × Ob × Ob} (hzz : XS true rd oc o k1zz k2zz) (hn : n < 12) (ivzz : v1zz.toNatClampNeg = n) (tx2 : x2zz.toInt = 8 * (n : Int)) (ho : gA oc 1 n = 1)
    (h1 : ((f_X6_isWord rd 2).bind fun z19 => if z19 = (0 : Int32) then (bk_X6_readClause_177 12 400 v1zz rd oc) else ((f_X6_step rd).bind fun z20 => if (gI z20 6) = (2 : Int32) then (if (gI z20 9) < (1 : Int32) then (bk_X6_readClause_155 12 400 z20 oc) else (if (gI z20 9) ≤ (20 : Int32) then (zgd (zin v1zz 12) <| zlt (tA oc 1 v1zz.toNatClampNeg (gI z20 9)) fun o24 => (f_X6_step z20).bind fun z25 => bk_X6_readClause_177 12 400 v1zz z25 o24) else (bk_X6_readClause_155 12 400 z20 oc))) else (bk_X6_readClause_155 12 400 z20 oc))) = some zzz)
    (h2 : bk_X9_readOrder_125 x2zz o = some yzz) :
    (zzz.1 = 0 ∧ ∃ wzz, bk_X9_readOrder_173 x2zz wzz = some yzz ∧ gI wzz 19 = 1 ∧ gI wzz 18 = gI zzz.2.1 3 ∧ gA wzz 3 = gA o 3) ∨
    (∃ (rd' oc' o' : Ob), bk_X6_readClause_177 12 400 v1zz rd' oc' = some zzz ∧ bk_X9_readOrder_173 x2zz o' = some yzz ∧ XS true rd' oc' o' k1zz k2zz ∧ gI oc' 7 = gI oc 7 ∧ gI oc' 8 = gI oc 8 ∧ (∀ izz xzz, (izz ≠ 1 ∨ xzz ≠ n) → gA oc' izz xzz = gA oc izz xzz) ∧ gI o' 21 = gI o 21 ∧ o'.2.2.2 = o.2.2.2 ∧ (∀ izz, izz ≠ 55 → gA o' izz = gA o izz) ∧ (∀ xzz, xzz ≠ 8 * n + 7 → gA o' 55 xzz = gA o 55 xzz) ∧ gA oc' 1 n = gA o' 55 (8 * n + 7) ∧ 1 ≤ (gA oc' 1 n).toInt ∧ (gA oc' 1 n).toInt ≤ 20) := by
  unfold bk_X9_readOrder_125 at h2
  obtain ⟨-, h2⟩ := z_gd h2
  obtain ⟨o7, g7, h2⟩ := z_lt h2
  have i7zz := ix8 (czz := 7) (kzz := 7) tx2 hn (by decide) (by decide)
  rw [i7zz] at g7
  have y7 : RW 55 (8 * n) o o7 := by rw [g7]; exact RW.tA ⟨by omega, by omega⟩
  have hX7 : XS true rd oc o7 k1zz k2zz := hzz.rw' y7 (by decide) rfl
  have r7 : ∀ xzz, xzz ≠ 8 * n + 7 → gA o7 55 xzz = gA o 55 xzz := fun xzz hx => by rw [g7, upd_at, if_neg hx]
  have s7 : gA o7 55 (8 * n + 7) = 1 := by rw [g7, upd_at, if_pos rfl]
  have m7zz : gI o7 21 = gI o 21 := by rw [g7]; rfl
  obtain ⟨z15, ez15, h2⟩ := z_bd (z_t h2 hX7.2.1)
  obtain ⟨z19, ez19, h1⟩ := z_bd h1
  rcases iw8 (R := [19, 5, 13, 9, 20]) hX7.1 (by decide) tx2_ok ez19 with ⟨q1zz, q2zz⟩ | ⟨q1zz, q2zz⟩ <;> rcases w9 (R := [19, 5, 13, 9, 20]) hX7.1 (all_dig (by decide)) (by decide) (by decide) ez15 with ⟨u1zz, u2zz⟩ | ⟨u1zz, u2zz⟩
  · exact Or.inr ⟨rd, oc, o7, z_t h1 q1zz, z_t h2 u1zz, hX7, rfl, rfl, fun _ _ _ => rfl, m7zz, y7.2.2.2.1, fun izz hizz => y7.2.2.1 izz hizz, r7, by rw [ho, s7], by rw [ho]; decide, by rw [ho]; decide⟩
  · exact absurd u2zz q2zz
  · exact absurd q2zz u2zz
  · obtain ⟨z20, ez20, h1⟩ := z_bd (z_f h1 q1zz)
    obtain ⟨z16, ez16, h2⟩ := z_bd (z_f h2 u1zz)
    obtain ⟨z17, ez17, h2⟩ := z_bd h2
    obtain ⟨-, h2⟩ := z_gd h2
    obtain ⟨o19, g19, h2⟩ := z_lt h2
    rw [i7zz] at g19
    obtain ⟨hX, f6zz, f9zz⟩ := hX7.step ez20 ez16
    have hTzz := hX.1
    unfold f_X9_number at ez17
    obtain ⟨x1zz, gx1, ez17⟩ := z_lt ez17
    have hbad : bk_X6_readClause_155 12 400 z20 oc = some zzz → bk_X9_number_32 x1zz z16 = some z17 → (zzz.1 = 0 ∧ ∃ wzz, bk_X9_readOrder_173 x2zz wzz = some yzz ∧ gI wzz 19 = 1 ∧ gI wzz 18 = gI zzz.2.1 3 ∧ gA wzz 3 = gA o 3) := by
      intro k1zz k2zz
      unfold bk_X6_readClause_155 at k1zz
      obtain ⟨zs, ezs, k1zz⟩ := z_bd k1zz
      obtain ⟨-, k1zz⟩ := z_gd k1zz
      obtain ⟨s1zz, s2zz⟩ := stop8 ezs
      unfold bk_X9_number_32 bk_X9_number_33 at k2zz
      obtain ⟨zm, ezm, k2zz⟩ := z_bd k2zz
      have em := mu_no hX.2.1 ezm
      have e17zz : z17.2 = zm := by rw [← Option.some.inj k2zz]
      have e19zz : gI o19 19 = 1 := by rw [g19, e17zz, em]; rfl
      have e18zz : gI o19 18 = gI z16 14 := by rw [g19, e17zz, em]; rfl
      have e3zz : gA o19 3 = gA z16 3 := by rw [g19, e17zz, em]; rfl
      refine ⟨by rw [← Option.some.inj k1zz]; exact s1zz, o19, h2, e19zz, ?_, e3zz.trans ((f9zz.gA 3).trans (y7.2.2.1 3 (by decide)))⟩
      rw [e18zz, ← Option.some.inj k1zz]
      show gI z16 14 = gI zs.2 3
      rw [s2zz]
      show gI z16 14 = gI z20 7
      exact hTzz.2.2.1.symm
    obtain ⟨azz, bzz, ea, eb, hab, hbzz, hx⟩ := hTzz.2.2.2.2
    by_cases c2zz : gI z16 16 = 2
    · have nv : NV (gI z20 9) (gL z16 17) := by
        rcases hx with ⟨uzz, -⟩ | ⟨uzz, -⟩ | ⟨-, -, uzz⟩ | ⟨uzz, -⟩
        · exact absurd (uzz.symm.trans c2zz) (by decide)
        · exact absurd (uzz.symm.trans c2zz) (by decide)
        · exact uzz
        · exact absurd (uzz.symm.trans c2zz) (by decide)
      obtain ⟨n0zz, n1zz, n2zz⟩ := nv
      have h1 := z_t h1 (hTzz.2.1.trans c2zz)
      obtain ⟨z3, ez3, ez17⟩ := z_bd (z_t ez17 c2zz)
      have c1' : (1 : Int64).toInt = 1 := by decide
      have c20' : (20 : Int64).toInt = 20 := by decide
      rcases in_iff _ _ _ _ ez3 with ⟨i1zz, i2zz⟩ | ⟨i1zz, i2zz, i3zz⟩
      · refine Or.inl (hbad ?_ (z_t ez17 i1zz))
        rw [c1', c20'] at i2zz
        by_cases d1zz : gI z20 9 < (1 : Int32)
        · exact z_t h1 d1zz
        · have d1' := cv_nlt (a := (gI z20 9).toInt) (b := 1) rfl (by decide) d1zz
          refine z_f (z_f h1 d1zz) (fun czz => ?_)
          have czz := cv_le (a := (gI z20 9).toInt) (b := 20) rfl (by decide) czz
          rcases n2zz with ⟨n2zz, n3zz⟩ | ⟨n2zz, n3zz⟩
          · exact i2zz ⟨by omega, by omega⟩
          · omega
      · rw [c1'] at i2zz
        rw [c20'] at i3zz
        have n3zz : (gI z20 9).toInt = (gL z16 17).toInt := by
          rcases n2zz with ⟨n2zz, n3zz⟩ | ⟨n2zz, n3zz⟩
          · exact n3zz
          · omega
        have h1 := z_f h1 (fun czz => by have czz := cv_lt (a := (gI z20 9).toInt) (b := 1) rfl (by decide) czz; omega)
        have h1 := z_t h1 (Int32.le_iff_toInt_le.mpr (by have : (20 : Int32).toInt = 20 := (by decide); omega))
        obtain ⟨-, h1⟩ := z_gd h1
        obtain ⟨o24, g24, h1⟩ := z_lt h1
        obtain ⟨z25, ez25, h1⟩ := z_bd h1
        rw [ivzz] at g24
        have ez17 := z_f ez17 i1zz
        unfold bk_X9_number_33 at ez17
        obtain ⟨zm, ezm, ez17⟩ := z_bd ez17
        have ezm := mu_ok hX.2.1 (by decide) ezm
        have e17zz := Option.some.inj ez17
        obtain ⟨hX2, f6', f9'⟩ := hX.step ez25 ezm
        have evzz : x1zz = gI z20 9 := Int32.toInt_inj.mp (by rw [gx1, l32 (by omega) n1zz]; exact n3zz.symm)
        have g19' : o19 = tA zm 55 (8 * n + 7) (gI z20 9) := by rw [g19, ← e17zz, evzz]
        have y19 : RW 55 (8 * n) zm o19 := by rw [g19']; exact RW.tA ⟨by omega, by omega⟩
        have hX3 : XS true z25 o24 o19 k1zz k2zz := hX2.rw' y19 (by decide) (by rw [g24]; rfl)
        have a24 : gA o24 1 n = gI z20 9 := by rw [g24, upd_at, if_pos rfl]
        refine Or.inr ⟨z25, o24, o19, h1, h2, hX3, by rw [g24]; rfl, by rw [g24]; rfl, fun izz xzz hix => ?_, ?_, ?_, fun izz hizz => ?_, fun xzz hx' => ?_, ?_, by rw [a24]; omega, by rw [a24]; omega⟩
        · rw [g24, tA_gA, if_neg (fun qzz => by rcases hix with wzz | wzz; exact wzz qzz.1; exact wzz qzz.2)]
        · have w1zz : gI o19 21 = gI zm 21 := by rw [g19']; rfl
          rw [w1zz, f9'.1 21 (by decide) (by decide) (by decide), f9zz.1 21 (by decide) (by decide) (by decide), m7zz]
        · exact y19.2.2.2.1.trans ((congrArg Prod.snd f9'.2.2).trans ((congrArg Prod.snd f9zz.2.2).trans y7.2.2.2.1))
        · exact (y19.2.2.1 izz hizz).trans ((f9'.gA izz).trans ((f9zz.gA izz).trans (y7.2.2.1 izz hizz)))
        · rw [g19', upd_at, if_neg hx', f9'.gA 55, f9zz.gA 55]; exact r7 xzz hx'
        · rw [a24, g19', upd_at, if_pos rfl]
    · exact Or.inl (hbad (z_f h1 (fun qzz => c2zz (hTzz.2.1.symm.trans qzz))) (z_f ez17 c2zz))
set_option maxHeartbeats 200000 in
theorem clause_O {rd oc o yzz : Ob} {k1zz k2zz n : Nat} {v1zz : Int32} {zzz : Int32 × Ob × Ob} {Gzz : Nat → Int32} (hC : ClS true Gzz rd oc o k1zz k2zz n) (hn : n < 12) (evzz : v1zz.toInt = (n : Int)) (h1 : f_X6_readClause 12 400 rd oc v1zz = some zzz) (hy : f_X9_readOrder o = some yzz) : (zzz.1 = 0 ∧ gI yzz 19 = 1 ∧ gI yzz 18 = gI zzz.2.1 3 ∧ gA yzz 3 = Gzz) ∨ (zzz.1 = 1 ∧ ∃ k1' k2' : Nat, ClS true Gzz zzz.2.1 zzz.2.2 yzz k1' k2' (n + 1)) := by
  obtain ⟨hX, e21zz, e7zz, hH, hG, hcl⟩ := hC
  have hTzz := hX.1
  have hMzz := hX.2.2.2.2.2.2.2.2
  have ivzz : v1zz.toNatClampNeg = n := tnc_eq evzz
  unfold f_X6_readClause at h1
  have h1 := z_t h1 (hMzz.1 rfl).1
  unfold bk_X6_readClause_15 at h1
  obtain ⟨z1, ez1, h1⟩ := z_bd h1
  rcases head_eqO hTzz hH.2 ez1 hy with ⟨q1zz, q2zz⟩ | ⟨q1zz, q3zz, q4zz⟩
  · refine Or.inl ?_
    have h1 := z_t h1 q1zz
    unfold bk_X6_readClause_34 at h1
    obtain ⟨zs, ezs, h1⟩ := z_bd h1
    obtain ⟨-, h1⟩ := z_gd h1
    obtain ⟨s1zz, s2zz⟩ := stop8 ezs
    unfold bk_X9_readOrder_54 at q2zz
    obtain ⟨zm, ezm, q2zz⟩ := z_bd q2zz
    have em := mu_no hX.2.1 ezm
    have k19 : gI zm 19 = 1 := by rw [em]; rfl
    rw [← Option.some.inj (z_f q2zz (by rw [k19]; decide)), ← Option.some.inj h1]
    refine ⟨s1zz, k19, ?_, Eq.trans (by rw [em]; rfl) hG⟩
    show gI zm 18 = gI zs.2 3
    rw [s2zz, em]
    show gI o 14 = gI rd 7
    exact hTzz.2.2.1.symm
  · have h1 := z_f h1 (fun czz => by have czz := cv_eq (a := z1.toInt) (b := -1) rfl (by decide) czz; omega)
    have h1 := z_f h1 (fun czz => by have czz := cv_lt (a := (n : Int)) (b := 0) evzz (by decide) czz; omega)
    have h1 := z_t h1 (Int32.lt_iff_toInt_lt.mpr (by have : (12 : Int32).toInt = 12 := (by decide); omega))
    obtain ⟨z4, ez4, h1⟩ := z_bd h1
    obtain ⟨-, h1⟩ := z_gd h1
    obtain ⟨o6, g6, h1⟩ := z_lt h1
    obtain ⟨-, h1⟩ := z_gd h1
    obtain ⟨o8zz, g8, h1⟩ := z_lt h1
    obtain ⟨-, h1⟩ := z_gd h1
    obtain ⟨o10, g10, h1⟩ := z_lt h1
    rw [ivzz] at g6 g8 g10
    have q4zz := q4zz (by omega)
    unfold bk_X9_readOrder_54 at q4zz
    obtain ⟨zm, ezm, q4zz⟩ := z_bd q4zz
    have ezm := mu_ok hX.2.1 (by decide) ezm
    obtain ⟨hX4, f6zz, f9zz⟩ := hX.step ez4 ezm
    obtain ⟨x2zz, gx2, q4zz⟩ := z_lt (z_t q4zz hX4.2.1)
    obtain ⟨o3zz, g3zz, q4zz⟩ := z_lt q4zz
    have k21 : gI zm 21 = gI o 21 := f9zz.1 21 (by decide) (by decide) (by decide)
    have tx2 : x2zz.toInt = 8 * (n : Int) := by rw [gx2, k21]; exact i32_mul (by decide) e21zz (by omega) (by omega)
    have w3zz : RW 55 (8 * n) zm o3zz := by rw [g3zz]; exact RW.s21
    obtain ⟨o5zz, w5, c21, c0zz, c3zz, q4zz⟩ := clr_O tx2 hn zfu 0 o3zz 0 (by decide) (by decide) (fun kzz hk => absurd hk (Nat.not_lt_zero _)) q4zz
    have d21zz : gI o5zz 21 = gI o 21 + 1 := by rw [c21, g3zz]; show gI zm 21 + 1 = _; rw [k21]
    have w7zz := w3zz.tr w5
    have k8zz : gI o10 8 = gI oc 8 := by rw [g10, g8, g6]; rfl
    have hX7 : XS true z4 o10 o5zz k1zz k2zz := hX4.rw' w7zz (by decide) k8zz
    have hmid : (zzz.1 = 0 ∧ ∃ wzz, bk_X9_readOrder_125 x2zz wzz = some yzz ∧ gI wzz 19 = 1 ∧ gI wzz 18 = gI zzz.2.1 3 ∧ gA wzz 3 = gA o5zz 3) ∨ (∃ (rd' oc' o' : Ob) (k1' k2' a2 b2 : Nat), bk_X6_readClause_94 12 400 v1zz rd' oc' = some zzz ∧ bk_X9_readOrder_125 x2zz o' = some yzz ∧ XS true rd' oc' o' k1' k2' ∧ CF z4 o10 rd' oc' ∧ (∀ jzz, jzz < k1zz → gA oc' 5 jzz = gA o10 5 jzz ∧ gA oc' 6 jzz = gA o10 6 jzz) ∧ ckp k2zz o5zz o' ∧ gA o' 3 = gA o5zz 3 ∧ gI o' 21 = gI o5zz 21 ∧ o'.2.2.2 = o5zz.2.2.2 ∧ (∀ xzz, xzz ≤ 8 * n → gA o' 55 xzz = gA o5zz 55 xzz) ∧ (gA o' 55 (8 * n + 1)).toInt = (a2 : Int) ∧ (gA o' 55 (8 * n + 2)).toInt = (b2 : Int) ∧ ((z1 = 3 ∧ k1' = k1zz ∧ k2' = k2zz ∧ a2 = b2) ∨ (¬ z1 = 3 ∧ a2 = k2zz ∧ b2 = k2' ∧ ∃ mzz, mzz ≤ 50 ∧ Sx true (gA oc' 5) (gA oc' 6) (gA o' 24) (gA o' 25) false k1zz k1' k2zz k2' mzz))) := by
      by_cases czz : z1 = 3
      · exact Or.inr ⟨z4, o10, o5zz, k1zz, k2zz, 0, 0, z_t h1 czz, z_t q4zz czz, hX7, CF.rf, fun _ _ => ⟨rfl, rfl⟩, ckp.rf, rfl, rfl, rfl, fun _ _ => rfl, by rw [c3zz 1 (by decide) (by decide)]; decide, by rw [c3zz 2 (by decide) (by decide)]; decide, Or.inl ⟨czz, rfl, rfl, rfl⟩⟩
      · obtain ⟨z26, ez26, h1⟩ := z_bd (z_f h1 czz)
        obtain ⟨z17, ez17, q4zz⟩ := z_bd (z_f q4zz czz)
        unfold f_X9_readSum at ez17
        obtain ⟨-, ez17⟩ := z_gd ez17
        obtain ⟨s2zz, gs2, ez17⟩ := z_lt ez17
        rw [ix8 (czz := 1) (kzz := 1) tx2 hn (by decide) (by decide)] at gs2
        have ys2 : RW 55 (8 * n) o5zz s2zz := by rw [gs2]; exact RW.tA ⟨by omega, by omega⟩
        have hXs : XS true z4 o10 s2zz k1zz k2zz := hX7.rw' ys2 (by decide) rfl
        obtain ⟨z5, ez5, ez17⟩ := z_bd (z_t ez17 hXs.2.1)
        unfold bk_X9_readSum_22 at ez17
        obtain ⟨-, ez17⟩ := z_gd ez17
        obtain ⟨s4zz, gs4, ez17⟩ := z_lt ez17
        have i22 : ((x2zz + (1 : Int32)) + (1 : Int32)).toNatClampNeg = 8 * n + 2 := tnc_eq (by rw [i32_add (a := 8 * (n : Int) + 1) (b := 1) (i32_add tx2 (by decide) (by omega) (by omega)) (by decide) (by omega) (by omega)]; omega)
        rw [i22] at gs4
        have e17zz := Option.some.inj ez17
        rcases x_sum hXs ez26 ez5 with gb | ⟨e1zz, k1', k2', mzz, x1zz, x2', x3, x4zz, x5zz, x6, x7⟩
        · have h1 := Option.some.inj (z_t h1 gb.1)
          refine Or.inl ⟨by rw [← h1], z17, q4zz, ?_, ?_, ?_⟩
          · rw [← e17zz, gs4]; exact gb.2.1
          · rw [← e17zz, gs4, ← h1]; exact gb.2.2.1
          · have u3 : gA z17 3 = gA z5 3 := by rw [← e17zz, gs4]; rfl
            exact u3.trans ((gb.2.2.2.1.2.1 3 (by decide) (by decide) (by decide) (by decide)).trans (ys2.2.2.1 3 (by decide)))
        · have ys4 : RW 55 (8 * n) z5 s4zz := by rw [gs4]; exact RW.tA ⟨by omega, by omega⟩
          rw [← e17zz] at q4zz
          have R5 : gA z5 55 = gA s2zz 55 := x2'.2.1 55 (by decide) (by decide) (by decide) (by decide)
          refine Or.inr ⟨z26.2.1, z26.2.2, s4zz, k1', k2', k2zz, k2', z_f h1 (by rw [e1zz]; decide), q4zz, x1zz.rw' ys4 (by decide) rfl, x3, x4zz, fun jzz hj => ?_, (ys4.2.2.1 3 (by decide)).trans ((x2'.2.1 3 (by decide) (by decide) (by decide) (by decide)).trans (ys2.2.2.1 3 (by decide))), ?_, ?_, fun xzz hx => ?_, ?_, ?_, Or.inr ⟨czz, rfl, rfl, mzz, x6, ?_⟩⟩
          · rw [ys4.2.2.1 24 (by decide), ys4.2.2.1 25 (by decide), (x5zz jzz hj).1, (x5zz jzz hj).2, ys2.2.2.1 24 (by decide), ys2.2.2.1 25 (by decide)]; exact ⟨rfl, rfl⟩
          · have u1zz : gI s4zz 21 = gI z5 21 := by rw [gs4]; rfl
            have u2zz : gI s2zz 21 = gI o5zz 21 := by rw [gs2]; rfl
            rw [u1zz, x2'.1 21 (by decide) (by decide) (by decide) (by decide) (by decide) (by decide) (by decide) (by decide) (by decide), u2zz]
          · exact ys4.2.2.2.1.trans (x2'.2.2.trans ys2.2.2.2.1)
          · rw [gs4, upd_at, if_neg (by omega), R5, gs2, upd_at, if_neg (by omega)]
          · rw [gs4, upd_at, if_neg (by omega), R5, gs2, upd_at, if_pos rfl]; exact hX7.2.2.2.2.2.1
          · rw [gs4, upd_at, if_pos rfl]; exact x1zz.2.2.2.2.2.1
          · rw [ys4.2.2.1 24 (by decide), ys4.2.2.1 25 (by decide)]; exact x7
    have G5 : gA o5zz 3 = Gzz := (w7zz.2.2.1 3 (by decide)).trans ((f9zz.gA 3).trans hG)
    rcases hmid with ⟨e0zz, wzz, b1, b2, b3, b4⟩ | ⟨rd', oc', o', k1', k2', a2, b2, h1, q4zz, hX', cf1zz, cd1, ck1, m3zz, m21, mM, mR, ea2, eb2, hsum⟩
    · have qzz := bad125 b2 b1
      exact Or.inl ⟨e0zz, qzz.1, qzz.2.1.trans b3, qzz.2.2.trans (b4.trans G5)⟩
    · unfold bk_X6_readClause_94 at h1
      obtain ⟨-, h1⟩ := z_gd h1
      obtain ⟨o12, g12, h1⟩ := z_lt h1
      rw [ivzz] at g12
      have h1 := z_t h1 (hX'.2.2.2.2.2.2.2.2.1 rfl).1
      have hX12 : XS true rd' o12 o' k1' k2' := hX'.rw' (RW.rf : RW 55 0 o' o') (by decide) (by rw [g12]; rfl)
      have A1 : ∀ izz, izz < 5 → gA oc' izz = gA o10 izz := fun izz hizz => cf1zz.2.2.2 izz (by omega) (by omega)
      have ho : gA o12 1 n = 1 := by rw [g12, tA_gA, if_neg (by omega), A1 1 (by decide), g10, tA_gA, if_neg (by omega), g8, upd_at, if_pos rfl]
      rcases ph_times hX12 hn ivzz tx2 ho h1 q4zz with ⟨e0zz, wzz, b1, b2', b3, b4⟩ | ⟨rdt, oct, ot, h1, q4zz, hXt, v7, v8, vA, n21zz, nM, nA, nR, nE, nL, nU⟩
      · have qzz := bad173 b2' b1
        exact Or.inl ⟨e0zz, qzz.1, qzz.2.1.trans b3, qzz.2.2.trans (b4.trans (m3zz.trans G5))⟩
      · unfold bk_X9_readOrder_173 at q4zz
        obtain ⟨-, q4zz⟩ := z_gd q4zz
        obtain ⟨o9, g9, q4zz⟩ := z_lt q4zz
        rw [ix8 (kzz := 5) tx2 hn (by decide) (by decide)] at g9
        have y9 : RW 55 (8 * n) ot o9 := by rw [g9]; exact RW.tA ⟨by omega, by omega⟩
        have hX11 : XS true rdt oct o9 k1' k2' := hXt.rw' y9 (by decide) rfl
        have G9 : gA o9 3 = Gzz := (y9.2.2.1 3 (by decide)).trans ((nA 3 (by decide)).trans (m3zz.trans G5))
        rcases ph_test (Kzz := bk_X9_readOrder_211 x2zz) hX11 h1 q4zz with ⟨e0zz, wzz, b1, b2', b3, b4⟩ | ⟨rd'', oc'', o'', k1'', k2'', h1, q4zz, hX'', r2, cf2, cd2, ck2, htst⟩
        · have qzz := bad211 b1
          exact Or.inl ⟨e0zz, qzz.1.trans b2', qzz.2.1.trans b3, qzz.2.2.trans (b4.trans G9)⟩
        · unfold bk_X6_readClause_200 at h1
          obtain ⟨-, h1⟩ := z_gd h1
          obtain ⟨o15, g15, h1⟩ := z_lt h1
          obtain ⟨o16, g16, h1⟩ := z_lt h1
          unfold bk_X9_readOrder_211 at q4zz
          obtain ⟨-, q4zz⟩ := z_gd q4zz
          obtain ⟨o13, g13, q4zz⟩ := z_lt q4zz
          rw [ivzz] at g15
          rw [ix8 (kzz := 6) tx2 hn (by decide) (by decide)] at g13
          rw [← Option.some.inj h1, ← Option.some.inj q4zz]
          refine Or.inr ⟨rfl, k1'', k2'', ?_⟩
          show ClS true Gzz rd'' o16 o13 k1'' k2'' (n + 1)
          have y13 : RW 55 (8 * n) o'' o13 := by rw [g13]; exact RW.tA ⟨by omega, by omega⟩
          have hXf : XS true rd'' o16 o13 k1'' k2'' := hX''.rw' y13 (by decide) (by rw [g16, g15]; rfl)
          have A16 : ∀ izz, gA o16 izz = gA o15 izz := fun izz => by rw [g16]; rfl
          have A2 : ∀ izz, izz < 5 → gA oc'' izz = gA oct izz := fun izz hizz => cf2.2.2.2 izz (by omega) (by omega)
          have vo8 : gI o8zz 8 = gI oc 8 := by rw [g8, g6]; rfl
          have AA : ∀ izz mzz, izz < 5 → (izz ≠ 1 ∨ mzz ≠ n) → gA o16 izz mzz = if izz = 4 ∧ mzz = n then gI oc'' 8 else if izz = 3 ∧ mzz = n then gI oc' 8 else if izz = 2 ∧ mzz = n then gI oc 8 else if izz = 1 ∧ mzz = n then 1 else if izz = 0 ∧ mzz = n then z1 else gA oc izz mzz := fun izz mzz hizz hx => by
            rw [A16 izz, g15, tA_gA, A2 izz hizz, vA izz mzz hx, g12, tA_gA, A1 izz hizz, g10, tA_gA, vo8, g8, tA_gA, g6, tA_gA]
          have a1zz : gA o16 1 n = gA oct 1 n := by rw [A16 1, g15, tA_gA, if_neg (by omega), A2 1 (by decide)]
          have R'' : gA o'' 55 = gA o9 55 := r2.2.1 55 (by decide) (by decide) (by decide) (by decide)
          have BB : ∀ xzz, gA o13 55 xzz = if xzz = 8 * n + 6 then gI o'' 23 else if xzz = 8 * n + 5 then gI ot 23 else gA ot 55 xzz := fun xzz => by rw [g13, upd_at, R'', g9, upd_at]
          have l1 : k1zz ≤ k1' ∧ k2zz ≤ k2' := by
            rcases hsum with ⟨-, azz, bzz, -⟩ | ⟨-, -, -, mzz, -, s⟩
            · exact ⟨by omega, by omega⟩
            · have := s.lt; exact ⟨by omega, by omega⟩
          have l2 : k1' ≤ k1'' ∧ k2' ≤ k2'' := by
            rcases htst with ⟨azz, bzz⟩ | ⟨mzz, -, s⟩
            · exact ⟨by omega, by omega⟩
            · have := s.lt; exact ⟨by omega, by omega⟩
          have e16zz : ∀ izz, izz = 5 ∨ izz = 6 → gA o16 izz = gA oc'' izz := fun izz hizz => by rw [g16, g15]; rcases hizz with ezz | ezz <;> rw [ezz] <;> rfl
          have et : ∀ izz jzz, izz = 5 ∨ izz = 6 → gA oct izz jzz = gA o12 izz jzz := fun izz jzz hizz => vA izz jzz (Or.inl (by omega))
          have e12zz : ∀ izz, izz = 5 ∨ izz = 6 → gA o12 izz = gA oc' izz := fun izz hizz => by rw [g12]; rcases hizz with ezz | ezz <;> rw [ezz] <;> rfl
          have e10zz : ∀ izz, izz = 5 ∨ izz = 6 → gA o10 izz = gA oc izz := fun izz hizz => by rw [g10, g8, g6]; rcases hizz with ezz | ezz <;> rw [ezz] <;> rfl
          have m24 : ∀ izz, izz = 24 ∨ izz = 25 → gA o13 izz = gA o'' izz := fun izz hizz => y13.2.2.1 izz (by omega)
          have n24zz : ∀ izz, izz = 24 ∨ izz = 25 → gA o9 izz = gA o' izz := fun izz hizz => (y9.2.2.1 izz (by omega)).trans (nA izz (by omega))
          have p24 : ∀ izz, izz = 24 ∨ izz = 25 → gA o5zz izz = gA o izz := fun izz hizz => (w7zz.2.2.1 izz (by omega)).trans (f9zz.gA izz)
          refine ⟨hXf, ?_, ?_, ?_, (y13.2.2.1 3 (by decide)).trans ((r2.2.1 3 (by decide) (by decide) (by decide) (by decide)).trans G9), fun mzz hmzz => ?_⟩
          · have uzz : gI o13 21 = gI o 21 + 1 := by
              rw [show gI o13 21 = gI o'' 21 by rw [g13]; rfl, r2.1 21 (by decide) (by decide) (by decide) (by decide) (by decide) (by decide) (by decide) (by decide) (by decide), show gI o9 21 = gI ot 21 by rw [g9]; rfl, n21zz, m21, d21zz]
            rw [uzz]; exact Eq.trans (i32_add e21zz (by decide : (1 : Int32).toInt = 1) (by omega) (by omega)) (by omega)
          · have uzz : gI o16 7 = v1zz + 1 := by rw [g16]; rfl
            rw [uzz]; exact Eq.trans (i32_add evzz (by decide : (1 : Int32).toInt = 1) (by omega) (by omega)) (by omega)
          · exact hH.eq (y13.2.2.2.1.trans (r2.2.2.trans (y9.2.2.2.1.trans (nM.trans (mM.trans (w7zz.2.2.2.1.trans (congrArg Prod.snd f9zz.2.2)))))))
          · by_cases ezz : mzz = n
            · rw [ezz]
              have a0zz : gA o16 0 n = z1 := by rw [AA 0 n (by decide) (Or.inl (by decide)), if_neg (by omega), if_neg (by omega), if_neg (by omega), if_neg (by omega), if_pos ⟨rfl, rfl⟩]
              have a2' : gA o16 2 n = gI oc 8 := by rw [AA 2 n (by decide) (Or.inl (by decide)), if_neg (by omega), if_neg (by omega), if_pos ⟨rfl, rfl⟩]
              have a3 : gA o16 3 n = gI oc' 8 := by rw [AA 3 n (by decide) (Or.inl (by decide)), if_neg (by omega), if_pos ⟨rfl, rfl⟩]
              have a4 : gA o16 4 n = gI oc'' 8 := by rw [AA 4 n (by decide) (Or.inl (by decide)), if_pos ⟨rfl, rfl⟩]
              have b0 : gA o13 55 (8 * n) = z1 := by rw [BB, if_neg (by omega), if_neg (by omega), nR _ (by omega), mR _ (by omega)]; exact c0zz
              have b1 : gA o13 55 (8 * n + 1) = gA o' 55 (8 * n + 1) := by rw [BB, if_neg (by omega), if_neg (by omega), nR _ (by omega)]
              have b2' : gA o13 55 (8 * n + 2) = gA o' 55 (8 * n + 2) := by rw [BB, if_neg (by omega), if_neg (by omega), nR _ (by omega)]
              have b5 : gA o13 55 (8 * n + 5) = gI ot 23 := by rw [BB, if_neg (by omega), if_pos rfl]
              have b6 : gA o13 55 (8 * n + 6) = gI o'' 23 := by rw [BB, if_pos rfl]
              have b7 : gA o13 55 (8 * n + 7) = gA ot 55 (8 * n + 7) := by rw [BB, if_neg (by omega), if_neg (by omega)]
              refine ⟨k1zz, k1', k1'', a2, b2, k2', k2'', ?_, ?_, ?_, ?_, ?_, ?_, ?_, ?_, ?_, ⟨l1.1, l2.1, Nat.le_refl _, l2.2, Nat.le_refl _⟩, ?_, ?_, fun _ => ?_⟩
              · show gA o16 0 n = gA o13 55 (8 * n); rw [a0zz, b0]
              · rw [a0zz]; exact q1zz
              · rw [a2']; exact hX.2.2.2.2.1
              · rw [a3]; exact hX'.2.2.2.2.1
              · rw [a4]; exact hX''.2.2.2.2.1
              · show (gA o13 55 (8 * n + 1)).toInt = _; rw [b1]; exact ea2
              · show (gA o13 55 (8 * n + 2)).toInt = _; rw [b2']; exact eb2
              · show (gA o13 55 (8 * n + 5)).toInt = _; rw [b5]; exact hXt.2.2.2.2.2.1
              · show (gA o13 55 (8 * n + 6)).toInt = _; rw [b6]; exact hX''.2.2.2.2.2.1
              · rw [a0zz]
                rcases hsum with ⟨azz, bzz, czz, d⟩ | ⟨azz, bzz, czz, m', d, s⟩
                · exact Or.inl ⟨azz, bzz.symm, d⟩
                · refine Or.inr ⟨azz, m', d, by omega, ?_⟩
                  rw [bzz, czz]
                  refine s.eq (fun jzz i1zz i2zz => ?_) (fun jzz i1zz i2zz => ?_)
                  · rw [e16zz 5 (Or.inl rfl), e16zz 6 (Or.inr rfl), (cd2 jzz i2zz).1, (cd2 jzz i2zz).2, et 5 jzz (Or.inl rfl), et 6 jzz (Or.inr rfl), e12zz 5 (Or.inl rfl), e12zz 6 (Or.inr rfl)]; exact ⟨rfl, rfl⟩
                  · rw [m24 24 (Or.inl rfl), m24 25 (Or.inr rfl), (ck2 jzz i2zz).1, (ck2 jzz i2zz).2, n24zz 24 (Or.inl rfl), n24zz 25 (Or.inr rfl)]; exact ⟨rfl, rfl⟩
              · rcases htst with ⟨azz, bzz⟩ | ⟨m', azz, bzz⟩
                · exact Or.inl ⟨azz.symm, bzz.symm⟩
                · refine Or.inr ⟨m', azz, bzz.eq (fun jzz i1zz i2zz => ?_) (fun jzz i1zz i2zz => ?_)⟩
                  · rw [e16zz 5 (Or.inl rfl), e16zz 6 (Or.inr rfl)]; exact ⟨rfl, rfl⟩
                  · rw [m24 24 (Or.inl rfl), m24 25 (Or.inr rfl)]; exact ⟨rfl, rfl⟩
              · show gA o16 1 n = gA o13 55 (8 * n + 7) ∧ _
                rw [a1zz, b7]; exact ⟨nE, nL, nU⟩
            · have hmn : mzz < n := by omega
              refine (hcl mzz hmn).mv (fun izz hizz => ?_) (fun jzz hj => ?_) (fun izz hizz => ?_) (fun jzz hj => ?_) (by omega) (by omega)
              · rw [AA izz mzz hizz (Or.inr ezz), if_neg (fun qzz => ezz qzz.2), if_neg (fun qzz => ezz qzz.2), if_neg (fun qzz => ezz qzz.2), if_neg (fun qzz => ezz qzz.2), if_neg (fun qzz => ezz qzz.2)]
              · rw [e16zz 5 (Or.inl rfl), e16zz 6 (Or.inr rfl), (cd2 jzz (by omega)).1, (cd2 jzz (by omega)).2, et 5 jzz (Or.inl rfl), et 6 jzz (Or.inr rfl), e12zz 5 (Or.inl rfl), e12zz 6 (Or.inr rfl), (cd1 jzz hj).1, (cd1 jzz hj).2, e10zz 5 (Or.inl rfl), e10zz 6 (Or.inr rfl)]; exact ⟨rfl, rfl⟩
              · show gA o13 55 (8 * mzz + izz) = gA o 55 (8 * mzz + izz)
                rw [BB, if_neg (by omega), if_neg (by omega), nR _ (by omega), mR _ (by omega), w7zz.2.2.2.2 (8 * mzz + izz) (Or.inl (by omega)), f9zz.gA 55]
              · rw [m24 24 (Or.inl rfl), m24 25 (Or.inr rfl), (ck2 jzz (by omega)).1, (ck2 jzz (by omega)).2, n24zz 24 (Or.inl rfl), n24zz 25 (Or.inr rfl), (ck1 jzz hj).1, (ck1 jzz hj).2, p24 24 (Or.inl rfl), p24 25 (Or.inr rfl)]; exact ⟨rfl, rfl⟩
set_option maxHeartbeats 200000 in
theorem text_O {yzz : Int32 × Ob} {zzz : Int32 × Ob × Ob} {Gzz : Nat → Int32} {o0zz : Ob} : ∀ (N1 N2 : Nat) (v2 : Int32) (rd oc o z3 : Ob) (k1zz k2zz n : Nat), FrX dTx o0zz o → ClS true Gzz rd oc o k1zz k2zz n → n ≤ 12 → v2.toInt = (n : Int) → lp_X6_readText_33 12 400 N1 (v2, rd, oc) = some zzz → f_X9_readOrder o = some z3 → lp_X9_orders_19 N2 z3 = some yzz → TxO true Gzz o0zz zzz bk_X9_orders_46 yzz := by
  intro N1
  induction N1 with
  | zero => intro N2 v2 rd oc o z3 k1zz k2zz n _ _ _ _ hzz; cases hzz
  | succ N1 ihzz =>
    intro N2 v2 rd oc o z3 k1zz k2zz n hF hC hn evzz h1 hr hy
    have hF3 : FrX dTx o0zz z3 := hF.tr ((fr_f_X9_readOrder hr).mono rfl)
    cases N2 with
    | zero => cases hy
    | succ N2 =>
    have h1 : lb_X6_readText_33 12 400 (lp_X6_readText_33 12 400 N1) v2 rd oc = some zzz := h1
    have hy : lb_X9_orders_19 (lp_X9_orders_19 N2) z3 = some yzz := hy
    unfold lb_X6_readText_33 at h1
    unfold lb_X9_orders_19 at hy
    have hTzz := hC.1.1
    by_cases czz : (12 : Int32) ≤ v2
    · have d := cv_le (a := 12) (b := (n : Int)) (by decide) evzz czz
      obtain ⟨zs, ezs, h1⟩ := z_bd (z_t h1 czz)
      obtain ⟨-, h1⟩ := z_gd h1
      obtain ⟨s1zz, s2zz⟩ := stop8 ezs
      have qzz := too_manyO hTzz hC.1.2.1 hC.2.2.2.1.2 (by rw [hC.2.1]; omega) hr
      refine ⟨z3, z_f hy (by rw [qzz.1]; decide), ⟨qzz.2.2.trans hC.2.2.2.2.1, hF3⟩, Or.inl ⟨by rw [← Option.some.inj h1]; exact s1zz, Or.inl ⟨qzz.1, ?_⟩⟩⟩
      rw [← Option.some.inj h1]
      show gI z3 18 = gI zs.2 3
      rw [qzz.2.1, s2zz]
      show gI o 14 = gI rd 7
      exact hTzz.2.2.1.symm
    · have d := cv_nle (a := 12) (b := (n : Int)) (by decide) evzz czz
      obtain ⟨z10, ez10, h1⟩ := z_bd (z_f h1 czz)
      rcases clause_O hC (by omega) evzz ez10 hr with ⟨a1zz, a2, a3, a4⟩ | ⟨a1zz, k1', k2', hC'⟩
      · have h1 := Option.some.inj (z_t h1 a1zz)
        exact ⟨z3, z_f hy (by rw [a2]; decide), ⟨a4, hF3⟩, Or.inl ⟨by rw [← h1], Or.inl ⟨a2, by rw [← h1]; exact a3⟩⟩⟩
      · have h1 := z_f h1 (by rw [a1zz]; decide)
        have hT' := hC'.1.1
        obtain ⟨zi, ezi, hy⟩ := z_bd (z_t hy hC'.1.2.1)
        by_cases c6zz : gI z10.2.1 6 = 0
        · have h1 := Option.some.inj (z_t h1 c6zz)
          have k16 : gI z3 16 = 0 := hT'.2.1.symm.trans c6zz
          have hizz : zi = 0 := by
            rcases s9 hT' ezi with ⟨uzz, -⟩ | ⟨-, uzz⟩
            · exact uzz
            · exact absurd (k16.symm.trans uzz.1) (by decide)
          refine ⟨z3, z_t hy hizz, ⟨hC'.2.2.2.2.1, hF3⟩, Or.inr ⟨by rw [← h1], hC'.1.2.1, k16, k1', k2', n + 1, by omega, by omega, ?_⟩⟩
          rw [← h1]; exact hC'
        · obtain ⟨z11, ez11, h1⟩ := z_bd (z_f h1 c6zz)
          rcases s8 hT' ez11 with ⟨u1zz, u2zz⟩ | ⟨u1zz, u2zz⟩ <;> rcases s9 hT' ezi with ⟨w1zz, w2zz⟩ | ⟨w1zz, w2zz⟩
          · obtain ⟨zs, ezs, h1⟩ := z_bd (z_t h1 u1zz)
            obtain ⟨-, h1⟩ := z_gd h1
            obtain ⟨s1zz, s2zz⟩ := stop8 ezs
            refine ⟨z3, z_t hy w1zz, ⟨hC'.2.2.2.2.1, hF3⟩, Or.inl ⟨by rw [← Option.some.inj h1]; exact s1zz, Or.inr ⟨hC'.1.2.1, fun qzz => c6zz (hT'.2.1.trans qzz), ?_⟩⟩⟩
            rw [← Option.some.inj h1]
            show gI z3 14 = gI zs.2 3
            rw [s2zz]
            show gI z3 14 = gI z10.2.1 7
            exact hT'.2.2.1.symm
          · exact absurd w2zz u2zz
          · exact absurd u2zz w2zz
          · obtain ⟨z12, ez12, h1⟩ := z_bd (z_f h1 u1zz)
            obtain ⟨x13, g13, h1⟩ := z_lt h1
            obtain ⟨z23, ez23, hy⟩ := z_bd (z_f hy w1zz)
            obtain ⟨z24, ez24, hy⟩ := z_bd hy
            obtain ⟨hX, f6zz, f9zz⟩ := hC'.1.step ez12 ez23
            have t13 : x13.toInt = ((n + 1 : Nat) : Int) := by rw [g13]; exact Eq.trans (i32_add evzz (by decide : (1 : Int32).toInt = 1) (by omega) (by omega)) (by omega)
            refine ihzz N2 x13 z12 z10.2.2 z23 z24 k1' k2' (n + 1) (hF3.tr ((fr_f_X9_next ez23).mono rfl)) ⟨hX, ?_, hC'.2.2.1, hC'.2.2.2.1.eq (congrArg Prod.snd f9zz.2.2), (f9zz.gA 3).trans hC'.2.2.2.2.1, fun mzz hmzz => ?_⟩ (by omega) t13 h1 ez24 hy
            · rw [f9zz.1 21 (by decide) (by decide) (by decide)]; exact hC'.2.1
            · have qzz := hC'.2.2.2.2.2 mzz hmzz
              rw [f9zz.gA (rwF true), f9zz.gA 24, f9zz.gA 25]; exact qzz
set_option maxHeartbeats 200000 in
theorem parse_O {rd oc o z2 z3 : Ob} {yzz : Int32 × Ob} {zzz : Int32 × Ob × Ob} {Nzz : Nat} (hz : TZ rd o) (ht : TbW o) (hH : HDs o) (h1 : f_X6_readText 12 400 rd oc 0 = some zzz) (h2 : f_X9_beginText o 1 = some z2) (hr : f_X9_readOrder z2 = some z3) (hy : lp_X9_orders_19 Nzz z3 = some yzz) : TxO true (gA o 3) o zzz bk_X9_orders_46 yzz := by
  have hF0 : FrX dTx o z2 := (fr_f_X9_beginText h2).mono rfl
  unfold f_X6_readText at h1
  obtain ⟨-, h1⟩ := z_gd h1
  obtain ⟨o2, g2, h1⟩ := z_lt h1
  obtain ⟨c3zz, ez3, h1⟩ := z_bd h1
  obtain ⟨o4zz, g4, h1⟩ := z_lt h1
  obtain ⟨o5zz, g5zz, h1⟩ := z_lt h1
  obtain ⟨o6, g6, h1⟩ := z_lt h1
  obtain ⟨z7, ez7, h1⟩ := z_bd h1
  unfold f_X0_clear at ez3
  obtain ⟨c1zz, gc1, ez3⟩ := z_lt ez3
  obtain ⟨c2zz, gc2, ez3⟩ := z_lt ez3
  have ez3 := Option.some.inj ez3
  unfold f_X9_beginText at h2
  obtain ⟨-, h2⟩ := z_gd h2
  obtain ⟨p2zz, gp2, h2⟩ := z_lt h2
  obtain ⟨p3zz, ep3, h2⟩ := z_bd h2
  obtain ⟨p4zz, gp4, h2⟩ := z_lt h2
  obtain ⟨p5zz, gp5, h2⟩ := z_lt h2
  obtain ⟨p6zz, gp6, h2⟩ := z_lt h2
  have h2 := Option.some.inj h2
  unfold f_X9_begin at ep3
  obtain ⟨b1, gb1, ep3⟩ := z_lt ep3
  obtain ⟨b2, gb2, ep3⟩ := z_lt ep3
  obtain ⟨b3, gb3, ep3⟩ := z_lt ep3
  obtain ⟨b4, eb4, ep3⟩ := z_bd ep3
  have ep3 := Option.some.inj ep3
  have z0 : (0 : Int32).toInt = 0 := by decide
  have r13 : gI b3 13 = gI o 13 := by rw [gb3, gb2, gb1, gp2]; rfl
  have r15 : gI b3 15 = 0 := by rw [gb3, gb2, gb1]; rfl
  have hz6 : TZ o6 b3 := by
    refine ⟨?_, ?_, by rw [r13]; exact hz.2.2.1, by rw [r13]; exact hz.2.2.2⟩
    · rw [r13, g6, g5zz, g4, g2]; exact hz.1
    · have uzz : gA b3 12 = gA o 12 := by rw [gb3, gb2, gb1, gp2]; rfl
      rw [uzz, g6, g5zz, g4, g2]; exact hz.2.1
  obtain ⟨T1, T2, T3, T4⟩ := tk_eq hz6 (by rw [r15, g6]; rfl) (by rw [r15, z0]; exact Int.le_refl _) (by rw [r15, r13, z0]; exact hz.2.2.1) ez7 eb4
  have eo : z2 = sI (sI (sI b4 21 0) 23 0) 26 0 := by rw [← h2, gp6, gp5, gp4, ep3]
  have ek : gI c3zz 8 = 0 := by rw [← ez3, gc2]; rfl
  have ek7 : gI c3zz 7 = 0 := by rw [← ez3, gc2, gc1]; rfl
  have em : z2.2.2.2 = o.2.2.2 := by
    have uzz : z2.2.2.2 = b4.2.2.2 := by rw [eo]; rfl
    have u2zz : b3.2.2.2 = o.2.2.2 := by rw [gb3, gb2, gb1, gp2]; rfl
    exact uzz.trans ((congrArg Prod.snd T3.2.2).trans u2zz)
  have eMzz : ∀ izz, gM z2 izz = gM o izz := fun izz => congrFun (congrArg Prod.fst em) izz
  have hT2 : TT z7 z2 := T1.cg rfl rfl rfl rfl rfl rfl (by rw [eo]; rfl) (by rw [eo]; rfl) (by rw [eo]; rfl) (by rw [eo]; rfl) (by rw [eo]; rfl) (by rw [eo]; rfl)
  obtain ⟨azz, bzz, ea, -⟩ := hT2.2.2.2.2
  have k4zz : gI z7 4 = 0 := by rw [T2.1 4 (by decide) (by decide) (by decide) (by decide), g6, g5zz, g4, g2]; rfl
  have k20 : gI z2 20 = 1 := by
    have uzz : gI z2 20 = gI b4 20 := by rw [eo]; rfl
    rw [uzz, T3.1 20 (by decide) (by decide) (by decide), gb3, gb2, gb1, gp2]; rfl
  have hX : XS true z7 c3zz z2 0 0 := by
    refine ⟨hT2, ?_, ?_, ?_, by rw [ek]; decide, ?_, by omega, by decide, ⟨fun qzz => ?_, fun qzz => ?_, fun kzz hk => by rw [eMzz 31]; exact ht.1 kzz hk, fun kzz hk => by rw [eMzz 32]; exact ht.2 kzz hk⟩⟩
    · have uzz : gI z2 19 = gI b4 19 := by rw [eo]; rfl
      rw [uzz, T3.1 19 (by decide) (by decide) (by decide), gb3, gb2]; rfl
    · rw [T2.1 5 (by decide) (by decide) (by decide) (by decide), eo, g6, g5zz, g4]; rfl
    · have uzz : gI z2 26 = 0 := by rw [eo]; rfl
      rw [uzz]; decide
    · have uzz : gI z2 23 = 0 := by rw [eo]; rfl
      rw [uzz]; decide
    · exact ⟨k4zz, by rw [k20]; decide⟩
    · cases qzz
  have k21 : gI z2 21 = 0 := by rw [eo]; rfl
  have e3zz : gA z2 3 = gA o 3 := by
    have uzz : gA z2 3 = gA b4 3 := by rw [eo]; rfl
    have u2zz : gA b3 3 = gA o 3 := by rw [gb3, gb2, gb1, gp2]; rfl
    exact uzz.trans ((T3.gA 3).trans u2zz)
  exact text_O zfu Nzz 0 z7 c3zz z2 z3 0 0 0 hF0 ⟨hX, by rw [k21]; decide, by rw [ek7]; decide, hH.eq em, e3zz, fun mzz hmzz => absurd hmzz (Nat.not_lt_zero _)⟩ (by decide) (by decide) h1 hr hy
set_option maxHeartbeats 200000 in
theorem tell_18 {o : Ob} {pzz : Int32} {yzz : Int32 × Ob} (hzz : f_X9_tell o pzz = some yzz) : gI yzz.2 18 = gI o 18 := by
  have hbzz : ∀ s, bk_X9_tell_10 pzz s o = some yzz → gI yzz.2 18 = gI o 18 := by
    intro s hzz
    unfold bk_X9_tell_10 at hzz
    obtain ⟨o1, eo1, hzz⟩ := z_lt hzz
    by_cases czz : (0 : Int32) ≤ pzz
    · rw [← Option.some.inj (z_t hzz czz), eo1]; rfl
    · have hzz := z_f hzz czz
      obtain ⟨x2zz, -, hzz⟩ := z_lt hzz
      obtain ⟨-, hzz⟩ := z_gd hzz
      obtain ⟨-, hzz⟩ := z_gd hzz
      obtain ⟨o5zz, eo5, hzz⟩ := z_lt hzz
      rw [← Option.some.inj hzz, eo5, eo1]; rfl
  unfold f_X9_tell at hzz
  by_cases czz : (0 : Int32) ≤ pzz
  · exact hbzz _ (z_t hzz czz)
  · exact hbzz _ (z_f hzz czz)
set_option maxHeartbeats 200000 in
theorem w145 {yzz : Int32 × Ob} {v1zz : Int32} {azz Kzz : Nat} (e1zz : v1zz.toInt = (azz : Int)) (hazz : 84 ≤ azz) (ha' : azz + 900 ≤ 5484) (hKzz : Kzz ≤ 400) : ∀ (Nzz : Nat) (v2 : Int32) (o : Ob) (izz : Nat), v2.toInt = (izz : Int) → izz ≤ Kzz → (gI o 23).toInt = (Kzz : Int) → lp_X9_law_145 Nzz (v1zz, v2, o) = some yzz →
    yzz.1 = (gA o 3 2 + 1) - 1 ∧ gA yzz.2 3 2 = gA o 3 2 + 1 ∧ gI yzz.2 18 = gI o 18 ∧ (∀ jzz, jzz ≠ 2 → (jzz < azz + 98 + 2 * izz ∨ azz + 98 + 2 * Kzz ≤ jzz) → gA yzz.2 3 jzz = gA o 3 jzz) ∧ (∀ kzz, izz ≤ kzz → kzz < Kzz → gA yzz.2 3 (azz + 98 + 2 * kzz) = gA o 24 kzz ∧ gA yzz.2 3 (azz + 98 + 2 * kzz + 1) = gA o 25 kzz) := by
  intro Nzz
  induction Nzz with
  | zero => intro v2 o izz _ _ _ hzz; cases hzz
  | succ Nzz ihzz =>
    intro v2 o izz e2zz hizz eK hzz
    have hzz : lb_X9_law_145 (lp_X9_law_145 Nzz) v1zz v2 o = some yzz := hzz
    unfold lb_X9_law_145 at hzz
    have n2zz : (2 : Int32).toNatClampNeg = 2 := by decide
    by_cases czz : gI o 23 ≤ v2
    · have d := cv_le (a := (Kzz : Int)) (b := (izz : Int)) eK e2zz czz
      obtain ⟨o8zz, e8, hzz⟩ := z_lt (z_t hzz czz)
      obtain ⟨zzz, ez, hzz⟩ := z_bd hzz
      rw [n2zz] at e8 ez
      have uzz : gA o8zz 3 2 = gA o 3 2 + 1 := by rw [e8, upd_at, if_pos rfl]
      have t := tell_3 ez
      rw [← Option.some.inj hzz]
      refine ⟨?_, ?_, ?_, fun jzz hj _ => ?_, fun kzz h1 h2 => by omega⟩
      · show zzz.1 = _; rw [t.1, uzz]
      · show gA zzz.2 3 2 = _; rw [t.2.1, uzz]
      · show gI zzz.2 18 = _; rw [tell_18 ez, e8]; rfl
      · show gA zzz.2 3 jzz = _; rw [t.2.1, e8, upd_at, if_neg hj]
    · have d := cv_nle (a := (Kzz : Int)) (b := (izz : Int)) eK e2zz czz
      obtain ⟨-, hzz⟩ := z_gd (z_f hzz czz)
      obtain ⟨-, hzz⟩ := z_gd hzz
      obtain ⟨o12, e12zz, hzz⟩ := z_lt hzz
      obtain ⟨-, hzz⟩ := z_gd hzz
      obtain ⟨-, hzz⟩ := z_gd hzz
      obtain ⟨o15, e15zz, hzz⟩ := z_lt hzz
      obtain ⟨x16, exzz, hzz⟩ := z_lt hzz
      have s1zz : (v1zz + (98 : Int32)).toInt = (azz : Int) + 98 := i32_add e1zz (by decide) (by omega) (by omega)
      have s2zz : ((2 : Int32) * v2).toInt = 2 * (izz : Int) := i32_mul (by decide) e2zz (by omega) (by omega)
      have s3zz : ((v1zz + (98 : Int32)) + ((2 : Int32) * v2)).toInt = (azz : Int) + 98 + 2 * (izz : Int) := i32_add s1zz s2zz (by omega) (by omega)
      have i3zz : ((v1zz + (98 : Int32)) + ((2 : Int32) * v2)).toNatClampNeg = azz + 98 + 2 * izz := tnc_eq (by rw [s3zz]; omega)
      have i4zz : (((v1zz + (98 : Int32)) + ((2 : Int32) * v2)) + (1 : Int32)).toNatClampNeg = azz + 98 + 2 * izz + 1 := tnc_eq (by rw [i32_add s3zz (by decide : (1 : Int32).toInt = 1) (by omega) (by omega)]; omega)
      have ivzz : v2.toNatClampNeg = izz := tnc_eq e2zz
      have tx : x16.toInt = ((izz + 1 : Nat) : Int) := by rw [exzz]; exact Eq.trans (i32_add e2zz (by decide : (1 : Int32).toInt = 1) (by omega) (by omega)) (by omega)
      rw [i3zz, ivzz] at e12zz
      rw [i4zz, ivzz] at e15zz
      have k23 : (gI o15 23).toInt = (Kzz : Int) := by rw [e15zz, e12zz]; exact eK
      have r24 : gA o15 24 = gA o 24 := by rw [e15zz, e12zz]; rfl
      have r25 : gA o15 25 = gA o 25 := by rw [e15zz, e12zz]; rfl
      have p25zz : gA o12 25 izz = gA o 25 izz := by rw [e12zz]; rfl
      have r3 : ∀ jzz, jzz ≠ azz + 98 + 2 * izz → jzz ≠ azz + 98 + 2 * izz + 1 → gA o15 3 jzz = gA o 3 jzz := fun jzz q1zz q2zz => by rw [e15zz, upd_at, if_neg q2zz, e12zz, upd_at, if_neg q1zz]
      have q0 : gA o15 3 (azz + 98 + 2 * izz) = gA o 24 izz := by rw [e15zz, upd_at, if_neg (by omega), e12zz, upd_at, if_pos rfl]
      have q1zz : gA o15 3 (azz + 98 + 2 * izz + 1) = gA o 25 izz := by rw [e15zz, upd_at, if_pos rfl]; exact p25zz
      have k18 : gI o15 18 = gI o 18 := by rw [e15zz, e12zz]; rfl
      obtain ⟨x1zz, x2zz, x3, x4zz, x5zz⟩ := ihzz x16 o15 (izz + 1) tx (by omega) k23 hzz
      have c2zz : gA o15 3 2 = gA o 3 2 := r3 2 (by omega) (by omega)
      refine ⟨by rw [x1zz, c2zz], by rw [x2zz, c2zz], by rw [x3, k18], fun jzz hj hr => ?_, fun kzz h1 h2 => ?_⟩
      · rw [x4zz jzz hj (by omega)]; exact r3 jzz (by omega) (by omega)
      · by_cases ezz : kzz = izz
        · rw [ezz, x4zz (azz + 98 + 2 * izz) (by omega) (Or.inl (by omega)), x4zz (azz + 98 + 2 * izz + 1) (by omega) (Or.inl (by omega)), q0, q1zz]; exact ⟨rfl, rfl⟩
        · rw [← r24, ← r25]; exact x5zz kzz (by omega) h2
set_option maxHeartbeats 200000 in
theorem w110 {yzz : Int32 × Ob} {v1zz : Int32} {azz Kzz n : Nat} (e1zz : v1zz.toInt = (azz : Int)) (hazz : 84 ≤ azz) (ha' : azz + 900 ≤ 5484) (hKzz : Kzz ≤ 400) (hn : n ≤ 12) : ∀ (Nzz : Nat) (v2 : Int32) (o : Ob) (izz : Nat), v2.toInt = (izz : Int) → izz ≤ 8 * n → (gI o 23).toInt = (Kzz : Int) → (gI o 21).toInt = (n : Int) → lp_X9_law_110 Nzz (v1zz, v2, o) = some yzz →
    yzz.1 = (gA o 3 2 + 1) - 1 ∧ gA yzz.2 3 2 = gA o 3 2 + 1 ∧ gI yzz.2 18 = gI o 18 ∧ (∀ jzz, jzz ≠ 2 → (jzz < azz + 2 + izz ∨ azz + 98 + 2 * Kzz ≤ jzz) → gA yzz.2 3 jzz = gA o 3 jzz) ∧ (∀ kzz, izz ≤ kzz → kzz < 8 * n → gA yzz.2 3 (azz + 2 + kzz) = gA o 22 kzz) ∧ (∀ kzz, kzz < Kzz → gA yzz.2 3 (azz + 98 + 2 * kzz) = gA o 24 kzz ∧ gA yzz.2 3 (azz + 98 + 2 * kzz + 1) = gA o 25 kzz) := by
  intro Nzz
  induction Nzz with
  | zero => intro v2 o izz _ _ _ _ hzz; cases hzz
  | succ Nzz ihzz =>
    intro v2 o izz e2zz hizz eK en hzz
    have hzz : lb_X9_law_110 (lp_X9_law_110 Nzz) v1zz v2 o = some yzz := hzz
    unfold lb_X9_law_110 at hzz
    have t8 : ((8 : Int32) * gI o 21).toInt = 8 * (n : Int) := i32_mul (by decide) en (by omega) (by omega)
    by_cases czz : (8 : Int32) * gI o 21 ≤ v2
    · have d := cv_le (a := 8 * (n : Int)) (b := (izz : Int)) t8 e2zz czz
      obtain ⟨x1zz, x2zz, x3, x4zz, x5zz⟩ := w145 e1zz hazz ha' hKzz zfu 0 o 0 (by decide) (Nat.zero_le _) eK (z_t hzz czz)
      exact ⟨x1zz, x2zz, x3, fun jzz hj hr => x4zz jzz hj (by omega), fun kzz h1 h2 => by omega, fun kzz hk => x5zz kzz (Nat.zero_le _) hk⟩
    · have d := cv_nle (a := 8 * (n : Int)) (b := (izz : Int)) t8 e2zz czz
      obtain ⟨-, hzz⟩ := z_gd (z_f hzz czz)
      obtain ⟨-, hzz⟩ := z_gd hzz
      obtain ⟨o19, e19zz, hzz⟩ := z_lt hzz
      obtain ⟨x20, exzz, hzz⟩ := z_lt hzz
      have s1zz : (v1zz + (2 : Int32)).toInt = (azz : Int) + 2 := i32_add e1zz (by decide) (by omega) (by omega)
      have i3zz : ((v1zz + (2 : Int32)) + v2).toNatClampNeg = azz + 2 + izz := tnc_eq (by rw [i32_add s1zz e2zz (by omega) (by omega)]; omega)
      have ivzz : v2.toNatClampNeg = izz := tnc_eq e2zz
      have tx : x20.toInt = ((izz + 1 : Nat) : Int) := by rw [exzz]; exact Eq.trans (i32_add e2zz (by decide : (1 : Int32).toInt = 1) (by omega) (by omega)) (by omega)
      rw [i3zz, ivzz] at e19zz
      have k23 : (gI o19 23).toInt = (Kzz : Int) := by rw [e19zz]; exact eK
      have k21 : (gI o19 21).toInt = (n : Int) := by rw [e19zz]; exact en
      have r22 : gA o19 22 = gA o 22 := by rw [e19zz]; rfl
      have r24 : gA o19 24 = gA o 24 := by rw [e19zz]; rfl
      have r25 : gA o19 25 = gA o 25 := by rw [e19zz]; rfl
      have r3 : ∀ jzz, jzz ≠ azz + 2 + izz → gA o19 3 jzz = gA o 3 jzz := fun jzz qzz => by rw [e19zz, upd_at, if_neg qzz]
      have q0 : gA o19 3 (azz + 2 + izz) = gA o 22 izz := by rw [e19zz, upd_at, if_pos rfl]
      have k18 : gI o19 18 = gI o 18 := by rw [e19zz]; rfl
      obtain ⟨x1zz, x2zz, x3, x4zz, x5zz, x6⟩ := ihzz x20 o19 (izz + 1) tx (by omega) k23 k21 hzz
      have c2zz : gA o19 3 2 = gA o 3 2 := r3 2 (by omega)
      refine ⟨by rw [x1zz, c2zz], by rw [x2zz, c2zz], by rw [x3, k18], fun jzz hj hr => ?_, fun kzz h1 h2 => ?_, fun kzz hk => ?_⟩
      · rw [x4zz jzz hj (by omega)]; exact r3 jzz (by omega)
      · by_cases ezz : kzz = izz
        · rw [ezz, x4zz (azz + 2 + izz) (by omega) (Or.inl (by omega)), q0]
        · rw [← r22]; exact x5zz kzz (by omega) h2
      · rw [← r24, ← r25]; exact x6 kzz hk
set_option maxHeartbeats 200000 in
theorem law9_eq {rd oc o : Ob} {yzz : Int32 × Ob} {zzz : Int32 × Ob × Ob} {l : Nat} (el : (gA o 3 2).toInt = (l : Int)) (hl : l < 6) (hz : TZ rd o) (ht : TbW o) (hH : HDs o) (h1 : f_X6_readText 12 400 rd oc 1 = some zzz) (hy : f_X9_law o = some yzz) :
    (zzz.1 = 0 ∧ yzz.1 = -6 ∧ gA yzz.2 3 = gA o 3 ∧ gI yzz.2 18 = gI zzz.2.1 3) ∨
    (zzz.1 = 1 ∧ yzz.1 = gA o 3 2 ∧ gA yzz.2 3 2 = gA o 3 2 + 1 ∧ (∀ jzz, jzz ≠ 2 → (jzz < 84 + 900 * l ∨ 84 + 900 * l + 900 ≤ jzz) → gA yzz.2 3 jzz = gA o 3 jzz) ∧ ∃ (wzz : Ob) (k1zz k2zz n : Nat), gI yzz.2 18 = gI wzz 18 ∧ 1 ≤ n ∧ n ≤ 12 ∧ ClS false (gA o 3) zzz.2.1 zzz.2.2 wzz k1zz k2zz n ∧ (gA yzz.2 3 (84 + 900 * l + 1)).toInt = (n : Int) ∧ (∀ kzz, kzz < 8 * n → gA yzz.2 3 (84 + 900 * l + 2 + kzz) = gA wzz 22 kzz) ∧ (∀ kzz, kzz < k2zz → gA yzz.2 3 (84 + 900 * l + 98 + 2 * kzz) = gA wzz 24 kzz ∧ gA yzz.2 3 (84 + 900 * l + 98 + 2 * kzz + 1) = gA wzz 25 kzz)) := by
  have n2zz : (2 : Int32).toNatClampNeg = 2 := by decide
  unfold f_X9_law at hy
  obtain ⟨o1, g1, hy⟩ := z_lt hy
  rw [n2zz] at hy
  have u3 : gA o1 3 = gA o 3 := by rw [g1]; rfl
  have hy := z_f hy (fun czz => by rw [u3] at czz; have czz := cv_eq (a := (l : Int)) (b := 6) el (by decide) czz; omega)
  obtain ⟨z2, ez2, hy⟩ := z_bd hy
  obtain ⟨z3, ez3, hy⟩ := z_bd hy
  have hz1 : TZ rd o1 := by rw [g1]; exact hz
  have ht1 : TbW o1 := by rw [g1]; exact ht
  have hH1 : HDs o1 := by rw [g1]; exact hH
  obtain ⟨wzz, hw, ⟨w3zz, wF⟩, hx⟩ := parse_L hz1 ht1 hH1 h1 ez2 ez3 hy
  rw [u3] at w3zz hx
  unfold bk_X9_law_64 at hw
  obtain ⟨z4, ez4, hw⟩ := z_bd hw
  unfold f_X9_endText at ez4
  rcases hx with ⟨a1zz, hbzz⟩ | ⟨a1zz, a2, a3, k1zz, k2zz, n, hn1, hn2, hC⟩
  · refine Or.inl ⟨a1zz, ?_⟩
    have h4 : gI z4 19 = 1 ∧ gI z4 18 = gI zzz.2.1 3 ∧ gA z4 3 = gA wzz 3 := by
      rcases hbzz with ⟨b1, b2⟩ | ⟨b1, b2, b3⟩
      · have ez4 := z_f ez4 (by rw [b1]; decide)
        unfold bk_X9_endText_19 at ez4
        obtain ⟨p1zz, gp1, ez4⟩ := z_lt ez4
        obtain ⟨p2zz, gp2, ez4⟩ := z_lt ez4
        rw [← Option.some.inj ez4, gp2, gp1]
        exact ⟨b1, b2, rfl⟩
      · obtain ⟨zm, ezm, ez4⟩ := z_bd (z_f (z_t ez4 b1) b2)
        have em := mu_no b1 ezm
        unfold bk_X9_endText_19 at ez4
        obtain ⟨p1zz, gp1, ez4⟩ := z_lt ez4
        obtain ⟨p2zz, gp2, ez4⟩ := z_lt ez4
        rw [← Option.some.inj ez4, gp2, gp1, em]
        exact ⟨rfl, b3, rfl⟩
    obtain ⟨zt, ezt, hw⟩ := z_bd (z_f hw (by rw [h4.1]; decide))
    have t := tell_3 ezt
    rw [← Option.some.inj hw]
    refine ⟨t.1, ?_, ?_⟩
    · show gA zt.2 3 = _; rw [t.2.1, h4.2.2, w3zz]
    · show gI zt.2 18 = _; rw [tell_18 ezt, h4.2.1]
  · have ez4 := z_t (z_t ez4 a2) a3
    unfold bk_X9_endText_19 at ez4
    obtain ⟨p1zz, gp1, ez4⟩ := z_lt ez4
    obtain ⟨p2zz, gp2, ez4⟩ := z_lt ez4
    have e4zz : z4 = sI (sI wzz 20 0) 13 0 := by rw [← Option.some.inj ez4, gp2, gp1]
    have k19 : gI z4 19 = 0 := by rw [e4zz]; exact a2
    obtain ⟨x5zz, gx5, hw⟩ := z_lt (z_t hw k19)
    obtain ⟨-, hw⟩ := z_gd hw
    obtain ⟨o7, g7, hw⟩ := z_lt hw
    rw [n2zz] at gx5
    have v3 : gA z4 3 = gA o 3 := by rw [e4zz]; exact w3zz
    have t9 : ((900 : Int32) * gA z4 3 2).toInt = 900 * (l : Int) := by rw [v3]; exact i32_mul (by decide) el (by omega) (by omega)
    have tx : x5zz.toInt = ((84 + 900 * l : Nat) : Int) := by rw [gx5]; exact Eq.trans (i32_add (by decide : (84 : Int32).toInt = 84) t9 (by omega) (by omega)) (by omega)
    have i1zz : (x5zz + (1 : Int32)).toNatClampNeg = 84 + 900 * l + 1 := tnc_eq (by rw [i32_add tx (by decide : (1 : Int32).toInt = 1) (by omega) (by omega)]; omega)
    rw [i1zz] at g7
    have k23 : (gI o7 23).toInt = (k2zz : Int) := by rw [g7, e4zz]; exact hC.1.2.2.2.2.2.1
    have k21 : (gI o7 21).toInt = (n : Int) := by rw [g7, e4zz]; exact hC.2.1
    obtain ⟨x1zz, x2zz, x3, x4zz, x5', x6⟩ := w110 tx (by omega) (by omega) hC.1.2.2.2.2.2.2.2.1 hn2 zfu 0 o7 0 (by decide) (Nat.zero_le _) k23 k21 hw
    have c2zz : gA o7 3 2 = gA o 3 2 := by rw [g7, upd_at, if_neg (by omega), v3]
    have c1zz : gA o7 3 (84 + 900 * l + 1) = gI wzz 21 := by rw [g7, upd_at, if_pos rfl, e4zz]; rfl
    have cj : ∀ jzz, jzz ≠ 84 + 900 * l + 1 → gA o7 3 jzz = gA o 3 jzz := fun jzz hj => by rw [g7, upd_at, if_neg hj, v3]
    have k18 : gI o7 18 = gI wzz 18 := by rw [g7, e4zz]; rfl
    have r22 : gA o7 22 = gA wzz 22 := by rw [g7, e4zz]; rfl
    have r24 : gA o7 24 = gA wzz 24 := by rw [g7, e4zz]; rfl
    have r25 : gA o7 25 = gA wzz 25 := by rw [g7, e4zz]; rfl
    have hk2 := hC.1.2.2.2.2.2.2.2.1
    refine Or.inr ⟨a1zz, ?_, by rw [x2zz, c2zz], fun jzz hj hr => ?_, wzz, k1zz, k2zz, n, by rw [x3, k18], hn1, hn2, hC, ?_, fun kzz hk => ?_, fun kzz hk => ?_⟩
    · rw [x1zz, c2zz]
      have s1zz : (gA o 3 2 + (1 : Int32)).toInt = (l : Int) + 1 := i32_add el (by decide) (by omega) (by omega)
      exact Int32.toInt_inj.mp (by rw [i32_sub s1zz (by decide : (1 : Int32).toInt = 1) (by omega) (by omega), el]; omega)
    · rw [x4zz jzz hj (by omega)]; exact cj jzz (by omega)
    · rw [x4zz (84 + 900 * l + 1) (by omega) (Or.inl (by omega)), c1zz]; exact hC.2.1
    · rw [x5' kzz (Nat.zero_le _) hk, r22]
    · rw [← r24, ← r25]; exact x6 kzz hk
def RSt (Gzz : Nat → Int32) (Wzz : Nat → Int64) (l : Nat) (o : Ob) : Prop := gI o 20 = 0 ∧ gA o 3 = Gzz ∧ (gI o 34).toInt = 84 + 900 * (l : Int) ∧ gM o 35 = Wzz
set_option maxHeartbeats 200000 in
theorem RSt.fr {Gzz : Nat → Int32} {Wzz : Nat → Int64} {l : Nat} {o o' : Ob} (hzz : RSt Gzz Wzz l o) (fzz : FrX d_X9_isSo_me o o') : RSt Gzz Wzz l o' := ⟨(fzz.I 20 rfl).trans hzz.1, (fzz.A 3 rfl).trans hzz.2.1, by rw [fzz.I 34 rfl]; exact hzz.2.2.1, (fzz.M 35 rfl).trans hzz.2.2.2⟩
def opL (Gzz : Nat → Int32) (l : Nat) : Nat → Int32 := fun kzz => Gzz (84 + 900 * l + 98 + 2 * kzz)
def argL (Gzz : Nat → Int32) (l : Nat) : Nat → Int32 := fun kzz => Gzz (84 + 900 * l + 98 + 2 * kzz + 1)
def clL (Gzz : Nat → Int32) (l : Nat) : Nat → Int32 := fun kzz => Gzz (84 + 900 * l + 2 + kzz)
set_option maxHeartbeats 200000 in
theorem RSt.rd {Gzz : Nat → Int32} {Wzz : Nat → Int64} {l : Nat} {o : Ob} (hzz : RSt Gzz Wzz l o) (hl : l < 6) : RD (opL Gzz l) (argL Gzz l) o := Or.inl ⟨hzz.1, l, hl, hzz.2.2.1, fun kzz => by rw [hzz.2.1]; exact ⟨rfl, rfl⟩⟩
set_option maxHeartbeats 200000 in
theorem RSt.ew {Gzz : Nat → Int32} {Wzz : Nat → Int64} {l : Nat} {mezz o : Ob} (hzz : RSt Gzz Wzz l o) (hG : 0 ≤ (Gzz 0).toInt ∧ (Gzz 0).toInt ≤ 7) (hW : ∀ kzz, kzz < 9 → (gA mezz 0 kzz).toInt64 = Wzz (kzz + 1)) : EWo false mezz o := ⟨by rw [hzz.2.1]; exact hG, fun _ => ⟨hzz.1, fun kzz hk => by rw [hzz.2.2.2]; exact hW kzz hk⟩, fun qzz => by cases qzz⟩
set_option maxHeartbeats 200000 in
theorem worth_nil {nc ns : Nat} {mezz oc : Ob} {pzz qzz : Int32} {yzz : Int64 × Ob} (hzz : f_X3_worth_O nc ns mezz oc pzz qzz = some yzz) (hpq : qzz.toInt ≤ pzz.toInt) : yzz = (1, mezz) := by
  unfold f_X3_worth_O at hzz
  have hzz := z_f hzz (fun czz => by have czz := cv_lt (a := pzz.toInt) (b := qzz.toInt) rfl rfl czz; omega)
  exact (Option.some.inj hzz).symm
set_option maxHeartbeats 200000 in
theorem ixp {p0zz czz : Int32} {l mzz kzz : Nat} (hzz : p0zz.toInt = 84 + 900 * (l : Int) + 2 + 8 * (mzz : Int)) (hl : l < 6) (hmzz : mzz < 12) (hczz : czz.toInt = (kzz : Int)) (hk : kzz < 8) : (p0zz + czz).toNatClampNeg = 84 + 900 * l + 2 + (8 * mzz + kzz) := tnc_eq (by rw [i32_add hzz hczz (by omega) (by omega)]; omega)
set_option maxHeartbeats 200000 in
theorem ixp0 {p0zz : Int32} {l mzz : Nat} (hzz : p0zz.toInt = 84 + 900 * (l : Int) + 2 + 8 * (mzz : Int)) : p0zz.toNatClampNeg = 84 + 900 * l + 2 + 8 * mzz := tnc_eq (by rw [hzz]; omega)
set_option maxHeartbeats 200000 in
theorem so59 {Gzz : Nat → Int32} {Wzz : Nat → Int64} {l mzz : Nat} {o : Ob} {p0zz : Int32} {zzz : Int32 × Ob} (hs : RSt Gzz Wzz l o) (hl : l < 6) (hmzz : mzz < 12) (hp : p0zz.toInt = 84 + 900 * (l : Int) + 2 + 8 * (mzz : Int)) (hzz : bk_X9_isSo_59 p0zz o = some zzz) :
    (clL Gzz l (8 * mzz) = 3 ∧ zzz.1 = 1) ∨ (¬ clL Gzz l (8 * mzz) = 3 ∧ ∃ wzz, f_X9_reckonAll o (clL Gzz l (8 * mzz + 3)) (clL Gzz l (8 * mzz + 4)) = some wzz ∧ ((gI wzz 38 = 0 ∧ zzz.1 = 1 ∧ gL zzz.2 40 = gL wzz 39) ∨ (¬ gI wzz 38 = 0 ∧ zzz.1 = 0))) := by
  unfold bk_X9_isSo_59 at hzz
  have hzz := (z_gd hzz).2
  have i0zz := ixp0 hp
  have i3zz := ixp (czz := 3) (kzz := 3) hp hl hmzz (by decide) (by decide)
  have i4zz := ixp (czz := 4) (kzz := 4) hp hl hmzz (by decide) (by decide)
  rw [i0zz, i3zz, i4zz, hs.2.1] at hzz
  rcases z_if hzz with ⟨czz, hzz⟩ | ⟨czz, hzz⟩
  · have hzz := Option.some.inj hzz
    exact Or.inl ⟨czz, by rw [← hzz]⟩
  · have hzz := (z_gd (z_gd hzz).2).2
    obtain ⟨wzz, ezz, hzz⟩ := z_bd hzz
    obtain ⟨o7, e7zz, hzz⟩ := z_lt hzz
    refine Or.inr ⟨czz, wzz, ezz, ?_⟩
    rcases z_if hzz with ⟨c2zz, hzz⟩ | ⟨c2zz, hzz⟩
    · have hzz := Option.some.inj hzz
      rw [e7zz] at c2zz
      exact Or.inl ⟨c2zz, by rw [← hzz], by rw [← hzz, e7zz]; rfl⟩
    · have hzz := Option.some.inj hzz
      rw [e7zz] at c2zz
      exact Or.inr ⟨c2zz, by rw [← hzz]⟩
set_option maxHeartbeats 200000 in
theorem so_all {Gzz : Nat → Int32} {Wzz : Nat → Int64} {l mzz : Nat} {o : Ob} {p0zz : Int32} {zzz : Int32 × Ob} (hs : RSt Gzz Wzz l o) (hl : l < 6) (hmzz : mzz < 12) (hp : p0zz.toInt = 84 + 900 * (l : Int) + 2 + 8 * (mzz : Int)) (hzz : f_X9_isSo o p0zz = some zzz) :
    ((clL Gzz l (8 * mzz + 6)).toInt ≤ (clL Gzz l (8 * mzz + 5)).toInt ∧ bk_X9_isSo_59 p0zz o = some zzz) ∨
    ((clL Gzz l (8 * mzz + 5)).toInt < (clL Gzz l (8 * mzz + 6)).toInt ∧ ∃ wzz, f_X9_reckonAll o (clL Gzz l (8 * mzz + 5)) (clL Gzz l (8 * mzz + 6)) = some wzz ∧ ((gI wzz 38 = 0 ∧ ((gL wzz 39 = 0 ∧ zzz.1 = 0) ∨ (¬ gL wzz 39 = 0 ∧ bk_X9_isSo_59 p0zz wzz = some zzz))) ∨ (¬ gI wzz 38 = 0 ∧ zzz.1 = 0))) := by
  unfold f_X9_isSo at hzz
  have hzz := (z_gd (z_gd hzz).2).2
  have i5zz := ixp (czz := 5) (kzz := 5) hp hl hmzz (by decide) (by decide)
  have i6zz := ixp (czz := 6) (kzz := 6) hp hl hmzz (by decide) (by decide)
  rw [i5zz, i6zz, hs.2.1] at hzz
  rcases z_if hzz with ⟨czz, hzz⟩ | ⟨czz, hzz⟩
  · exact Or.inl ⟨cv_le rfl rfl czz, hzz⟩
  · have hzz := (z_gd (z_gd hzz).2).2
    obtain ⟨wzz, ezz, hzz⟩ := z_bd hzz
    refine Or.inr ⟨cv_nle rfl rfl czz, wzz, ezz, ?_⟩
    rcases z_if hzz with ⟨c2zz, hzz⟩ | ⟨c2zz, hzz⟩
    · refine Or.inl ⟨c2zz, ?_⟩
      rcases z_if hzz with ⟨c3zz, hzz⟩ | ⟨c3zz, hzz⟩
      · have hzz := Option.some.inj hzz
        exact Or.inl ⟨(lg_cmp_eq _ _).mp c3zz, by rw [← hzz]⟩
      · exact Or.inr ⟨fun qzz => c3zz ((lg_cmp_eq _ _).mpr qzz), hzz⟩
    · have hzz := Option.some.inj hzz
      exact Or.inr ⟨c2zz, by rw [← hzz]⟩
def RNo (Gzz : Nat → Int32) (Wzz : Nat → Int64) (l mzz : Nat) : Prop := ∀ (o : Ob) (p0zz : Int32) (zzz : Int32 × Ob), RSt Gzz Wzz l o → p0zz.toInt = 84 + 900 * (l : Int) + 2 + 8 * (mzz : Int) → f_X9_isSo o p0zz = some zzz → zzz.1 = 0
def RYes (Gzz : Nat → Int32) (Wzz : Nat → Int64) (l mzz : Nat) (vzz : Int64) : Prop := ∀ (o : Ob) (p0zz : Int32) (zzz : Int32 × Ob), RSt Gzz Wzz l o → p0zz.toInt = 84 + 900 * (l : Int) + 2 + 8 * (mzz : Int) → f_X9_isSo o p0zz = some zzz → ¬ zzz.1 = 0 ∧ (¬ clL Gzz l (8 * mzz) = 3 → gL zzz.2 40 = vzz)
set_option maxHeartbeats 200000 in
theorem reck_fr {o wzz : Ob} {azz bzz : Int32} (ezz : f_X9_reckonAll o azz bzz = some wzz) : FrX d_X9_isSo_me o wzz := (fr_f_X9_reckonAll ezz).mono rfl
set_option maxHeartbeats 200000 in
theorem so_one {nc ns : Nat} {oc mezz : Ob} {Gzz : Nat → Int32} {Wzz : Nat → Int64} {l mzz K1 K2 : Nat} {y1 : Int64 × Ob} (hl : l < 6) (hmzz : mzz < 12) (hK8 : (gI oc 8).toInt = (K1 : Int)) (hK1 : K1 ≤ 400) (hK2 : K2 ≤ 400) (hczz : ClE false oc (clL Gzz l) (opL Gzz l) (argL Gzz l) mzz K1 K2) (hG : 0 ≤ (Gzz 0).toInt ∧ (Gzz 0).toInt ≤ 7) (hW : ∀ kzz, kzz < 9 → (gA mezz 0 kzz).toInt64 = Wzz (kzz + 1))
    (h1 : f_X3_worth_O nc ns mezz oc (gA oc 3 mzz) (gA oc 4 mzz) = some y1) :
    (¬ y1.1 = 1 → RNo Gzz Wzz l mzz) ∧ (y1.1 = 1 → ∀ y3, f_X3_worth_O nc ns y1.2 oc (gA oc 2 mzz) (gA oc 3 mzz) = some y3 → (y3.1 = -9000000000000000000 → RNo Gzz Wzz l mzz) ∧ (¬ y3.1 = -9000000000000000000 → RYes Gzz Wzz l mzz y3.1)) := by
  obtain ⟨a1zz, b1, c1zz, a2, b2, c2zz, d2zz, k0zz, kr, ea1, eb1, ec1, ea2, eb2, ec2, ed2, ⟨l1, l2, l3, l4, l5⟩, hsum, htst, -⟩ := hczz
  have sf : sfo false = 3 := rfl
  rw [sf] at ea2 eb2
  have k0' : gA oc 0 mzz = clL Gzz l (8 * mzz) := k0zz
  have e4zz : clL Gzz l (8 * mzz + (3 + 1)) = clL Gzz l (8 * mzz + 4) := rfl
  rw [e4zz] at eb2
  have tst : ∀ (o : Ob) (p0zz : Int32) (zzz : Int32 × Ob), RSt Gzz Wzz l o → p0zz.toInt = 84 + 900 * (l : Int) + 2 + 8 * (mzz : Int) → f_X9_isSo o p0zz = some zzz → (¬ y1.1 = 1 ∧ zzz.1 = 0) ∨ (y1.1 = 1 ∧ ∃ o', RSt Gzz Wzz l o' ∧ bk_X9_isSo_59 p0zz o' = some zzz) := by
    intro o p0zz zzz hs hp hz
    rcases so_all hs hl hmzz hp hz with ⟨qzz, hz⟩ | ⟨qzz, wzz, ew, hz⟩
    · rcases htst with ⟨t1zz, t2zz⟩ | ⟨n, hn, hx⟩
      · have uzz := worth_nil h1 (by omega)
        exact Or.inr ⟨by rw [uzz], o, hs, hz⟩
      · have := hx.lt; omega
    · rcases htst with ⟨t1zz, t2zz⟩ | ⟨n, hn, hx⟩
      · omega
      · have hs' := hs.fr (reck_fr ew)
        rcases ev_all hx hn (by omega) (by omega) (by omega) eb1 ec1 ec2 ed2 (hs.ew hG hW) (hs.rd hl) h1 ew with ⟨u1zz, u2zz⟩ | ⟨u1zz, u2zz, -, u4zz⟩
        · have nb : ¬ y1.1 = 1 := by rw [u1zz]; decide
          rcases hz with ⟨gzz, -⟩ | ⟨-, gzz⟩
          · rw [u2zz] at gzz; exact absurd gzz (by decide)
          · exact Or.inl ⟨nb, gzz⟩
        · rcases hz with ⟨-, gzz⟩ | ⟨gzz, -⟩
          · rcases gzz with ⟨g1, g2⟩ | ⟨g1, g2⟩
            · exact Or.inl ⟨by rw [u2zz, g1]; decide, g2⟩
            · refine Or.inr ⟨?_, wzz, hs', g2⟩
              rcases u4zz rfl with uzz | uzz
              · exact absurd (u2zz.symm.trans uzz) g1
              · exact uzz
          · exact absurd u1zz gzz
  refine ⟨fun ny o p0zz zzz hs hp hz => ?_, fun yy y3 h3 => ?_⟩
  · rcases tst o p0zz zzz hs hp hz with ⟨-, gzz⟩ | ⟨gzz, -⟩
    · exact gzz
    · exact absurd gzz ny
  · have hW3 : ∀ kzz, kzz < 9 → (gA y1.2 0 kzz).toInt64 = Wzz (kzz + 1) := by
      intro kzz hk
      rw [(fr_f_X3_worth_O h1).A 0 rfl]; exact hW kzz hk
    refine ⟨fun hbzz o p0zz zzz hs hp hz => ?_, fun hbzz o p0zz zzz hs hp hz => ?_⟩
    · rcases tst o p0zz zzz hs hp hz with ⟨gzz, -⟩ | ⟨-, o', hs', hz'⟩
      · exact absurd yy gzz
      · rcases so59 hs' hl hmzz hp hz' with ⟨gzz, -⟩ | ⟨gzz, wzz, ew, hw⟩
        · rcases hsum with ⟨s1zz, s2zz, s3zz⟩ | ⟨s1zz, -⟩
          · have uzz := worth_nil h3 (by omega)
            have hb' : (1 : Int64) = -9000000000000000000 := by rw [uzz] at hbzz; exact hbzz
            exact absurd hb' (by decide)
          · exact absurd (k0'.trans gzz) s1zz
        · rcases hsum with ⟨s1zz, -⟩ | ⟨s1zz, n, hn, hb2, hx⟩
          · exact absurd (k0'.symm.trans s1zz) gzz
          · rcases ev_all hx hn (by omega) (by omega) (by omega) ea1 eb1 ea2 eb2 (hs'.ew hG hW3) (hs'.rd hl) h3 ew with ⟨u1zz, u2zz⟩ | ⟨u1zz, u2zz, u3, -⟩
            · rcases hw with ⟨qzz, -⟩ | ⟨-, qzz⟩
              · rw [u2zz] at qzz; exact absurd qzz (by decide)
              · exact qzz
            · rw [hbzz] at u3
              exact absurd u3 (by decide)
    · rcases tst o p0zz zzz hs hp hz with ⟨gzz, -⟩ | ⟨-, o', hs', hz'⟩
      · exact absurd yy gzz
      · rcases so59 hs' hl hmzz hp hz' with ⟨gzz, g2⟩ | ⟨gzz, wzz, ew, hw⟩
        · exact ⟨by rw [g2]; decide, fun qzz => absurd gzz qzz⟩
        · rcases hsum with ⟨s1zz, -⟩ | ⟨s1zz, n, hn, hb2, hx⟩
          · exact absurd (k0'.symm.trans s1zz) gzz
          · rcases ev_all hx hn (by omega) (by omega) (by omega) ea1 eb1 ea2 eb2 (hs'.ew hG hW3) (hs'.rd hl) h3 ew with ⟨u1zz, u2zz⟩ | ⟨u1zz, u2zz, u3, -⟩
            · exact absurd u1zz hbzz
            · rcases hw with ⟨-, q1zz, q2zz⟩ | ⟨qzz, -⟩
              · exact ⟨by rw [q1zz]; decide, fun _ => q2zz.trans u2zz.symm⟩
              · exact absurd u1zz qzz
def TCe (Gzz : Nat → Int32) (Wzz : Nat → Int64) (oc : Ob) (l : Nat) (Kzz : Int32) (n : Nat) (yzz : Int64) : Prop :=
  (yzz = -9000000000000000000 ∧ ∀ mzz, mzz < n → gA oc 0 mzz = Kzz → RNo Gzz Wzz l mzz) ∨ (¬ yzz = -9000000000000000000 ∧ ∃ mzz, mzz < n ∧ gA oc 0 mzz = Kzz ∧ RYes Gzz Wzz l mzz yzz ∧ ∀ m', mzz < m' → m' < n → gA oc 0 m' = Kzz → RNo Gzz Wzz l m')
set_option maxHeartbeats 200000 in
theorem tol_lp {nc ns : Nat} {azz bzz czz oc : Ob} {Gzz : Nat → Int32} {Wzz : Nat → Int64} {l n K1 K2 : Nat} {Kzz : Int32} {yzz : Int64 × Ob} (hl : l < 6) (hn : n ≤ 12) (hK8 : (gI oc 8).toInt = (K1 : Int)) (hK1 : K1 ≤ 400) (hK2 : K2 ≤ 400) (hczz : ∀ mzz, mzz < n → ClE false oc (clL Gzz l) (opL Gzz l) (argL Gzz l) mzz K1 K2) (hG : 0 ≤ (Gzz 0).toInt ∧ (Gzz 0).toInt ≤ 7) :
    ∀ (Nzz : Nat) (v6 : Int32) (mezz : Ob) (izz : Nat), v6.toInt = (izz : Int) - 1 → izz ≤ n → (∀ kzz, kzz < 9 → (gA mezz 0 kzz).toInt64 = Wzz (kzz + 1)) → lp_X1_told_O_51 nc ns azz bzz czz oc Nzz (Kzz, v6, mezz) = some yzz → TCe Gzz Wzz oc l Kzz izz yzz.1 := by
  intro Nzz
  induction Nzz with
  | zero => intro v6 mezz izz _ _ _ hzz; cases hzz
  | succ Nzz ihzz =>
    intro v6 mezz izz e6zz hizz hW hzz
    have hzz : lb_X1_told_O_51 nc ns azz bzz czz oc (lp_X1_told_O_51 nc ns azz bzz czz oc Nzz) Kzz v6 mezz = some yzz := hzz
    unfold lb_X1_told_O_51 at hzz
    rcases z_if hzz with ⟨c0zz, hzz⟩ | ⟨c0zz, hzz⟩
    · have hzz := Option.some.inj hzz
      have c0zz := cv_lt (a := (izz : Int) - 1) (b := 0) e6zz (by decide) c0zz
      have ei : izz = 0 := by omega
      subst ei
      exact Or.inl ⟨by rw [← hzz], fun mzz hmzz => absurd hmzz (by omega)⟩
    · have c0zz := cv_nlt (a := (izz : Int) - 1) (b := 0) e6zz (by decide) c0zz
      have hzz := (z_gd hzz).2
      obtain ⟨jzz, ej⟩ : ∃ jzz, izz = jzz + 1 := ⟨izz - 1, by omega⟩
      subst ej
      have i6zz : v6.toNatClampNeg = jzz := tnc_eq (by rw [e6zz]; omega)
      rw [i6zz] at hzz
      have t7 : (v6 + (-1 : Int32)).toInt = (jzz : Int) - 1 := Eq.trans (i32_add e6zz (by decide : (-1 : Int32).toInt = -1) (by omega) (by omega)) (by omega)
      have lowzz : ∀ (me' : Ob), (∀ kzz, kzz < 9 → (gA me' 0 kzz).toInt64 = Wzz (kzz + 1)) → bk_X1_told_O_130 nc ns azz bzz czz oc (lp_X1_told_O_51 nc ns azz bzz czz oc Nzz) Kzz v6 me' = some yzz → (gA oc 0 jzz = Kzz → RNo Gzz Wzz l jzz) → TCe Gzz Wzz oc l Kzz (jzz + 1) yzz.1 := by
        intro me' hW' hbzz hno
        unfold bk_X1_told_O_130 at hbzz
        obtain ⟨x6, exzz, hbzz⟩ := z_lt hbzz
        rw [← exzz] at t7
        rcases ihzz x6 me' jzz t7 (by omega) hW' hbzz with ⟨g1, g2⟩ | ⟨g1, mzz, g2, g3zz, g4, g5zz⟩
        · refine Or.inl ⟨g1, fun mzz hmzz hk => ?_⟩
          by_cases qzz : mzz = jzz
          · subst qzz; exact hno hk
          · exact g2 mzz (by omega) hk
        · refine Or.inr ⟨g1, mzz, by omega, g3zz, g4, fun m' h1 h2 hk => ?_⟩
          by_cases qzz : m' = jzz
          · subst qzz; exact hno hk
          · exact g5zz m' h1 (by omega) hk
      rcases z_if hzz with ⟨c1zz, hzz⟩ | ⟨c1zz, hzz⟩
      · have hzz := (z_gd (z_gd hzz).2).2
        obtain ⟨z9, e9zz, hzz⟩ := z_bd hzz
        have so := so_one hl (by omega) hK8 hK1 hK2 (hczz jzz (by omega)) hG hW e9zz
        have hW9 : ∀ kzz, kzz < 9 → (gA z9.2 0 kzz).toInt64 = Wzz (kzz + 1) := fun kzz hk => by rw [(fr_f_X3_worth_O e9zz).A 0 rfl]; exact hW kzz hk
        rcases z_if hzz with ⟨c2zz, hzz⟩ | ⟨c2zz, hzz⟩
        · have c2zz := (lg_cmp_eq _ _).mp c2zz
          have hzz := (z_gd (z_gd hzz).2).2
          obtain ⟨z12, e12zz, hzz⟩ := z_bd hzz
          have so := so.2 c2zz z12 e12zz
          have hW12 : ∀ kzz, kzz < 9 → (gA z12.2 0 kzz).toInt64 = Wzz (kzz + 1) := fun kzz hk => by rw [(fr_f_X3_worth_O e12zz).A 0 rfl]; exact hW9 kzz hk
          rcases z_if hzz with ⟨c3zz, hzz⟩ | ⟨c3zz, hzz⟩
          · exact lowzz z12.2 hW12 hzz (fun _ => so.1 ((lg_cmp_eq _ _).mp c3zz))
          · have hzz := Option.some.inj hzz
            have nb : ¬ z12.1 = -9000000000000000000 := fun qzz => c3zz ((lg_cmp_eq _ _).mpr qzz)
            rw [← hzz]
            exact Or.inr ⟨nb, jzz, by omega, c1zz, so.2 nb, fun m' h1 h2 => absurd h1 (by omega)⟩
        · exact lowzz z9.2 hW9 hzz (fun _ => so.1 (fun qzz => c2zz ((lg_cmp_eq _ _).mpr qzz)))
      · exact lowzz mezz hW hzz (fun qzz => absurd qzz c1zz)
set_option maxHeartbeats 200000 in
theorem tel_lp {oc : Ob} {Gzz : Nat → Int32} {Wzz : Nat → Int64} {l n K1 K2 : Nat} {Kzz : Int32} {vzz wo : Int64} {yzz : Int64 × Ob} (hl : l < 6) (hn : n ≤ 12) (hn1 : (Gzz (84 + 900 * l + 1)).toInt = (n : Int)) (hczz : ∀ mzz, mzz < n → ClE false oc (clL Gzz l) (opL Gzz l) (argL Gzz l) mzz K1 K2) (hv : TCe Gzz Wzz oc l Kzz n vzz) :
    ∀ (Nzz : Nat) (v7 : Int64) (v9 : Int32) (o : Ob) (izz : Nat), v9.toInt = (izz : Int) → izz ≤ n → RSt Gzz Wzz l o → ((vzz = -9000000000000000000 → v7 = wo) ∧ (¬ vzz = -9000000000000000000 → (∃ mzz, mzz < izz ∧ mzz < n ∧ gA oc 0 mzz = Kzz ∧ RYes Gzz Wzz l mzz vzz ∧ ∀ m', mzz < m' → m' < n → gA oc 0 m' = Kzz → RNo Gzz Wzz l m') → v7 = if Kzz = 3 then 1 else vzz)) →
      lp_X9_tells_159 Nzz (Kzz, v7, v9, o) = some yzz → (vzz = -9000000000000000000 ∧ yzz.1 = wo) ∨ (¬ vzz = -9000000000000000000 ∧ yzz.1 = if Kzz = 3 then 1 else vzz) := by
  intro Nzz
  induction Nzz with
  | zero => intro v7 v9 o izz _ _ _ _ hzz; cases hzz
  | succ Nzz ihzz =>
    intro v7 v9 o izz e9zz hizz hs hI hzz
    have hzz : lb_X9_tells_159 (lp_X9_tells_159 Nzz) Kzz v7 v9 o = some yzz := hzz
    unfold lb_X9_tells_159 at hzz
    have hzz := (z_gd hzz).2
    have i1zz : (gI o 34 + (1 : Int32)).toNatClampNeg = 84 + 900 * l + 1 := tnc_eq (by rw [i32_add hs.2.2.1 (by decide : (1 : Int32).toInt = 1) (by omega) (by omega)]; omega)
    rw [i1zz, hs.2.1] at hzz
    rcases z_if hzz with ⟨c0zz, hzz⟩ | ⟨c0zz, hzz⟩
    · have c0zz := cv_le (a := (n : Int)) (b := (izz : Int)) hn1 e9zz c0zz
      have hzz := Option.some.inj hzz
      rw [← hzz]
      by_cases qzz : vzz = -9000000000000000000
      · exact Or.inl ⟨qzz, hI.1 qzz⟩
      · refine Or.inr ⟨qzz, hI.2 qzz ?_⟩
        rcases hv with ⟨gzz, -⟩ | ⟨-, mzz, g2, g3zz, g4, g5zz⟩
        · exact absurd gzz qzz
        · exact ⟨mzz, by omega, g2, g3zz, g4, g5zz⟩
    · have c0zz := cv_nle (a := (n : Int)) (b := (izz : Int)) hn1 e9zz c0zz
      obtain ⟨x15, exzz, hzz⟩ := z_lt hzz
      have hzz := (z_gd hzz).2
      have tx : x15.toInt = 84 + 900 * (l : Int) + 2 + 8 * (izz : Int) := by
        rw [exzz]
        exact i32_add (i32_add hs.2.2.1 (by decide : (2 : Int32).toInt = 2) (by omega) (by omega)) (i32_mul (by decide : (8 : Int32).toInt = 8) e9zz (by omega) (by omega)) (by omega) (by omega)
      have ix := ixp0 tx
      rw [ix] at hzz
      have t10 : (v9 + (1 : Int32)).toInt = ((izz + 1 : Nat) : Int) := Eq.trans (i32_add e9zz (by decide : (1 : Int32).toInt = 1) (by omega) (by omega)) (by omega)
      have kk : gA oc 0 izz = clL Gzz l (8 * izz) := by
        obtain ⟨_, _, _, _, _, _, _, k0zz, -⟩ := hczz izz (by omega)
        exact k0zz
      have nxtzz : ∀ (w7zz : Int64) (o' : Ob), RSt Gzz Wzz l o' → ((vzz = -9000000000000000000 → w7zz = wo) ∧ (¬ vzz = -9000000000000000000 → (∃ mzz, mzz < izz + 1 ∧ mzz < n ∧ gA oc 0 mzz = Kzz ∧ RYes Gzz Wzz l mzz vzz ∧ ∀ m', mzz < m' → m' < n → gA oc 0 m' = Kzz → RNo Gzz Wzz l m') → w7zz = if Kzz = 3 then 1 else vzz)) → bk_X9_tells_224 (lp_X9_tells_159 Nzz) Kzz w7zz v9 o' = some yzz → (vzz = -9000000000000000000 ∧ yzz.1 = wo) ∨ (¬ vzz = -9000000000000000000 ∧ yzz.1 = if Kzz = 3 then 1 else vzz) := by
        intro w7zz o' hs' hI' hbzz
        unfold bk_X9_tells_224 at hbzz
        obtain ⟨x17, e17zz, hbzz⟩ := z_lt hbzz
        rw [← e17zz] at t10
        exact ihzz w7zz x17 o' (izz + 1) t10 (by omega) hs' hI' hbzz
      have keepzz : (∀ (mzz : Nat), mzz = izz → gA oc 0 mzz = Kzz → RYes Gzz Wzz l mzz vzz → False) → ((vzz = -9000000000000000000 → v7 = wo) ∧ (¬ vzz = -9000000000000000000 → (∃ mzz, mzz < izz + 1 ∧ mzz < n ∧ gA oc 0 mzz = Kzz ∧ RYes Gzz Wzz l mzz vzz ∧ ∀ m', mzz < m' → m' < n → gA oc 0 m' = Kzz → RNo Gzz Wzz l m') → v7 = if Kzz = 3 then 1 else vzz)) := by
        intro hno
        refine ⟨hI.1, fun qzz ⟨mzz, m1zz, m2zz, m3zz, m4zz, m5zz⟩ => hI.2 qzz ⟨mzz, ?_, m2zz, m3zz, m4zz, m5zz⟩⟩
        by_cases qq : mzz = izz
        · exact absurd m4zz (fun zzz => hno mzz qq m3zz zzz)
        · omega
      rcases z_if hzz with ⟨c1zz, hzz⟩ | ⟨c1zz, hzz⟩
      · obtain ⟨z18, e18zz, hzz⟩ := z_bd hzz
        have hs8 : RSt Gzz Wzz l z18.2 := hs.fr (fr_f_X9_isSo e18zz)
        have kK : gA oc 0 izz = Kzz := kk.trans c1zz
        rcases z_if hzz with ⟨c2zz, hzz⟩ | ⟨c2zz, hzz⟩
        · exact nxtzz v7 z18.2 hs8 (keepzz (fun mzz em _ hy => by subst em; exact (hy o x15 z18 hs tx e18zz).1 c2zz)) hzz
        ·
          have hval : ¬ vzz = -9000000000000000000 → (∃ mzz, mzz < izz + 1 ∧ mzz < n ∧ gA oc 0 mzz = Kzz ∧ RYes Gzz Wzz l mzz vzz ∧ ∀ m', mzz < m' → m' < n → gA oc 0 m' = Kzz → RNo Gzz Wzz l m') → (Kzz = 3 ∨ gL z18.2 40 = vzz) := by
            intro qzz ⟨mzz, m1zz, m2zz, m3zz, m4zz, m5zz⟩
            by_cases qq : mzz = izz
            · subst qq
              by_cases q3zz : Kzz = 3
              · exact Or.inl q3zz
              · exact Or.inr ((m4zz o x15 z18 hs tx e18zz).2 (fun zzz => q3zz (kK.symm.trans (kk.trans zzz))))
            · exact absurd (m5zz izz (by omega) (by omega) kK o x15 z18 hs tx e18zz) c2zz
          have hbrk : ¬ vzz = -9000000000000000000 := by
            intro qzz
            rcases hv with ⟨-, gzz⟩ | ⟨gzz, -⟩
            · exact c2zz (gzz izz (by omega) kK o x15 z18 hs tx e18zz)
            · exact gzz qzz
          rcases z_if hzz with ⟨c3zz, hzz⟩ | ⟨c3zz, hzz⟩
          · unfold bk_X9_tells_222 at hzz
            exact nxtzz 1 z18.2 hs8 ⟨fun qzz => absurd qzz hbrk, fun _ _ => by rw [if_pos c3zz]⟩ hzz
          · unfold bk_X9_tells_222 at hzz
            refine nxtzz (gL z18.2 40) z18.2 hs8 ⟨fun qzz => absurd qzz hbrk, fun qzz wzz => ?_⟩ hzz
            rw [if_neg c3zz]
            rcases hval qzz wzz with uzz | uzz
            · exact absurd uzz c3zz
            · exact uzz
      · exact nxtzz v7 o hs (keepzz (fun mzz em hk _ => by subst em; exact c1zz (kk.symm.trans hk))) hzz
def LwE (oc : Ob) (Gzz : Nat → Int32) (l : Nat) : Prop := ∃ n K1 K2 : Nat, n ≤ 12 ∧ K1 ≤ 400 ∧ K2 ≤ 400 ∧ (gI oc 7).toInt = (n : Int) ∧ (gI oc 8).toInt = (K1 : Int) ∧ (Gzz (84 + 900 * l + 1)).toInt = (n : Int) ∧ ∀ mzz, mzz < n → ClE false oc (clL Gzz l) (opL Gzz l) (argL Gzz l) mzz K1 K2
def LwP (pl : List CR) (rzz : Option Nat) (Gzz : Nat → Int32) (lw : Int32) : Prop := (lw = -1 ∧ rzz = none) ∨ (∃ (l azz : Nat) (czz : CR), l < 6 ∧ lw.toInt = (l : Int) ∧ rzz = some azz ∧ pfind pl azz = some czz ∧ LwE czz.2.2.2.2.2 Gzz l)
def WtL (isl mv : Ob) (Gzz : Nat → Int32) : Prop := (gI isl 7 = Gzz 0 ∧ 0 ≤ (Gzz 0).toInt ∧ (Gzz 0).toInt ≤ 7) ∧ (∀ jzz, jzz < 28 → gA isl 2 jzz = Gzz (36 + jzz) ∧ 0 ≤ (Gzz (36 + jzz)).toInt ∧ (Gzz (36 + jzz)).toInt ≤ 9) ∧ (∀ jzz, jzz < 7 → gA mv 0 jzz = Gzz (8 + jzz) ∧ 0 ≤ (Gzz (8 + jzz)).toInt ∧ (Gzz (8 + jzz)).toInt ≤ 9) ∧ (∀ jzz, jzz < 7 → gA mv 1 jzz = Gzz (15 + jzz)) ∧ gI mv 3 = Gzz 7 ∧ gI mv 4 = Gzz 4 ∧ gI isl 12 = Gzz 6
set_option maxHeartbeats 200000 in
theorem lawWords {mezz isl mv zzz : Ob} {pzz rzz qzz : Int32} {Pzz R : Nat} (eP : pzz.toInt = (Pzz : Int)) (hP : Pzz < 7) (eR : rzz.toInt = (R : Int)) (hR : R < 4) (hzz : f_X3_setLawWords_O mezz isl mv pzz rzz qzz = some zzz) :
    gA zzz 0 0 = pzz ∧ gA zzz 0 1 = rzz ∧ gA zzz 0 2 = gA isl 2 (4 * Pzz + R) ∧ gA zzz 0 3 = gA mv 0 Pzz ∧ gA zzz 0 4 = gA mv 1 Pzz ∧ gA zzz 0 5 = qzz ∧ gA zzz 0 6 = gI mv 3 ∧ gA zzz 0 7 = gI mv 4 ∧ gA zzz 0 8 = gI isl 12 := by
  have n0zz : (0 : Int32).toNatClampNeg = 0 := by decide
  have n1zz : (1 : Int32).toNatClampNeg = 1 := by decide
  have n2zz : (2 : Int32).toNatClampNeg = 2 := by decide
  have n3zz : (3 : Int32).toNatClampNeg = 3 := by decide
  have n4zz : (4 : Int32).toNatClampNeg = 4 := by decide
  have n5zz : (5 : Int32).toNatClampNeg = 5 := by decide
  have n6zz : (6 : Int32).toNatClampNeg = 6 := by decide
  have n7 : (7 : Int32).toNatClampNeg = 7 := by decide
  have n8 : (8 : Int32).toNatClampNeg = 8 := by decide
  have ip : pzz.toNatClampNeg = Pzz := tnc_eq eP
  have iszz : ((pzz * (4 : Int32)) + rzz).toNatClampNeg = 4 * Pzz + R := tnc_eq (by rw [i32_add (i32_mul eP (by decide : (4 : Int32).toInt = 4) (by omega) (by omega)) eR (by omega) (by omega)]; omega)
  unfold f_X3_setLawWords_O at hzz
  rw [n0zz, n1zz, n2zz, n3zz, n4zz, n5zz, n6zz, n7, n8, ip, iszz] at hzz
  obtain ⟨o1, e1zz, hzz⟩ := z_lt hzz
  obtain ⟨o2, e2zz, hzz⟩ := z_lt hzz
  have hzz := (z_gd hzz).2
  obtain ⟨o4zz, e4zz, hzz⟩ := z_lt hzz
  have hzz := (z_gd hzz).2
  obtain ⟨o6, e6zz, hzz⟩ := z_lt hzz
  have hzz := (z_gd hzz).2
  obtain ⟨o8zz, e8, hzz⟩ := z_lt hzz
  obtain ⟨o9, e9zz, hzz⟩ := z_lt hzz
  obtain ⟨o10, e10zz, hzz⟩ := z_lt hzz
  obtain ⟨o11, e11zz, hzz⟩ := z_lt hzz
  obtain ⟨o12, e12zz, hzz⟩ := z_lt hzz
  have hzz := Option.some.inj hzz
  subst e1zz e2zz e4zz e6zz e8 e9zz e10zz e11zz e12zz hzz
  exact ⟨rfl, rfl, rfl, rfl, rfl, rfl, rfl, rfl, rfl⟩
set_option maxHeartbeats 200000 in
theorem tellWords {o : Ob} {Kzz pzz rzz qzz : Int32} {wo : Int64} {yzz : Int64 × Ob} {Pzz R : Nat} (eP : pzz.toInt = (Pzz : Int)) (hP : Pzz < 7) (eR : rzz.toInt = (R : Int)) (hR : R < 4) (hf : ¬ gA o 3 3 = -1) (hzz : f_X9_tells o Kzz pzz rzz qzz wo = some yzz) :
    ∃ o' : Ob, lp_X9_tells_159 zfu (Kzz, wo, 0, o') = some yzz ∧ gI o' 34 = 84 + 900 * gA o 3 3 ∧ gA o' 3 = gA o 3 ∧ gI o' 20 = gI o 20 ∧ gM o' 35 1 = pzz.toInt64 ∧ gM o' 35 2 = rzz.toInt64 ∧ gM o' 35 3 = (gA o 3 (36 + (4 * Pzz + R))).toInt64 ∧ gM o' 35 4 = (gA o 3 (8 + Pzz)).toInt64 ∧ gM o' 35 5 = (gA o 3 (15 + Pzz)).toInt64 ∧ gM o' 35 6 = qzz.toInt64 ∧ gM o' 35 7 = (gA o 3 7).toInt64 ∧ gM o' 35 8 = (gA o 3 4).toInt64 ∧ gM o' 35 9 = (gA o 3 6).toInt64 := by
  have n1zz : (1 : Int32).toNatClampNeg = 1 := by decide
  have n2zz : (2 : Int32).toNatClampNeg = 2 := by decide
  have n3zz : (3 : Int32).toNatClampNeg = 3 := by decide
  have n4zz : (4 : Int32).toNatClampNeg = 4 := by decide
  have n5zz : (5 : Int32).toNatClampNeg = 5 := by decide
  have n6zz : (6 : Int32).toNatClampNeg = 6 := by decide
  have n7 : (7 : Int32).toNatClampNeg = 7 := by decide
  have n8 : (8 : Int32).toNatClampNeg = 8 := by decide
  have n9 : (9 : Int32).toNatClampNeg = 9 := by decide
  have i8zz : ((8 : Int32) + pzz).toNatClampNeg = 8 + Pzz := tnc_eq (by rw [i32_add (by decide : (8 : Int32).toInt = 8) eP (by omega) (by omega)]; omega)
  have i15 : ((15 : Int32) + pzz).toNatClampNeg = 15 + Pzz := tnc_eq (by rw [i32_add (by decide : (15 : Int32).toInt = 15) eP (by omega) (by omega)]; omega)
  have iszz : (((36 : Int32) + ((4 : Int32) * pzz)) + rzz).toNatClampNeg = 36 + (4 * Pzz + R) := tnc_eq (by rw [i32_add (i32_add (by decide : (36 : Int32).toInt = 36) (i32_mul (by decide : (4 : Int32).toInt = 4) eP (by omega) (by omega)) (by omega) (by omega)) eR (by omega) (by omega)]; omega)
  unfold f_X9_tells at hzz
  rw [n1zz, n2zz, n3zz, n4zz, n5zz, n6zz, n7, n8, n9, i8zz, i15, iszz] at hzz
  have hzz := z_f hzz hf
  obtain ⟨o1, e1zz, hzz⟩ := z_lt hzz
  obtain ⟨o2, e2zz, hzz⟩ := z_lt hzz
  obtain ⟨o3zz, e3zz, hzz⟩ := z_lt hzz
  have hzz := (z_gd hzz).2
  obtain ⟨o5zz, e5zz, hzz⟩ := z_lt hzz
  have hzz := (z_gd hzz).2
  obtain ⟨o7, e7zz, hzz⟩ := z_lt hzz
  have hzz := (z_gd hzz).2
  obtain ⟨o9, e9zz, hzz⟩ := z_lt hzz
  obtain ⟨o10, e10zz, hzz⟩ := z_lt hzz
  obtain ⟨o11, e11zz, hzz⟩ := z_lt hzz
  obtain ⟨o12, e12zz, hzz⟩ := z_lt hzz
  obtain ⟨o13, e13zz, hzz⟩ := z_lt hzz
  refine ⟨o13, hzz, ?_⟩
  subst e1zz e2zz e3zz e5zz e7zz e9zz e10zz e11zz e12zz e13zz
  exact ⟨rfl, rfl, rfl, rfl, rfl, rfl, rfl, rfl, rfl, rfl, rfl, rfl⟩
set_option maxHeartbeats 200000 in
theorem tells_eq {pl : List CR} {rzz : Option Nat} {azz isl mv mezz o : Ob} {Kzz pzz rc qzz : Int32} {wo : Int64} {z1 : Int64 × Ob} {y2 : Int64 × Ob} {Pzz R : Nat} (hL : LwP pl rzz (gA o 3) (gA o 3 3)) (hw : WtL isl mv (gA o 3)) (h20 : gI o 20 = 0) (eP : pzz.toInt = (Pzz : Int)) (hP : (Pzz : Int) < (gI isl 7).toInt) (eR : rc.toInt = (R : Int)) (hR : R < 4)
    (h1 : zop rzz pl ((f_X1_told_N azz Kzz pzz rc qzz).map (fun vzz => (vzz, mezz))) (fun cr => f_X1_told_O cr.2.2.2.1 cr.2.2.2.2.1 azz isl mv mezz cr.2.2.2.2.2 Kzz pzz rc qzz) = some z1) (h2 : f_X9_tells o Kzz pzz rc qzz wo = some y2) :
    (z1.1 = -9000000000000000000 ∧ y2.1 = wo) ∨ (¬ z1.1 = -9000000000000000000 ∧ y2.1 = if Kzz = 3 then 1 else z1.1) := by
  have n3zz : (3 : Int32).toNatClampNeg = 3 := by decide
  have h7 : (gI isl 7).toInt ≤ 7 := by rw [hw.1.1]; exact hw.1.2.2
  rcases z_opX h1 with ⟨ezz, h1⟩ | ⟨bzz, czz, ezz, ec, h1⟩
  · obtain ⟨vzz, evzz, h1⟩ := z_map h1
    unfold f_X1_told_N at evzz
    have evzz := Option.some.inj evzz
    rcases hL with ⟨gzz, -⟩ | ⟨_, _, _, -, -, gzz, -⟩
    · unfold f_X9_tells at h2
      rw [n3zz] at h2
      have h2 := Option.some.inj (z_t h2 gzz)
      exact Or.inl ⟨by rw [← h1, ← evzz], by rw [← h2]⟩
    · rw [ezz] at gzz; cases gzz
  · rcases hL with ⟨-, gzz⟩ | ⟨l, b', c', hl, el, gzz, gczz, n, K1, K2, hn, hK1, hK2, k7zz, k8zz, knzz, hcl⟩
    · rw [ezz] at gzz; cases gzz
    · have eb : bzz = b' := Option.some.inj (ezz.symm.trans gzz)
      subst eb
      have ecc : czz = c' := Option.some.inj (ec.symm.trans gczz)
      subst ecc
      have hf : ¬ gA o 3 3 = -1 := fun qzz => by rw [qzz, (by decide : (-1 : Int32).toInt = -1)] at el; omega
      obtain ⟨o', h2, k34, k3zz, k20, m1zz, m2zz, m3zz, m4zz, m5zz, m6zz, m7zz, m8zz, m9zz⟩ := tellWords eP (by omega) eR hR hf h2
      unfold f_X1_told_O at h1
      obtain ⟨z1', e1', h1⟩ := z_bd h1
      rcases isP2 e1' with ⟨-, uzz⟩ | ⟨uzz, -⟩
      · exact absurd ⟨by omega, by omega⟩ uzz
      have h1 := z_f h1 uzz
      obtain ⟨z2', e2', h1⟩ := z_bd h1
      rcases isR8 e2' with ⟨-, uzz⟩ | ⟨uzz, -⟩
      · exact absurd ⟨by omega, by omega⟩ uzz
      have h1 := z_f h1 uzz
      obtain ⟨z3, e3zz, h1⟩ := z_bd h1
      obtain ⟨x4zz, e4zz, h1⟩ := z_lt h1
      obtain ⟨w0zz, w1zz, w2zz, w3zz, w4zz, w5, w6zz, w7zz, w8⟩ := lawWords eP (by omega) eR hR e3zz
      have hW : ∀ kzz, kzz < 9 → (gA z3 0 kzz).toInt64 = gM o' 35 (kzz + 1) := by
        intro kzz hk
        rcases (by omega : kzz = 0 ∨ kzz = 1 ∨ kzz = 2 ∨ kzz = 3 ∨ kzz = 4 ∨ kzz = 5 ∨ kzz = 6 ∨ kzz = 7 ∨ kzz = 8) with uzz | uzz | uzz | uzz | uzz | uzz | uzz | uzz | uzz <;> subst uzz
        · rw [w0zz]; exact m1zz.symm
        · rw [w1zz]; exact m2zz.symm
        · rw [w2zz, (hw.2.1 (4 * Pzz + R) (by omega)).1]; exact m3zz.symm
        · rw [w3zz, (hw.2.2.1 Pzz (by omega)).1]; exact m4zz.symm
        · rw [w4zz, hw.2.2.2.1 Pzz (by omega)]; exact m5zz.symm
        · rw [w5]; exact m6zz.symm
        · rw [w6zz, hw.2.2.2.2.1]; exact m7zz.symm
        · rw [w7zz, hw.2.2.2.2.2.1]; exact m8zz.symm
        · rw [w8, hw.2.2.2.2.2.2]; exact m9zz.symm
      have hs : RSt (gA o 3) (gM o' 35) l o' := ⟨k20.trans h20, k3zz, by rw [k34]; exact i32_add (by decide : (84 : Int32).toInt = 84) (i32_mul (by decide : (900 : Int32).toInt = 900) el (by omega) (by omega)) (by omega) (by omega), rfl⟩
      have t4zz : x4zz.toInt = (n : Int) - 1 := by rw [e4zz]; exact i32_sub k7zz (by decide : (1 : Int32).toInt = 1) (by omega) (by omega)
      have ce := tol_lp (Wzz := gM o' 35) hl hn k8zz hK1 hK2 hcl hw.1.2 zfu x4zz z3 n t4zz (Nat.le_refl _) hW h1
      exact tel_lp (wo := wo) hl hn knzz hcl ce zfu wo 0 o' 0 (by decide) (Nat.zero_le _) hs ⟨fun _ => rfl, fun _ ⟨mzz, hmzz, _⟩ => absurd hmzz (by omega)⟩ h2
set_option maxHeartbeats 200000 in
theorem i64_32 (xzz : Int32) : xzz.toInt64.toInt32 = xzz := Int32.toInt_inj.mp (by
  have bzz := i32_rg xzz
  rw [Int64.toInt_toInt32, Int32.toInt_toInt64]
  exact Int.bmod_eq_of_le (by omega) (by omega))
set_option maxHeartbeats 200000 in
theorem near_eq {vzz : Int64} {mzz zzz wzz : Int32} {M : Int} (hmzz : mzz.toInt = M) (h0 : 0 ≤ M) (h1 : f_X1_nearest vzz mzz = some zzz) (h2 : f_X9_within vzz 0 mzz = some wzz) : zzz = wzz := by
  have z0 : (0 : Int64).toInt = 0 := by decide
  have zz : ((0 : Int32).toInt64).toInt = 0 := by decide
  have em : (mzz.toInt64).toInt = M := by rw [Int32.toInt_toInt64]; exact hmzz
  have e0zz : (0 : Int64).toInt32 = 0 := by decide
  have emm : (mzz.toInt64).toInt32 = mzz := i64_32 mzz
  unfold f_X1_nearest at h1
  unfold f_X9_within at h2
  have h1 := Option.some.inj h1
  rw [← h1]
  rcases z_if h2 with ⟨czz, h2⟩ | ⟨czz, h2⟩
  · have czz := cvl_ge (a := vzz.toInt) (b := 0) rfl zz czz
    rcases z_if h2 with ⟨d, h2⟩ | ⟨d, h2⟩
    · have d := cvl_le (a := vzz.toInt) (b := M) rfl em d
      have h2 := Option.some.inj h2
      have et : (if mzz.toInt64 < vzz then mzz.toInt64 else vzz) = vzz := if_neg (fun qzz => by have qzz := Int64.lt_iff_toInt_lt.mp qzz; rw [em] at qzz; omega)
      rw [et, if_neg (fun qzz => by have qzz := Int64.lt_iff_toInt_lt.mp qzz; rw [z0] at qzz; omega)]
      exact h2
    · have d := cvl_nle (a := vzz.toInt) (b := M) rfl em d
      have h2 := Option.some.inj h2
      have et : (if mzz.toInt64 < vzz then mzz.toInt64 else vzz) = mzz.toInt64 := if_pos (Int64.lt_iff_toInt_lt.mpr (by rw [em]; omega))
      rw [et, if_neg (fun qzz => by have qzz := Int64.lt_iff_toInt_lt.mp qzz; rw [z0, em] at qzz; omega), emm]
      exact h2
  · have czz := cvl_nge (a := vzz.toInt) (b := 0) rfl zz czz
    have h2 := Option.some.inj h2
    have et : (if mzz.toInt64 < vzz then mzz.toInt64 else vzz) = vzz := if_neg (fun qzz => by have qzz := Int64.lt_iff_toInt_lt.mp qzz; rw [em] at qzz; omega)
    rw [et, if_pos (Int64.lt_iff_toInt_lt.mpr (by rw [z0]; omega)), e0zz]
    exact h2
set_option maxHeartbeats 200000 in
theorem with_id {xzz mzz wzz : Int32} {M : Int} (hmzz : mzz.toInt = M) (hx : 0 ≤ xzz.toInt ∧ xzz.toInt ≤ M) (h2 : f_X9_within xzz.toInt64 0 mzz = some wzz) : wzz = xzz := by
  have zz : ((0 : Int32).toInt64).toInt = 0 := by decide
  have em : (mzz.toInt64).toInt = M := by rw [Int32.toInt_toInt64]; exact hmzz
  have exzz : (xzz.toInt64).toInt = xzz.toInt := Int32.toInt_toInt64 xzz
  unfold f_X9_within at h2
  rcases z_if h2 with ⟨czz, h2⟩ | ⟨czz, h2⟩
  · rcases z_if h2 with ⟨d, h2⟩ | ⟨d, h2⟩
    · have h2 := Option.some.inj h2
      rw [← h2]; exact i64_32 xzz
    · have d := cvl_nle (a := xzz.toInt) (b := M) exzz em d
      omega
  · have czz := cvl_nge (a := xzz.toInt) (b := 0) exzz zz czz
    omega
set_option maxHeartbeats 200000 in
theorem within_rng {vzz : Int64} {mzz wzz : Int32} {M : Int} (hmzz : mzz.toInt = M) (h0 : 0 ≤ M) (h2 : f_X9_within vzz 0 mzz = some wzz) : 0 ≤ wzz.toInt ∧ wzz.toInt ≤ M := by
  have zz : ((0 : Int32).toInt64).toInt = 0 := by decide
  have em : (mzz.toInt64).toInt = M := by rw [Int32.toInt_toInt64]; exact hmzz
  have bmzz := i32_rg mzz
  unfold f_X9_within at h2
  rcases z_if h2 with ⟨czz, h2⟩ | ⟨czz, h2⟩
  · have czz := cvl_ge (a := vzz.toInt) (b := 0) rfl zz czz
    rcases z_if h2 with ⟨d, h2⟩ | ⟨d, h2⟩
    · have d := cvl_le (a := vzz.toInt) (b := M) rfl em d
      have h2 := Option.some.inj h2
      have ezz : vzz.toInt32.toInt = vzz.toInt := by rw [Int64.toInt_toInt32]; exact Int.bmod_eq_of_le (by omega) (by omega)
      rw [← h2, ezz]; omega
    · have h2 := Option.some.inj h2
      rw [← h2]; omega
  · have h2 := Option.some.inj h2
    have w0zz : (0 : Int32).toInt = 0 := by decide
    rw [← h2, w0zz]; omega
def Asked (pl : List CR) (rzz : Option Nat) (isl mv o : Ob) (pzz rc : Int32) : Prop := LwP pl rzz (gA o 3) (gA o 3 3) ∧ WtL isl mv (gA o 3) ∧ gI o 20 = 0 ∧ (∃ Pzz : Nat, pzz.toInt = (Pzz : Int) ∧ (Pzz : Int) < (gI isl 7).toInt) ∧ (∃ R : Nat, rc.toInt = (R : Int) ∧ R < 4)
set_option maxHeartbeats 200000 in
theorem barred_eq {pl : List CR} {rzz : Option Nat} {azz isl mv mezz o : Ob} {pzz rc : Int32} {zzz wzz : Int32 × Ob} (hA : Asked pl rzz isl mv o pzz rc) (h1 : f_X1_isBarred_Q azz isl mv mezz pl rzz pzz rc = some zzz) (h2 : f_X9_isBarred o pzz rc = some wzz) : zzz.1 = wzz.1 := by
  obtain ⟨hL, hw, h20, ⟨Pzz, eP, hP⟩, R, eR, hR⟩ := hA
  unfold f_X1_isBarred_Q at h1
  unfold f_X9_isBarred at h2
  obtain ⟨z1, e1zz, h1⟩ := z_bd h1
  obtain ⟨w1zz, e2zz, h2⟩ := z_bd h2
  rcases tells_eq hL hw h20 eP hP eR hR e1zz e2zz with ⟨u1zz, u2zz⟩ | ⟨u1zz, u2zz⟩
  · have h1 := Option.some.inj (z_t h1 ((lg_cmp_eq _ _).mpr u1zz))
    have h2 := Option.some.inj (z_f h2 (fun qzz => by have qzz := (lg_cmp_eq _ _).mp qzz; rw [u2zz] at qzz; exact absurd qzz (by decide)))
    rw [← h1, ← h2]
  · rw [if_pos rfl] at u2zz
    have h1 := Option.some.inj (z_f h1 (fun qzz => u1zz ((lg_cmp_eq _ _).mp qzz)))
    have h2 := Option.some.inj (z_t h2 ((lg_cmp_eq _ _).mpr u2zz))
    rw [← h1, ← h2]
set_option maxHeartbeats 200000 in
theorem runs_eq {pl : List CR} {rzz : Option Nat} {azz isl mv mezz o : Ob} {pzz rc : Int32} {zzz wzz : Int32 × Ob} (hA : Asked pl rzz isl mv o pzz rc) (h1 : f_X1_runsBy_Q azz isl mv mezz pl rzz pzz rc = some zzz) (h2 : f_X9_runsOf o pzz rc = some wzz) : zzz.1 = wzz.1 := by
  obtain ⟨hL, hw, h20, ⟨Pzz, eP, hP⟩, R, eR, hR⟩ := hA
  have h7 : (gI isl 7).toInt ≤ 7 := by rw [hw.1.1]; exact hw.1.2.2
  have i1zz : ((pzz * (4 : Int32)) + rc).toNatClampNeg = 4 * Pzz + R := tnc_eq (by rw [i32_add (i32_mul eP (by decide : (4 : Int32).toInt = 4) (by omega) (by omega)) eR (by omega) (by omega)]; omega)
  have i2zz : (((36 : Int32) + ((4 : Int32) * pzz)) + rc).toNatClampNeg = 36 + (4 * Pzz + R) := tnc_eq (by rw [i32_add (i32_add (by decide : (36 : Int32).toInt = 36) (i32_mul (by decide : (4 : Int32).toInt = 4) eP (by omega) (by omega)) (by omega) (by omega)) eR (by omega) (by omega)]; omega)
  unfold f_X1_runsBy_Q at h1
  unfold f_X9_runsOf at h2
  rw [i1zz] at h1
  rw [i2zz] at h2
  have h2 := (z_gd h2).2
  obtain ⟨z1, e1zz, h1⟩ := z_bd h1
  obtain ⟨w1zz, e2zz, h2⟩ := z_bd h2
  obtain ⟨w3zz, e3zz, h2⟩ := z_bd h2
  have h2 := Option.some.inj h2
  rw [← h2]
  have hst := hw.2.1 (4 * Pzz + R) (by omega)
  rcases tells_eq hL hw h20 eP hP eR hR e1zz e2zz with ⟨u1zz, u2zz⟩ | ⟨u1zz, u2zz⟩
  · have h1 := Option.some.inj (z_gd (z_t h1 ((lg_cmp_eq _ _).mpr u1zz))).2
    rw [u2zz] at e3zz
    rw [← h1]
    exact hst.1.trans (with_id (M := 99) (by decide) ⟨hst.2.1, by omega⟩ e3zz).symm
  · have h1 := z_f h1 (fun qzz => u1zz ((lg_cmp_eq _ _).mp qzz))
    obtain ⟨xzz, exzz, h1⟩ := z_bd h1
    have h1 := Option.some.inj h1
    rw [if_neg (by decide)] at u2zz
    rw [u2zz] at e3zz
    rw [← h1]
    exact near_eq (M := 99) (by decide) (by decide) exzz e3zz
set_option maxHeartbeats 200000 in
theorem turns_eq {pl : List CR} {rzz : Option Nat} {azz isl mv mezz o : Ob} {pzz rc : Int32} {zzz wzz : Int32 × Ob} (hA : Asked pl rzz isl mv o pzz rc) (h1 : f_X1_turnsTo_Q azz isl mv mezz pl rzz pzz rc = some zzz) (h2 : f_X9_turnsOf o pzz rc = some wzz) : zzz.1 = wzz.1 ∧ 0 ≤ wzz.1.toInt ∧ wzz.1.toInt ≤ 9 := by
  obtain ⟨hL, hw, h20, ⟨Pzz, eP, hP⟩, R, eR, hR⟩ := hA
  have h7 : (gI isl 7).toInt ≤ 7 := by rw [hw.1.1]; exact hw.1.2.2
  have i1zz : pzz.toNatClampNeg = Pzz := tnc_eq eP
  have i2zz : ((8 : Int32) + pzz).toNatClampNeg = 8 + Pzz := tnc_eq (by rw [i32_add (by decide : (8 : Int32).toInt = 8) eP (by omega) (by omega)]; omega)
  unfold f_X1_turnsTo_Q at h1
  unfold f_X9_turnsOf at h2
  rw [i1zz] at h1
  rw [i2zz] at h2
  have h2 := (z_gd h2).2
  obtain ⟨z1, e1zz, h1⟩ := z_bd h1
  obtain ⟨w1zz, e2zz, h2⟩ := z_bd h2
  obtain ⟨w3zz, e3zz, h2⟩ := z_bd h2
  have h2 := Option.some.inj h2
  rw [← h2]
  have htr := hw.2.2.1 Pzz (by omega)
  have rg : 0 ≤ w3zz.toInt ∧ w3zz.toInt ≤ 9 := by
    exact within_rng (M := 9) (by decide) (by decide) e3zz
  refine ⟨?_, rg⟩
  rcases tells_eq hL hw h20 eP hP eR hR e1zz e2zz with ⟨u1zz, u2zz⟩ | ⟨u1zz, u2zz⟩
  · have h1 := Option.some.inj (z_gd (z_t h1 ((lg_cmp_eq _ _).mpr u1zz))).2
    rw [u2zz] at e3zz
    rw [← h1]
    have s1zz : (gA o 3 (8 + Pzz) + (1 : Int32)).toInt = (gA o 3 (8 + Pzz)).toInt + 1 := i32_add rfl (by decide) (by omega) (by omega)
    have rr := i32_rem (x := gA o 3 (8 + Pzz) + (1 : Int32)) (y := 10) (m := 10) (by decide) (by decide) (by rw [s1zz]; omega)
    have wi := with_id (M := 9) (by decide) ⟨rr.1, by have := rr.2; omega⟩ e3zz
    show gA mv 0 Pzz + (1 : Int32) - (gA mv 0 Pzz + (1 : Int32)) / (10 : Int32) * (10 : Int32) = w3zz
    rw [htr.1]
    exact wi.symm
  · have h1 := z_f h1 (fun qzz => u1zz ((lg_cmp_eq _ _).mp qzz))
    obtain ⟨xzz, exzz, h1⟩ := z_bd h1
    have h1 := Option.some.inj h1
    rw [if_neg (by decide)] at u2zz
    rw [u2zz] at e3zz
    rw [← h1]
    exact near_eq (M := 9) (by decide) (by decide) exzz e3zz
set_option maxHeartbeats 200000 in
theorem wins_eq {pl : List CR} {rzz : Option Nat} {azz isl mv mezz o : Ob} {pzz rc qzz : Int32} {zzz wzz : Int32 × Ob} (hA : Asked pl rzz isl mv o pzz rc) (hq : qzz = 1 ∨ qzz = 2 ∨ qzz = 3) (h1 : f_X1_wins_Q azz isl mv mezz pl rzz pzz rc qzz = some zzz) (h2 : f_X9_winsOf o pzz rc qzz = some wzz) : zzz.1 = wzz.1 ∧ 0 ≤ wzz.1.toInt ∧ wzz.1.toInt ≤ 9 := by
  obtain ⟨hL, hw, h20, ⟨Pzz, eP, hP⟩, R, eR, hR⟩ := hA
  unfold f_X1_wins_Q at h1
  unfold f_X9_winsOf at h2
  obtain ⟨z1, e1zz, h1⟩ := z_bd h1
  obtain ⟨w1zz, e2zz, h2⟩ := z_bd h2
  obtain ⟨w3zz, e3zz, h2⟩ := z_bd h2
  have h2 := Option.some.inj h2
  rw [← h2]
  have rg : 0 ≤ w3zz.toInt ∧ w3zz.toInt ≤ 9 := by
    exact within_rng (M := 9) (by decide) (by decide) e3zz
  refine ⟨?_, rg⟩
  rcases tells_eq hL hw h20 eP hP eR hR e1zz e2zz with ⟨u1zz, u2zz⟩ | ⟨u1zz, u2zz⟩
  · have h1 := Option.some.inj (z_t h1 ((lg_cmp_eq _ _).mpr u1zz))
    rw [u2zz] at e3zz
    rw [← h1]
    have e3' : f_X9_within ((4 : Int32) - qzz).toInt64 0 9 = some w3zz := by
      rcases hq with uzz | uzz | uzz <;> subst uzz <;> exact e3zz
    refine (with_id (M := 9) (by decide) ?_ e3').symm
    rcases hq with uzz | uzz | uzz <;> subst uzz <;> decide
  · have h1 := z_f h1 (fun qzz => u1zz ((lg_cmp_eq _ _).mp qzz))
    obtain ⟨xzz, exzz, h1⟩ := z_bd h1
    have h1 := Option.some.inj h1
    rw [if_neg (by decide)] at u2zz
    rw [u2zz] at e3zz
    rw [← h1]
    exact near_eq (M := 9) (by decide) (by decide) exzz e3zz
def EnT (mv : Ob) (Gzz : Nat → Int32) : Prop := ∀ pzz : Int32, 0 ≤ pzz.toInt → pzz.toInt < 7 → Gzz (22 + pzz.toNatClampNeg) = ((gI mv 2) >>> (pzz &&& 31)) &&& (1 : Int32)
def LUe (czz o : Ob) (n : Nat) (jzz : Nat) : Prop := gA czz 2 jzz = gA o 42 jzz ∧ 0 ≤ (gA czz 2 jzz).toInt ∧ (gA czz 2 jzz).toInt < (n : Int) ∧ gA czz 3 (gA czz 2 jzz).toNatClampNeg = gA o 41 (gA czz 2 jzz).toNatClampNeg
def LUt (czz o : Ob) (n kzz : Nat) : Prop := gI czz 4 = gI o 43 ∧ (gI czz 4).toInt = (kzz : Int) ∧ ∀ jzz, jzz < kzz → LUe czz o n jzz
set_option maxHeartbeats 200000 in
theorem LUe.of {czz o c' o' : Ob} {n jzz : Nat} (hzz : LUe czz o n jzz) (e2zz : gA c' 2 jzz = gA czz 2 jzz) (e2' : gA o' 42 jzz = gA o 42 jzz) (e3zz : gA c' 3 (gA czz 2 jzz).toNatClampNeg = gA o' 41 (gA czz 2 jzz).toNatClampNeg) : LUe c' o' n jzz := by
  unfold LUe
  rw [e2zz, e2']
  exact ⟨hzz.1, hzz.2.1, hzz.2.2.1, e3zz⟩
set_option maxHeartbeats 200000 in
theorem lin61 {isl mv : Ob} {pl : List CR} {rzz : Option Nat} {rc pzz : Int32} {Pzz n kzz : Nat} {rec7 : Option Nat × Int32 × Int32 × Ob × Ob → Option (Int32 × Ob × Ob)} {rec9 : Int32 × Int32 × Ob → Option Ob} {yzz : Int32 × Ob × Ob} {y' : Ob} {Qzz : Prop} {Gzz : Nat → Int32} (eP : pzz.toInt = (Pzz : Int)) (hP : Pzz < n) (hn7 : n ≤ 7) (hk : kzz < 7)
    (hrec : ∀ (xzz : Int32) (c' me' o' : Ob), xzz = pzz + 1 → LUt c' o' n (kzz + 1) → gA o' 3 = Gzz → gI o' 20 = 0 → rec7 (rzz, rc, xzz, c', me') = some yzz → rec9 (rc, xzz, o') = some y' → Qzz) :
    ∀ (Nzz N' : Nat) (vzz : Int32) (czz mezz o : Ob) (azz : Nat), vzz.toInt = (azz : Int) → azz ≤ kzz → gI czz 4 = gI o 43 → (gI czz 4).toInt = (kzz : Int) → (∀ jzz, jzz < kzz → LUe czz o n jzz) → (∀ jzz, azz < jzz → jzz ≤ kzz → LUe czz o n jzz) → gA czz 3 Pzz = gA o 41 Pzz → gA o 3 = Gzz → gI o 20 = 0 →
      lp_X1_lineUp_Q_61 isl mv pl rec7 Nzz (rzz, rc, pzz, vzz, czz, mezz) = some yzz → lp_X9_layPlaces_56 rec9 N' (rc, pzz, vzz, o) = some y' → Qzz := by
  intro Nzz
  induction Nzz with
  | zero => intro N' vzz czz mezz o azz _ _ _ _ _ _ _ _ _ h1; cases h1
  | succ Nzz ihzz =>
    intro N' vzz czz mezz o azz evzz hazz e4zz ek hlt hup hp hG h20 h1 h2
    cases N' with
    | zero => cases h2
    | succ N' =>
    have h1 : lb_X1_lineUp_Q_61 isl mv pl rec7 (lp_X1_lineUp_Q_61 isl mv pl rec7 Nzz) rzz rc pzz vzz czz mezz = some yzz := h1
    have h2 : lb_X9_layPlaces_56 rec9 (lp_X9_layPlaces_56 rec9 N') rc pzz vzz o = some y' := h2
    have iP : pzz.toNatClampNeg = Pzz := tnc_eq eP
    have ivzz : vzz.toNatClampNeg = azz := tnc_eq evzz
    have finzz : bk_X1_lineUp_Q_111 isl mv pl rec7 rzz rc pzz vzz czz mezz = some yzz → bk_X9_layPlaces_102 rec9 rc pzz vzz o = some y' → Qzz := by
      intro h1 h2
      unfold bk_X1_lineUp_Q_111 at h1
      unfold bk_X9_layPlaces_102 at h2
      rw [ivzz] at h1 h2
      have h1 := (z_gd h1).2
      have h2 := (z_gd h2).2
      obtain ⟨c1zz, f1zz, h1⟩ := z_lt h1
      obtain ⟨c2zz, f2zz, h1⟩ := z_lt h1
      obtain ⟨o1, g1, h2⟩ := z_lt h2
      obtain ⟨o2, g2, h2⟩ := z_lt h2
      unfold bk_X1_lineUp_Q_129 at h1
      unfold bk_X9_layPlaces_119 at h2
      obtain ⟨x1zz, q1zz, h1⟩ := z_lt h1
      obtain ⟨x2zz, q2zz, h2⟩ := z_lt h2
      have qx : x2zz = x1zz := q2zz.trans q1zz.symm
      rw [qx] at h2
      have A2 : ∀ jzz, gA c2zz 2 jzz = if jzz = azz then pzz else gA czz 2 jzz := fun jzz => by rw [f2zz, f1zz]; rfl
      have A3 : gA c2zz 3 = gA czz 3 := by rw [f2zz, f1zz]; rfl
      have A4 : gI c2zz 4 = gI czz 4 + 1 := by rw [f2zz, f1zz]; rfl
      have B2 : ∀ jzz, gA o2 42 jzz = if jzz = azz then pzz else gA o 42 jzz := fun jzz => by rw [g2, g1]; rfl
      have B3 : gA o2 41 = gA o 41 := by rw [g2, g1]; rfl
      have B4 : gI o2 43 = gI o 43 + 1 := by rw [g2, g1]; rfl
      refine hrec x1zz c2zz mezz o2 q1zz ⟨by rw [A4, B4, e4zz], ?_, fun jzz hj => ?_⟩ (by rw [g2, g1]; exact hG) (by rw [g2, g1]; exact h20) h1 h2
      · rw [A4]
        exact Eq.trans (i32_add ek (by decide : (1 : Int32).toInt = 1) (by omega) (by omega)) (by omega)
      · by_cases qa : jzz = azz
        · unfold LUe
          rw [A2, B2, if_pos qa, if_pos qa, A3, B3, iP]
          exact ⟨rfl, by omega, by omega, hp⟩
        · have hj' : LUe czz o n jzz := by
            by_cases qk : jzz < kzz
            · exact hlt jzz qk
            · exact hup jzz (by omega) (by omega)
          exact hj'.of (by rw [A2, if_neg qa]) (by rw [B2, if_neg qa]) (by rw [A3, B3]; exact hj'.2.2.2)
    unfold lb_X1_lineUp_Q_61 at h1
    unfold lb_X9_layPlaces_56 at h2
    by_cases c0zz : vzz ≤ 0
    · exact finzz (z_t h1 c0zz) (z_t h2 c0zz)
    · have h1 := z_f h1 c0zz
      have h2 := z_f h2 c0zz
      have c0zz := cv_nle (a := (azz : Int)) (b := 0) evzz (by decide) c0zz
      obtain ⟨bzz, eb⟩ : ∃ bzz, azz = bzz + 1 := ⟨azz - 1, by omega⟩
      subst eb
      have tbzz : (vzz - (1 : Int32)).toInt = (bzz : Int) := Eq.trans (i32_sub evzz (by decide : (1 : Int32).toInt = 1) (by omega) (by omega)) (by omega)
      have ib : (vzz - (1 : Int32)).toNatClampNeg = bzz := tnc_eq tbzz
      rw [ib, iP, ivzz] at h1 h2
      have h1 := (z_gd (z_gd (z_gd h1).2).2).2
      have h2 := (z_gd (z_gd (z_gd h2).2).2).2
      have hbzz := hlt bzz (by omega)
      rw [← hbzz.1, ← hbzz.2.2.2, ← hp] at h2
      by_cases c1zz : gA czz 3 Pzz ≤ gA czz 3 (gA czz 2 bzz).toNatClampNeg
      · exact finzz (z_t h1 c1zz) (z_t h2 c1zz)
      · have h1 := (z_gd (z_gd (z_f h1 c1zz)).2).2
        have h2 := (z_gd (z_gd (z_f h2 c1zz)).2).2
        obtain ⟨c1', f1zz, h1⟩ := z_lt h1
        obtain ⟨x1zz, q1zz, h1⟩ := z_lt h1
        obtain ⟨o1, g1, h2⟩ := z_lt h2
        obtain ⟨x2zz, q2zz, h2⟩ := z_lt h2
        have qx : x2zz = x1zz := q2zz.trans q1zz.symm
        rw [qx] at h2
        have A2 : ∀ jzz, gA c1' 2 jzz = if jzz = bzz + 1 then gA czz 2 bzz else gA czz 2 jzz := fun jzz => by rw [f1zz]; rfl
        have A3 : gA c1' 3 = gA czz 3 := by rw [f1zz]; rfl
        have B2 : ∀ jzz, gA o1 42 jzz = if jzz = bzz + 1 then gA czz 2 bzz else gA o 42 jzz := fun jzz => by rw [g1]; rfl
        have B3 : gA o1 41 = gA o 41 := by rw [g1]; rfl
        have step : ∀ jzz, (jzz = bzz + 1 ∨ LUe czz o n jzz) → LUe c1' o1 n jzz := by
          intro jzz hj
          by_cases qa : jzz = bzz + 1
          · unfold LUe
            rw [A2, B2, if_pos qa, if_pos qa, A3, B3]
            exact ⟨rfl, hbzz.2.1, hbzz.2.2.1, hbzz.2.2.2⟩
          · rcases hj with hj | hj
            · exact absurd hj qa
            · exact hj.of (by rw [A2, if_neg qa]) (by rw [B2, if_neg qa]) (by rw [A3, B3]; exact hj.2.2.2)
        refine ihzz N' x1zz c1' mezz o1 bzz ?_ (by omega) (by rw [f1zz, g1]; exact e4zz) (by rw [f1zz]; exact ek) (fun jzz hj => step jzz (Or.inr (hlt jzz hj))) (fun jzz h1 h2 => step jzz ?_) (by rw [A3, B3]; exact hp) (by rw [g1]; exact hG) (by rw [g1]; exact h20) h1 h2
        · rw [q1zz]
          exact Eq.trans (i32_add evzz (by decide : (-1 : Int32).toInt = -1) (by omega) (by omega)) (by omega)
        · by_cases qa : jzz = bzz + 1
          · exact Or.inl qa
          · exact Or.inr (hup jzz (by omega) h2)
set_option maxHeartbeats 200000 in
theorem lin7 {isl mv : Ob} {pl : List CR} {rzz : Option Nat} {rc : Int32} {Gzz : Nat → Int32} {n R : Nat} {yzz : Int32 × Ob × Ob} {y' : Ob} (hL : LwP pl rzz Gzz (Gzz 3)) (hw : WtL isl mv Gzz) (hE : EnT mv Gzz) (en : (Gzz 0).toInt = (n : Int)) (eR : rc.toInt = (R : Int)) (hR : R < 4) :
    ∀ (Nzz N' : Nat) (vzz : Int32) (czz mezz o : Ob) (izz kzz : Nat), vzz.toInt = (izz : Int) → izz ≤ n → kzz ≤ izz → gA o 3 = Gzz → gI o 20 = 0 → LUt czz o n kzz → lp_X1_lineUp_Q_7 isl mv pl Nzz (rzz, rc, vzz, czz, mezz) = some yzz → lp_X9_layPlaces_7 N' (rc, vzz, o) = some y' → ∃ k', k' ≤ n ∧ LUt yzz.2.1 y' n k' ∧ yzz.1 = gI yzz.2.1 4 := by
  have hn7 : n ≤ 7 := by have := hw.1.2.2; omega
  intro Nzz
  induction Nzz with
  | zero => intro N' vzz czz mezz o izz kzz _ _ _ _ _ _ h1; cases h1
  | succ Nzz ihzz =>
    intro N' vzz czz mezz o izz kzz evzz hizz hki hG h20 hTzz h1 h2
    cases N' with
    | zero => cases h2
    | succ N' =>
    have h1 : lb_X1_lineUp_Q_7 isl mv pl (lp_X1_lineUp_Q_7 isl mv pl Nzz) rzz rc vzz czz mezz = some yzz := h1
    have h2 : lb_X9_layPlaces_7 (lp_X9_layPlaces_7 N') rc vzz o = some y' := h2
    unfold lb_X1_lineUp_Q_7 at h1
    unfold lb_X9_layPlaces_7 at h2
    have n0zz : (0 : Int32).toNatClampNeg = 0 := by decide
    rw [n0zz, hG, ← hw.1.1] at h2
    by_cases c0zz : gI isl 7 ≤ vzz
    · have h1 := Option.some.inj (z_t h1 c0zz)
      have h2 := Option.some.inj (z_t h2 c0zz)
      rw [← h1, ← h2]
      exact ⟨kzz, by omega, hTzz, rfl⟩
    · have h1 := z_f h1 c0zz
      have h2 := z_f h2 c0zz
      have c0zz := cv_nle (a := (n : Int)) (b := (izz : Int)) (by rw [hw.1.1]; exact en) evzz c0zz
      have i22 : ((22 : Int32) + vzz).toNatClampNeg = 22 + izz := tnc_eq (by rw [i32_add (by decide : (22 : Int32).toInt = 22) evzz (by omega) (by omega)]; omega)
      have ivzz : vzz.toNatClampNeg = izz := tnc_eq evzz
      have h2 := (z_gd h2).2
      have hen := hE vzz (by omega) (by omega)
      rw [ivzz] at hen
      rw [i22, hen] at h2
      obtain ⟨z2, e2zz, h1⟩ := z_bd h1
      unfold f_X4_isIn at e2zz
      have nxtzz : ∀ (c' me' o' : Ob), gA o' 3 = Gzz → gI o' 20 = 0 → LUt c' o' n kzz → bk_X1_lineUp_Q_129 isl mv pl (lp_X1_lineUp_Q_7 isl mv pl Nzz) rzz rc vzz c' me' = some yzz → bk_X9_layPlaces_119 (lp_X9_layPlaces_7 N') rc vzz o' = some y' → ∃ k', k' ≤ n ∧ LUt yzz.2.1 y' n k' ∧ yzz.1 = gI yzz.2.1 4 := by
        intro c' me' o' hG' h20' hT' h1 h2
        unfold bk_X1_lineUp_Q_129 at h1
        unfold bk_X9_layPlaces_119 at h2
        obtain ⟨x1zz, q1zz, h1⟩ := z_lt h1
        obtain ⟨x2zz, q2zz, h2⟩ := z_lt h2
        have qx : x2zz = x1zz := q2zz.trans q1zz.symm
        rw [qx] at h2
        exact ihzz N' x1zz c' me' o' (izz + 1) kzz (by rw [q1zz]; exact Eq.trans (i32_add evzz (by decide : (1 : Int32).toInt = 1) (by omega) (by omega)) (by omega)) (by omega) (by omega) hG' h20' hT' h1 h2
      by_cases c1zz : ((gI mv 2) >>> (vzz &&& 31)) &&& (1 : Int32) = 1
      · have e2zz := Option.some.inj (z_t e2zz c1zz)
        have h1 := z_f h1 (by rw [← e2zz]; decide)
        have h2 := z_t h2 c1zz
        obtain ⟨z4, e4zz, h1⟩ := z_bd h1
        obtain ⟨w4zz, e4', h2⟩ := z_bd h2
        have hA : ∀ o' : Ob, gA o' 3 = Gzz → gI o' 20 = 0 → Asked pl rzz isl mv o' vzz rc := fun o' g1 g2 => ⟨by rw [g1]; exact hL, by rw [g1]; exact hw, g2, ⟨izz, evzz, by rw [hw.1.1]; omega⟩, R, eR, hR⟩
        have eb := barred_eq (hA o hG h20) e4zz e4'
        have f4zz := fr_f_X9_isBarred e4'
        have hG4 : gA w4zz.2 3 = Gzz := (f4zz.A 3 rfl).trans hG
        have h24 : gI w4zz.2 20 = 0 := (f4zz.I 20 rfl).trans h20
        have hT4 : LUt czz w4zz.2 n kzz := by
          refine ⟨hTzz.1.trans (f4zz.I 43 rfl).symm, hTzz.2.1, fun jzz hj => ?_⟩
          have hj := hTzz.2.2 jzz hj
          exact hj.of rfl (by rw [f4zz.A 42 rfl]) (by rw [f4zz.A 41 rfl]; exact hj.2.2.2)
        rw [eb] at h1
        by_cases c2zz : w4zz.1 = 0
        · have h1 := z_t h1 c2zz
          have h2 := z_t h2 c2zz
          obtain ⟨z5, e5zz, h1⟩ := z_bd h1
          obtain ⟨w5, e5', h2⟩ := z_bd h2
          have er := runs_eq (hA w4zz.2 hG4 h24) e5zz e5'
          have f5zz := fr_f_X9_runsOf e5'
          have h1 := (z_gd h1).2
          have h2 := (z_gd h2).2
          rw [ivzz] at h1 h2
          obtain ⟨c7zz, g7, h1⟩ := z_lt h1
          obtain ⟨x8, g8, h1⟩ := z_lt h1
          obtain ⟨o7, k7zz, h2⟩ := z_lt h2
          obtain ⟨x9, k9, h2⟩ := z_lt h2
          have A4 : gI c7zz 4 = gI czz 4 := by rw [g7]; rfl
          have B4 : gI o7 43 = gI w4zz.2 43 := by rw [k7zz]; exact f5zz.I 43 rfl
          have A2 : gA c7zz 2 = gA czz 2 := by rw [g7]; rfl
          have B2 : gA o7 42 = gA w4zz.2 42 := by rw [k7zz]; exact f5zz.A 42 rfl
          have A3 : ∀ jzz, gA c7zz 3 jzz = if jzz = izz then w5.1 else gA czz 3 jzz := fun jzz => by rw [g7, er]; rfl
          have B3 : ∀ jzz, gA o7 41 jzz = if jzz = izz then w5.1 else gA w4zz.2 41 jzz := fun jzz => by
            rw [k7zz]
            show (if jzz = izz then w5.1 else gA w5.2 41 jzz) = _
            rw [f5zz.A 41 rfl]
          have E7 : ∀ jzz, jzz < kzz → LUe c7zz o7 n jzz := by
            intro jzz hj
            have hj := hT4.2.2 jzz hj
            refine hj.of (by rw [A2]) (by rw [B2]) ?_
            rw [A3, B3]
            by_cases qi : (gA czz 2 jzz).toNatClampNeg = izz
            · rw [if_pos qi, if_pos qi]
            · rw [if_neg qi, if_neg qi]; exact hj.2.2.2
          have x98 : x9 = x8 := by rw [k9, g8, A4, B4]; exact hT4.1.symm
          rw [x98] at h2
          have t8 : x8.toInt = (kzz : Int) := by rw [g8, A4]; exact hT4.2.1
          refine lin61 (Gzz := Gzz) (kzz := kzz) evzz (by omega) hn7 (by omega) (fun xzz c' me' o' exzz hT' hG' h20' h1 h2 => ?_) zfu zfu x8 c7zz z5.2 o7 kzz t8 (Nat.le_refl _) (by rw [A4, B4]; exact hT4.1) (by rw [A4]; exact hT4.2.1) E7 (fun jzz h1 h2 => absurd h1 (by omega)) (by rw [A3, B3, if_pos rfl, if_pos rfl]) (by rw [k7zz]; exact (f5zz.A 3 rfl).trans hG4) (by rw [k7zz]; exact (f5zz.I 20 rfl).trans h24) h1 h2
          exact ihzz N' xzz c' me' o' (izz + 1) (kzz + 1) (by rw [exzz]; exact Eq.trans (i32_add evzz (by decide : (1 : Int32).toInt = 1) (by omega) (by omega)) (by omega)) (by omega) (by omega) hG' h20' hT' h1 h2
        · exact nxtzz czz z4.2 w4zz.2 hG4 h24 hT4 (z_f h1 c2zz) (z_f h2 c2zz)
      · have e2zz := Option.some.inj (z_f e2zz c1zz)
        exact nxtzz czz mezz o hG h20 hTzz (z_t h1 e2zz.symm) (z_f h2 c1zz)
set_option maxHeartbeats 200000 in
theorem line_eq {isl mv : Ob} {pl : List CR} {rzz : Option Nat} {czz mezz o : Ob} {rc : Int32} {n R : Nat} {yzz : Int32 × Ob × Ob} {y' : Ob} (hL : LwP pl rzz (gA o 3) (gA o 3 3)) (hw : WtL isl mv (gA o 3)) (hE : EnT mv (gA o 3)) (h20 : gI o 20 = 0) (en : (gA o 3 0).toInt = (n : Int)) (eR : rc.toInt = (R : Int)) (hR : R < 4) (h1 : f_X1_lineUp_Q czz isl mv mezz pl rzz rc = some yzz) (h2 : f_X9_layPlaces o rc = some y') : ∃ kzz, kzz ≤ n ∧ LUt yzz.2.1 y' n kzz ∧ yzz.1 = gI yzz.2.1 4 := by
  unfold f_X1_lineUp_Q at h1
  unfold f_X9_layPlaces at h2
  obtain ⟨c1zz, f1zz, h1⟩ := z_lt h1
  obtain ⟨o1, g1, h2⟩ := z_lt h2
  exact lin7 hL hw hE en eR hR zfu zfu 0 c1zz mezz o1 0 0 (by decide) (Nat.zero_le _) (Nat.le_refl _) (by rw [g1]; rfl) (by rw [g1]; exact h20) ⟨by rw [f1zz, g1]; rfl, by rw [f1zz]; exact (by decide : (0 : Int32).toInt = ((0 : Nat) : Int)), fun jzz hj => absurd hj (by omega)⟩ h1 h2
set_option maxHeartbeats 200000 in
theorem i32_of {xzz : Int32} {ezz : Nat} (hzz : xzz.toInt = (ezz : Int)) (he : ezz < 2147483648) : xzz = Int32.ofNat ezz := Int32.toInt_inj.mp (by rw [Int32.toInt_ofNat_of_lt (by omega)]; exact hzz)
set_option maxHeartbeats 200000 in
theorem en_clear : ∀ ezz, ezz < 128 → ∀ xzz, xzz < 7 → (∀ pzz, pzz < 7 → ((((Int32.ofNat ezz) &&& (((1 : Int32) <<< ((Int32.ofNat xzz) &&& 31)) ^^^ (-1 : Int32))) >>> ((Int32.ofNat pzz) &&& 31)) &&& (1 : Int32)) = if pzz = xzz then 0 else (((Int32.ofNat ezz) >>> ((Int32.ofNat pzz) &&& 31)) &&& (1 : Int32))) ∧ 0 ≤ ((Int32.ofNat ezz) &&& (((1 : Int32) <<< ((Int32.ofNat xzz) &&& 31)) ^^^ (-1 : Int32))).toInt ∧ ((Int32.ofNat ezz) &&& (((1 : Int32) <<< ((Int32.ofNat xzz) &&& 31)) ^^^ (-1 : Int32))).toInt < 128 := by decide +kernel
set_option maxHeartbeats 200000 in
theorem en_turn : ∀ ezz, ezz < 128 → ∀ xzz, xzz < 7 → (∀ pzz, pzz < 7 → ((((Int32.ofNat ezz) ^^^ ((1 : Int32) <<< ((Int32.ofNat xzz) &&& 31))) >>> ((Int32.ofNat pzz) &&& 31)) &&& (1 : Int32)) = if pzz = xzz then (1 : Int32) - (((Int32.ofNat ezz) >>> ((Int32.ofNat pzz) &&& 31)) &&& (1 : Int32)) else (((Int32.ofNat ezz) >>> ((Int32.ofNat pzz) &&& 31)) &&& (1 : Int32))) ∧ 0 ≤ ((Int32.ofNat ezz) ^^^ ((1 : Int32) <<< ((Int32.ofNat xzz) &&& 31))).toInt ∧ ((Int32.ofNat ezz) ^^^ ((1 : Int32) <<< ((Int32.ofNat xzz) &&& 31))).toInt < 128 := by decide +kernel
def TzM (mv : Ob) (Gzz : Nat → Int32) : Prop := (∀ jzz, jzz < 7 → gA mv 0 jzz = Gzz (8 + jzz) ∧ 0 ≤ (Gzz (8 + jzz)).toInt ∧ (Gzz (8 + jzz)).toInt ≤ 9) ∧ (∀ jzz, jzz < 7 → gA mv 1 jzz = Gzz (15 + jzz) ∧ 0 ≤ (Gzz (15 + jzz)).toInt ∧ (Gzz (15 + jzz)).toInt ≤ 999) ∧ (gI mv 3 = Gzz 7 ∧ 0 ≤ (Gzz 7).toInt ∧ (Gzz 7).toInt ≤ 999) ∧ (gI mv 4 = Gzz 4 ∧ 0 ≤ (Gzz 4).toInt ∧ (Gzz 4).toInt ≤ 999) ∧ EnT mv Gzz ∧ 0 ≤ (gI mv 2).toInt ∧ (gI mv 2).toInt < 128
set_option maxHeartbeats 200000 in
theorem updA {Gzz : Nat → Int32} {azz jzz : Nat} {vzz : Int32} : upd Gzz azz vzz jzz = if jzz = azz then vzz else Gzz jzz := rfl
set_option maxHeartbeats 200000 in
theorem upd_cm {Gzz : Nat → Int32} {azz bzz : Nat} {vzz wzz : Int32} (hzz : azz ≠ bzz) : upd (upd Gzz azz vzz) bzz wzz = upd (upd Gzz bzz wzz) azz vzz := by
  funext jzz
  rw [updA, updA, updA, updA]
  by_cases czz : jzz = bzz
  · rw [if_pos czz, if_neg (by omega), if_pos czz]
  · rw [if_neg czz, if_neg czz]
def RwC (n : Nat) (Gzz G' : Nat → Int32) : Prop := ∀ jzz, (jzz < 4 ∨ jzz = 5 ∨ jzz = 6 ∨ 29 ≤ jzz ∨ (15 + n ≤ jzz ∧ jzz < 22) ∨ (22 + n ≤ jzz ∧ jzz < 29)) → G' jzz = Gzz jzz
set_option maxHeartbeats 200000 in
theorem RwC.rf {n : Nat} {Gzz : Nat → Int32} : RwC n Gzz Gzz := fun _ _ => rfl
set_option maxHeartbeats 200000 in
theorem RwC.tr {n : Nat} {Gzz G' G'' : Nat → Int32} (hzz : RwC n Gzz G') (kzz : RwC n G' G'') : RwC n Gzz G'' := fun jzz hj => (kzz jzz hj).trans (hzz jzz hj)
set_option maxHeartbeats 200000 in
theorem RwC.up {n azz : Nat} {Gzz : Nat → Int32} {vzz : Int32} (hzz : ¬ (azz < 4 ∨ azz = 5 ∨ azz = 6 ∨ 29 ≤ azz ∨ (15 + n ≤ azz ∧ azz < 22) ∨ (22 + n ≤ azz ∧ azz < 29))) : RwC n Gzz (upd Gzz azz vzz) := by
  intro jzz hj
  rw [updA, if_neg (fun qzz => by rw [qzz] at hj; exact hzz hj)]
set_option maxHeartbeats 200000 in
theorem sum999 {azz bzz zzz wzz : Int32} (hazz : 0 ≤ azz.toInt ∧ azz.toInt ≤ 999) (hbzz : 0 ≤ bzz.toInt ∧ bzz.toInt ≤ 999) (hz : zzz = if (azz + bzz) < (999 : Int32) then (azz + bzz) else (999 : Int32)) (hw : f_X9_within (azz + bzz).toInt64 0 999 = some wzz) : zzz = wzz ∧ 0 ≤ wzz.toInt ∧ wzz.toInt ≤ 999 := by
  have s : (azz + bzz).toInt = azz.toInt + bzz.toInt := i32_add rfl rfl (by omega) (by omega)
  have rg := within_rng (M := 999) (by decide) (by decide) hw
  refine ⟨?_, rg⟩
  have z9 : (999 : Int32).toInt = 999 := by decide
  rw [hz]
  by_cases czz : azz + bzz < (999 : Int32)
  · rw [if_pos czz]
    have czz := cv_lt (a := azz.toInt + bzz.toInt) (b := 999) s z9 czz
    exact (with_id (M := 999) (by decide) ⟨by omega, by omega⟩ hw).symm
  · rw [if_neg czz]
    have czz := cv_nlt (a := azz.toInt + bzz.toInt) (b := 999) s z9 czz
    unfold f_X9_within at hw
    have e1zz : ((azz + bzz).toInt64).toInt = azz.toInt + bzz.toInt := by rw [Int32.toInt_toInt64]; exact s
    have e0zz : ((0 : Int32).toInt64).toInt = 0 := by decide
    have e9zz : ((999 : Int32).toInt64).toInt = 999 := by decide
    rcases z_if hw with ⟨d, hw⟩ | ⟨d, hw⟩
    · rcases z_if hw with ⟨d2zz, hw⟩ | ⟨d2zz, hw⟩
      · have d2zz := cvl_le (a := azz.toInt + bzz.toInt) (b := 999) e1zz e9zz d2zz
        have hw := Option.some.inj hw
        rw [← hw, i64_32]
        exact Int32.toInt_inj.mp (by rw [z9, s]; omega)
      · exact Option.some.inj hw
    · have d := cvl_nge (a := azz.toInt + bzz.toInt) (b := 0) e1zz e0zz d
      omega
set_option maxHeartbeats 200000 in
theorem EnT.of {mv mv' : Ob} {Gzz G' : Nat → Int32} (hzz : EnT mv Gzz) (ezz : gI mv' 2 = gI mv 2) (eg : ∀ jzz, 22 ≤ jzz → jzz < 29 → G' jzz = Gzz jzz) : EnT mv' G' := by
  intro pzz h0 h1
  have bzz : pzz.toNatClampNeg < 7 := by have : pzz.toNatClampNeg = pzz.toInt.toNat := rfl; omega
  rw [ezz, eg _ (by omega) (by omega)]
  exact hzz pzz h0 h1
set_option maxHeartbeats 200000 in
theorem TzM.trade {mv : Ob} {Gzz : Nat → Int32} {izz : Nat} {t : Int32} (hzz : TzM mv Gzz) (hizz : izz < 7) (ht : 0 ≤ t.toInt ∧ t.toInt ≤ 9) : TzM (tA mv 0 izz t) (upd Gzz (8 + izz) t) := by
  refine ⟨fun jzz hj => ?_, fun jzz hj => ?_, ?_, ?_, hzz.2.2.2.2.1.of rfl (fun jzz h1 h2 => by rw [updA, if_neg (by omega)]), hzz.2.2.2.2.2⟩
  · have ezz : gA (tA mv 0 izz t) 0 jzz = if jzz = izz then t else gA mv 0 jzz := rfl
    rw [ezz, updA]
    by_cases czz : jzz = izz
    · rw [if_pos czz, if_pos (by omega)]; exact ⟨rfl, ht⟩
    · rw [if_neg czz, if_neg (by omega)]; exact hzz.1 jzz hj
  · rw [updA, if_neg (by omega)]; exact hzz.2.1 jzz hj
  · rw [updA, if_neg (by omega)]; exact hzz.2.2.1
  · rw [updA, if_neg (by omega)]; exact hzz.2.2.2.1
set_option maxHeartbeats 200000 in
theorem TzM.prize {mv mv' : Ob} {Gzz : Nat → Int32} {izz : Nat} {xzz wzz uzz : Int32} (hzz : TzM mv Gzz) (ei : xzz.toInt = (izz : Int)) (hizz : izz < 7) (hw : 0 ≤ wzz.toInt ∧ wzz.toInt ≤ 999) (h1 : f_X4_addPrizes mv xzz wzz = some mv') (h2 : f_X9_within (Gzz (15 + izz) + wzz).toInt64 0 999 = some uzz) : TzM mv' (upd Gzz (15 + izz) uzz) := by
  have ix : xzz.toNatClampNeg = izz := tnc_eq ei
  unfold f_X4_addPrizes at h1
  have h1 := (z_gd (z_gd h1).2).2
  rw [ix] at h1
  obtain ⟨o3zz, e3zz, h1⟩ := z_lt h1
  have h1 := Option.some.inj h1
  have hp := hzz.2.1 izz hizz
  rw [hp.1] at e3zz
  obtain ⟨s1zz, s2zz⟩ := sum999 ⟨hp.2.1, hp.2.2⟩ hw rfl h2
  rw [s1zz] at e3zz
  rw [← h1, e3zz]
  refine ⟨fun jzz hj => ?_, fun jzz hj => ?_, ?_, ?_, hzz.2.2.2.2.1.of rfl (fun jzz h1 h2 => by rw [updA, if_neg (by omega)]), hzz.2.2.2.2.2⟩
  · rw [updA, if_neg (by omega)]; exact hzz.1 jzz hj
  · have ezz : gA (tA mv 1 izz uzz) 1 jzz = if jzz = izz then uzz else gA mv 1 jzz := rfl
    rw [ezz, updA]
    by_cases czz : jzz = izz
    · rw [if_pos czz, if_pos (by omega)]; exact ⟨rfl, s2zz⟩
    · rw [if_neg czz, if_neg (by omega)]; exact hzz.2.1 jzz hj
  · rw [updA, if_neg (by omega)]; exact hzz.2.2.1
  · rw [updA, if_neg (by omega)]; exact hzz.2.2.2.1
set_option maxHeartbeats 200000 in
theorem TzM.gap {mv : Ob} {Gzz : Nat → Int32} {vzz : Int32} (hzz : TzM mv Gzz) (hv : 0 ≤ vzz.toInt ∧ vzz.toInt ≤ 999) : TzM (sI mv 3 vzz) (upd Gzz 7 vzz) := by
  refine ⟨fun jzz hj => ?_, fun jzz hj => ?_, ⟨rfl, hv⟩, ?_, hzz.2.2.2.2.1.of rfl (fun jzz h1 h2 => by rw [updA, if_neg (by omega)]), hzz.2.2.2.2.2⟩
  · rw [updA, if_neg (by omega)]; exact hzz.1 jzz hj
  · rw [updA, if_neg (by omega)]; exact hzz.2.1 jzz hj
  · rw [updA, if_neg (by omega)]; exact hzz.2.2.2.1
set_option maxHeartbeats 200000 in
theorem TzM.year {mv : Ob} {Gzz : Nat → Int32} {vzz : Int32} (hzz : TzM mv Gzz) (hv : 0 ≤ vzz.toInt ∧ vzz.toInt ≤ 999) : TzM (sI mv 4 vzz) (upd Gzz 4 vzz) := by
  refine ⟨fun jzz hj => ?_, fun jzz hj => ?_, ?_, ⟨rfl, hv⟩, hzz.2.2.2.2.1.of rfl (fun jzz h1 h2 => by rw [updA, if_neg (by omega)]), hzz.2.2.2.2.2⟩
  · rw [updA, if_neg (by omega)]; exact hzz.1 jzz hj
  · rw [updA, if_neg (by omega)]; exact hzz.2.1 jzz hj
  · rw [updA, if_neg (by omega)]; exact hzz.2.2.1
set_option maxHeartbeats 200000 in
theorem TzM.ent {mv : Ob} {Gzz : Nat → Int32} {izz : Nat} {vzz uzz : Int32} (hzz : TzM mv Gzz) (hv : 0 ≤ vzz.toInt ∧ vzz.toInt < 128) (hbzz : ∀ pzz : Int32, 0 ≤ pzz.toInt → pzz.toInt < 7 → (vzz >>> (pzz &&& 31)) &&& (1 : Int32) = if pzz.toNatClampNeg = izz then uzz else ((gI mv 2) >>> (pzz &&& 31)) &&& (1 : Int32)) (hizz : izz < 7) : TzM (sI mv 2 vzz) (upd Gzz (22 + izz) uzz) := by
  refine ⟨fun jzz hj => ?_, fun jzz hj => ?_, ?_, ?_, fun pzz h0 h1 => ?_, hv⟩
  · rw [updA, if_neg (by omega)]; exact hzz.1 jzz hj
  · rw [updA, if_neg (by omega)]; exact hzz.2.1 jzz hj
  · rw [updA, if_neg (by omega)]; exact hzz.2.2.1
  · rw [updA, if_neg (by omega)]; exact hzz.2.2.2.1
  · have ezz : gI (sI mv 2 vzz) 2 = vzz := rfl
    rw [ezz, hbzz pzz h0 h1, updA]
    by_cases czz : pzz.toNatClampNeg = izz
    · rw [if_pos czz, if_pos (by omega)]
    · rw [if_neg czz, if_neg (by omega)]; exact hzz.2.2.2.2.1 pzz h0 h1
set_option maxHeartbeats 200000 in
theorem bits_clear {Ezz xzz : Int32} {izz : Nat} (hE : 0 ≤ Ezz.toInt ∧ Ezz.toInt < 128) (ei : xzz.toInt = (izz : Int)) (hizz : izz < 7) : (∀ pzz : Int32, 0 ≤ pzz.toInt → pzz.toInt < 7 → ((Ezz &&& (((1 : Int32) <<< (xzz &&& 31)) ^^^ (-1 : Int32))) >>> (pzz &&& 31)) &&& (1 : Int32) = if pzz.toNatClampNeg = izz then 0 else (Ezz >>> (pzz &&& 31)) &&& (1 : Int32)) ∧ 0 ≤ (Ezz &&& (((1 : Int32) <<< (xzz &&& 31)) ^^^ (-1 : Int32))).toInt ∧ (Ezz &&& (((1 : Int32) <<< (xzz &&& 31)) ^^^ (-1 : Int32))).toInt < 128 := by
  obtain ⟨ezz, ee⟩ : ∃ ezz : Nat, Ezz.toInt = (ezz : Int) := ⟨Ezz.toInt.toNat, by omega⟩
  have qzz := en_clear ezz (by omega) izz hizz
  rw [i32_of ee (by omega), i32_of ei (by omega)]
  refine ⟨fun pzz h0 h1 => ?_, qzz.2⟩
  obtain ⟨bzz, eb⟩ : ∃ bzz : Nat, pzz.toInt = (bzz : Int) := ⟨pzz.toInt.toNat, by omega⟩
  have ib : pzz.toNatClampNeg = bzz := tnc_eq eb
  rw [ib, i32_of eb (by omega)]
  exact qzz.1 bzz (by omega)
set_option maxHeartbeats 200000 in
theorem bits_turn {Ezz xzz : Int32} {izz : Nat} (hE : 0 ≤ Ezz.toInt ∧ Ezz.toInt < 128) (ei : xzz.toInt = (izz : Int)) (hizz : izz < 7) : (∀ pzz : Int32, 0 ≤ pzz.toInt → pzz.toInt < 7 → ((Ezz ^^^ ((1 : Int32) <<< (xzz &&& 31))) >>> (pzz &&& 31)) &&& (1 : Int32) = if pzz.toNatClampNeg = izz then (1 : Int32) - ((Ezz >>> (xzz &&& 31)) &&& (1 : Int32)) else (Ezz >>> (pzz &&& 31)) &&& (1 : Int32)) ∧ 0 ≤ (Ezz ^^^ ((1 : Int32) <<< (xzz &&& 31))).toInt ∧ (Ezz ^^^ ((1 : Int32) <<< (xzz &&& 31))).toInt < 128 := by
  obtain ⟨ezz, ee⟩ : ∃ ezz : Nat, Ezz.toInt = (ezz : Int) := ⟨Ezz.toInt.toNat, by omega⟩
  have qzz := en_turn ezz (by omega) izz hizz
  rw [i32_of ee (by omega), i32_of ei (by omega)]
  refine ⟨fun pzz h0 h1 => ?_, qzz.2⟩
  obtain ⟨bzz, eb⟩ : ∃ bzz : Nat, pzz.toInt = (bzz : Int) := ⟨pzz.toInt.toNat, by omega⟩
  have ib : pzz.toNatClampNeg = bzz := tnc_eq eb
  have wzz := qzz.1 bzz (by omega)
  rw [ib, i32_of eb (by omega)]
  by_cases czz : bzz = izz
  · rw [if_pos czz] at wzz ⊢
    rw [wzz, czz]
  · rw [if_neg czz] at wzz ⊢
    exact wzz
set_option maxHeartbeats 200000 in
theorem at_eq {czz : Ob} {pzz zzz : Int32} {kzz izz : Nat} (ek : (gI czz 4).toInt = (kzz : Int)) (ep : pzz.toInt = (izz : Int) + 1) (hizz : izz < 7) (hzz : f_X1_at czz pzz = some zzz) : (izz < kzz ∧ zzz = gA czz 2 izz) ∨ (kzz ≤ izz ∧ zzz = -1) := by
  unfold f_X1_at at hzz
  rcases z_if hzz with ⟨c0zz, hzz⟩ | ⟨c0zz, hzz⟩
  · have c0zz := cv_lt (a := (izz : Int) + 1) (b := 1) ep (by decide) c0zz
    omega
  · rcases z_if hzz with ⟨c1zz, hzz⟩ | ⟨c1zz, hzz⟩
    · have c1zz := cv_lt (a := (kzz : Int)) (b := (izz : Int) + 1) ek ep c1zz
      exact Or.inr ⟨by omega, (Option.some.inj hzz).symm⟩
    · have c1zz := cv_nlt (a := (kzz : Int)) (b := (izz : Int) + 1) ek ep c1zz
      have hzz := Option.some.inj (z_gd hzz).2
      have ix : (pzz - (1 : Int32)).toNatClampNeg = izz := tnc_eq (by rw [i32_sub ep (by decide : (1 : Int32).toInt = 1) (by omega) (by omega)]; omega)
      rw [ix] at hzz
      exact Or.inl ⟨by omega, hzz.symm⟩
def Lne (czz o : Ob) (n kzz : Nat) : Prop := gI czz 4 = gI o 43 ∧ (gI czz 4).toInt = (kzz : Int) ∧ ∀ jzz, jzz < kzz → gA czz 2 jzz = gA o 42 jzz ∧ 0 ≤ (gA czz 2 jzz).toInt ∧ (gA czz 2 jzz).toInt < (n : Int)
set_option maxHeartbeats 200000 in
theorem LUt.lne {czz o : Ob} {n kzz : Nat} (hzz : LUt czz o n kzz) : Lne czz o n kzz := ⟨hzz.1, hzz.2.1, fun jzz hj => ⟨(hzz.2.2 jzz hj).1, (hzz.2.2 jzz hj).2.1, (hzz.2.2 jzz hj).2.2.1⟩⟩
set_option maxHeartbeats 200000 in
theorem Lne.eq {czz o o' : Ob} {n kzz : Nat} (hzz : Lne czz o n kzz) (e1zz : gI o' 43 = gI o 43) (e2zz : gA o' 42 = gA o 42) : Lne czz o' n kzz := ⟨hzz.1.trans e1zz.symm, hzz.2.1, fun jzz hj => by rw [e2zz]; exact hzz.2.2 jzz hj⟩
set_option maxHeartbeats 200000 in
theorem race_clr {czz isl : Ob} {pl : List CR} {n kzz : Nat} {fzz : Int32} {yzz : Int32 × Ob × Ob} {y' : Int32 × Ob} (hn7 : n ≤ 7) (hkn : kzz ≤ n) :
    ∀ (Nzz N' : Nat) (vzz : Int32) (mv mezz o : Ob) (izz : Nat), vzz.toInt = (izz : Int) → izz ≤ kzz → Lne czz o n kzz → TzM mv (gA o 3) → lp_X1_heldRace_186 czz isl pl Nzz (fzz, vzz, mv, mezz) = some yzz → lp_X9_raceIt_219 N' (fzz, vzz, o) = some y' → yzz.1 = fzz ∧ y'.1 = fzz ∧ TzM yzz.2.1 (gA y'.2 3) ∧ RwC n (gA o 3) (gA y'.2 3) := by
  intro Nzz
  induction Nzz with
  | zero => intro N' vzz mv mezz o izz _ _ _ _ h1; cases h1
  | succ Nzz ihzz =>
    intro N' vzz mv mezz o izz evzz hizz hTzz hMzz h1 h2
    cases N' with
    | zero => cases h2
    | succ N' =>
    have h1 : lb_X1_heldRace_186 czz isl pl (lp_X1_heldRace_186 czz isl pl Nzz) fzz vzz mv mezz = some yzz := h1
    have h2 : lb_X9_raceIt_219 (lp_X9_raceIt_219 N') fzz vzz o = some y' := h2
    unfold lb_X1_heldRace_186 at h1
    unfold lb_X9_raceIt_219 at h2
    rw [← hTzz.1] at h2
    by_cases c0zz : gI czz 4 ≤ vzz
    · have h1 := Option.some.inj (z_t h1 c0zz)
      have h2 := Option.some.inj (z_t h2 c0zz)
      rw [← h1, ← h2]
      exact ⟨rfl, rfl, hMzz, RwC.rf⟩
    · have h1 := z_f h1 c0zz
      have h2 := z_f h2 c0zz
      have c0zz := cv_nle (a := (kzz : Int)) (b := (izz : Int)) hTzz.2.1 evzz c0zz
      have ivzz : vzz.toNatClampNeg = izz := tnc_eq evzz
      rw [ivzz] at h1 h2
      have h1 := (z_gd h1).2
      have h2 := (z_gd (z_gd h2).2).2
      obtain ⟨l1, l2, l3⟩ := hTzz.2.2 izz (by omega)
      rw [← l1] at h2
      obtain ⟨xzz, exzz⟩ : ∃ xzz : Nat, (gA czz 2 izz).toInt = (xzz : Int) := ⟨(gA czz 2 izz).toInt.toNat, by omega⟩
      have ix : ((22 : Int32) + gA czz 2 izz).toNatClampNeg = 22 + xzz := tnc_eq (by rw [i32_add (by decide : (22 : Int32).toInt = 22) exzz (by omega) (by omega)]; omega)
      rw [ix] at h2
      obtain ⟨m9zz, g9, h1⟩ := z_lt h1
      obtain ⟨x10, q1zz, h1⟩ := z_lt h1
      obtain ⟨o11, k11, h2⟩ := z_lt h2
      obtain ⟨x12, q2zz, h2⟩ := z_lt h2
      have qx : x12 = x10 := q2zz.trans q1zz.symm
      rw [qx] at h2
      have bc := bits_clear (Ezz := gI mv 2) hMzz.2.2.2.2.2 exzz (by omega)
      have eG : gA o11 3 = upd (gA o 3) (22 + xzz) 0 := by rw [k11]; rfl
      have hM9 : TzM m9zz (gA o11 3) := by rw [g9, eG]; exact hMzz.ent bc.2 bc.1 (by omega)
      obtain ⟨r1zz, r2, r3, r4⟩ := ihzz N' x10 m9zz mezz o11 (izz + 1) (by rw [q1zz]; exact Eq.trans (i32_add evzz (by decide : (1 : Int32).toInt = 1) (by omega) (by omega)) (by omega)) (by omega) (hTzz.eq (by rw [k11]; rfl) (by rw [k11]; rfl)) hM9 h1 h2
      exact ⟨r1zz, r2, r3, RwC.tr (by rw [eG]; exact RwC.up (by omega)) r4⟩
set_option maxHeartbeats 200000 in
theorem upd_own {Gzz : Nat → Int32} {azz : Nat} {vzz : Int32} (hzz : vzz = Gzz azz) : upd Gzz azz vzz = Gzz := by
  funext jzz
  rw [updA]
  by_cases czz : jzz = azz
  · rw [if_pos czz, hzz, czz]
  · rw [if_neg czz]
set_option maxHeartbeats 200000 in
theorem race_end {czz isl mv mezz o : Ob} {pl : List CR} {n kzz : Nat} {fzz t w3zz : Int32} {yzz : Int32 × Ob × Ob} {y' : Int32 × Ob} (hn7 : n ≤ 7) (hkn : kzz ≤ n) (hTzz : Lne czz o n kzz) (hMzz : TzM mv (gA o 3)) (h3 : 0 ≤ w3zz.toInt ∧ w3zz.toInt ≤ 9) (ht : (kzz ≤ 2 ∧ t = -1) ∨ (2 < kzz ∧ t = gA czz 2 2))
    (h1 : bk_X1_heldRace_163 czz isl pl fzz t w3zz mv mezz = some yzz) (h2 : bk_X9_raceIt_169 fzz w3zz o = some y') : yzz.1 = fzz ∧ y'.1 = fzz ∧ TzM yzz.2.1 (gA y'.2 3) ∧ RwC n (gA o 3) (gA y'.2 3) := by
  unfold bk_X1_heldRace_163 at h1
  unfold bk_X9_raceIt_169 at h2
  have n2zz : (2 : Int32).toNatClampNeg = 2 := by decide
  rw [n2zz, ← hTzz.1] at h2
  rcases ht with ⟨q1zz, q2zz⟩ | ⟨q1zz, q2zz⟩
  · have h1 := z_t h1 q2zz
    have h2 := z_t h2 (Int32.le_iff_toInt_le.mpr (by rw [hTzz.2.1]; have : (2 : Int32).toInt = 2 := (by decide); omega))
    unfold bk_X1_heldRace_183 at h1
    unfold bk_X9_raceIt_216 at h2
    exact race_clr hn7 hkn zfu zfu 0 mv mezz o 0 (by decide) (Nat.zero_le _) hTzz hMzz h1 h2
  · obtain ⟨l1, l2, l3⟩ := hTzz.2.2 2 q1zz
    obtain ⟨xzz, exzz⟩ : ∃ xzz : Nat, (gA czz 2 2).toInt = (xzz : Int) := ⟨(gA czz 2 2).toInt.toNat, by omega⟩
    have h1 := z_f h1 (fun qzz => by rw [q2zz] at qzz; rw [qzz] at l2; exact absurd l2 (by decide))
    have h2 := z_f h2 (fun qzz => by have qzz := cv_le (a := (kzz : Int)) (b := 2) hTzz.2.1 (by decide) qzz; omega)
    have ix : ((15 : Int32) + gA czz 2 2).toNatClampNeg = 15 + xzz := tnc_eq (by rw [i32_add (by decide : (15 : Int32).toInt = 15) exzz (by omega) (by omega)]; omega)
    rw [← l1, ix] at h2
    rw [q2zz] at h1
    obtain ⟨z11, e11zz, h1⟩ := z_bd h1
    have h2 := (z_gd h2).2
    obtain ⟨z14zz, e14zz, h2⟩ := z_bd h2
    have h2 := (z_gd h2).2
    obtain ⟨o16, k16, h2⟩ := z_lt h2
    unfold bk_X1_heldRace_183 at h1
    unfold bk_X9_raceIt_216 at h2
    have eG : gA o16 3 = upd (gA o 3) (15 + xzz) z14zz := by rw [k16]; rfl
    have hM' : TzM z11 (gA o16 3) := by rw [eG]; exact hMzz.prize exzz (by omega) ⟨h3.1, by omega⟩ e11zz e14zz
    obtain ⟨r1zz, r2, r3, r4⟩ := race_clr hn7 hkn zfu zfu 0 z11 mezz o16 0 (by decide) (Nat.zero_le _) (hTzz.eq (by rw [k16]; rfl) (by rw [k16]; rfl)) hM' h1 h2
    exact ⟨r1zz, r2, r3, RwC.tr (by rw [eG]; exact RwC.up (by omega)) r4⟩
set_option maxHeartbeats 200000 in
theorem race_tail {czz isl mv mezz o : Ob} {pl : List CR} {lz : Option Nat} {rc : Int32} {n kzz : Nat} {fzz s t w1zz w2zz w3zz t2zz : Int32} {yzz : Int32 × Ob × Ob} {y' : Int32 × Ob} (hn7 : n ≤ 7) (hkn : kzz ≤ n) (hk : 1 ≤ kzz) (hTzz : Lne czz o n kzz) (hMzz : TzM mv (gA o 3))
    (hf : fzz = gA czz 2 0) (hw1 : 0 ≤ w1zz.toInt ∧ w1zz.toInt ≤ 9) (hw2 : 0 ≤ w2zz.toInt ∧ w2zz.toInt ≤ 9) (hw3 : 0 ≤ w3zz.toInt ∧ w3zz.toInt ≤ 9) (ht2 : 0 ≤ t2zz.toInt ∧ t2zz.toInt ≤ 9)
    (hs : (kzz = 1 ∧ s = -1 ∧ w2zz = 0) ∨ (1 < kzz ∧ s = gA czz 2 1 ∧ ∀ (zzz : Int32 × Ob), f_X1_turnsTo_Q czz isl mv mezz pl lz s rc = some zzz → zzz.1 = t2zz)) (ht : (kzz ≤ 2 ∧ t = -1) ∨ (2 < kzz ∧ t = gA czz 2 2))
    (h1 : bk_X1_heldRace_87 czz isl pl rc lz fzz s t w1zz w2zz w3zz mv mezz = some yzz) (h2 : bk_X9_raceIt_90 fzz w1zz w2zz t2zz w3zz o = some y') : yzz.1 = fzz ∧ y'.1 = fzz ∧ TzM yzz.2.1 (gA y'.2 3) ∧ RwC n (gA o 3) (gA y'.2 3) := by
  have n7 : (7 : Int32).toNatClampNeg = 7 := by decide
  have n1zz : (1 : Int32).toNatClampNeg = 1 := by decide
  obtain ⟨l1, l2, l3⟩ := hTzz.2.2 0 (by omega)
  obtain ⟨xzz, exzz⟩ : ∃ xzz : Nat, (gA czz 2 0).toInt = (xzz : Int) := ⟨(gA czz 2 0).toInt.toNat, by omega⟩
  have exf : fzz.toInt = (xzz : Int) := by rw [hf]; exact exzz
  have nfzz : ¬ fzz = -1 := fun qzz => by rw [qzz] at exf; have wzz : (-1 : Int32).toInt = -1 := (by decide); omega
  have ix : ((15 : Int32) + fzz).toNatClampNeg = 15 + xzz := tnc_eq (by rw [i32_add (by decide : (15 : Int32).toInt = 15) exf (by omega) (by omega)]; omega)
  unfold bk_X9_raceIt_90 at h2
  rw [n7, n1zz, ix] at h2
  have h2 := (z_gd h2).2
  obtain ⟨z4, e4zz, h2⟩ := z_bd h2
  have h2 := (z_gd h2).2
  obtain ⟨o6, k6zz, h2⟩ := z_lt h2
  obtain ⟨z7, e7zz, h2⟩ := z_bd h2
  obtain ⟨o8zz, k8zz, h2⟩ := z_lt h2
  have G6 : gA o6 3 = upd (gA o 3) (15 + xzz) z4 := by rw [k6zz]; rfl
  have G8 : gA o8zz 3 = upd (upd (gA o 3) (15 + xzz) z4) 7 z7 := by rw [k8zz, ← G6]; rfl
  have g67 : gA o6 3 7 = gA o 3 7 := by rw [G6, updA, if_neg (by omega)]
  rw [g67] at e7zz
  have T8 : Lne czz o8zz n kzz := hTzz.eq (by rw [k8zz, k6zz]; rfl) (by rw [k8zz, k6zz]; rfl)
  have hgap := hMzz.2.2.1
  obtain ⟨s1zz, s2zz⟩ := sum999 (zzz := if (gA o 3 7 + w2zz) < (999 : Int32) then (gA o 3 7 + w2zz) else (999 : Int32)) ⟨hgap.2.1, hgap.2.2⟩ ⟨hw2.1, by omega⟩ rfl e7zz
  unfold bk_X1_heldRace_87 at h1
  rw [← T8.1] at h2
  rcases hs with ⟨q1zz, q2zz, q3zz⟩ | ⟨q1zz, q2zz, q3zz⟩
  · have h1 := z_t h1 q2zz
    have h2 := z_t h2 (Int32.le_iff_toInt_le.mpr (by rw [T8.2.1]; have : (1 : Int32).toInt = 1 := (by decide); omega))
    unfold bk_X1_heldRace_145 at h1
    have h1 := z_f h1 nfzz
    obtain ⟨z12, e12zz, h1⟩ := z_bd h1
    have e70 : z7 = gA o 3 7 := by
      have wzz : gA o 3 7 + w2zz = gA o 3 7 := by
        rw [q3zz]; exact Int32.toInt_inj.mp (by rw [i32_add rfl (by decide : (0 : Int32).toInt = 0) (by omega) (by omega)]; omega)
      rw [wzz] at e7zz
      exact with_id (M := 999) (by decide) ⟨hgap.2.1, hgap.2.2⟩ e7zz
    have G8' : gA o8zz 3 = upd (gA o 3) (15 + xzz) z4 := by rw [G8]; exact upd_own (by rw [updA, if_neg (by omega)]; exact e70)
    have hM' : TzM z12 (gA o8zz 3) := by rw [G8']; exact hMzz.prize exf (by omega) ⟨hw1.1, by omega⟩ e12zz e4zz
    obtain ⟨r1zz, r2, r3, r4⟩ := race_end hn7 hkn T8 hM' hw3 ht h1 h2
    exact ⟨r1zz, r2, r3, RwC.tr (by rw [G8']; exact RwC.up (by omega)) r4⟩
  · obtain ⟨m1zz, m2zz, m3zz⟩ := hTzz.2.2 1 q1zz
    obtain ⟨uzz, eu⟩ : ∃ uzz : Nat, (gA czz 2 1).toInt = (uzz : Int) := ⟨(gA czz 2 1).toInt.toNat, by omega⟩
    have eus : s.toInt = (uzz : Int) := by rw [q2zz]; exact eu
    have h1 := z_f h1 (fun qzz => by rw [qzz] at eus; have wzz : (-1 : Int32).toInt = -1 := (by decide); omega)
    have h2 := z_f h2 (fun qzz => by have qzz := cv_le (a := (kzz : Int)) (b := 1) T8.2.1 (by decide) qzz; omega)
    obtain ⟨z13zz, e13zz, h1⟩ := z_bd h1
    have et := q3zz z13zz e13zz
    have h1 := (z_gd h1).2
    have iszz : s.toNatClampNeg = uzz := tnc_eq eus
    rw [iszz, et] at h1
    obtain ⟨m15, g15, h1⟩ := z_lt h1
    obtain ⟨m16, g16, h1⟩ := z_lt h1
    have l42 : gA o8zz 42 1 = gA czz 2 1 := by rw [k8zz, k6zz]; exact m1zz.symm
    have iu : ((8 : Int32) + gA czz 2 1).toNatClampNeg = 8 + uzz := tnc_eq (by rw [i32_add (by decide : (8 : Int32).toInt = 8) eu (by omega) (by omega)]; omega)
    rw [l42, iu] at h2
    have h2 := (z_gd h2).2
    obtain ⟨o18, k18, h2⟩ := z_lt h2
    have G18 : gA o18 3 = upd (upd (upd (gA o 3) (15 + xzz) z4) 7 z7) (8 + uzz) t2zz := by rw [k18, ← G8]; rfl
    have hM15 : TzM m15 (upd (gA o 3) (8 + uzz) t2zz) := by rw [g15]; exact hMzz.trade (by omega) ht2
    have e16zz : m16 = sI m15 3 z7 := by
      rw [g16]
      have wzz : gI m15 3 = gA o 3 7 := by rw [g15]; exact hgap.1
      rw [wzz, s1zz]
    have hM16 : TzM m16 (upd (upd (gA o 3) (8 + uzz) t2zz) 7 z7) := by rw [e16zz]; exact hM15.gap s2zz
    unfold bk_X1_heldRace_145 at h1
    have h1 := z_f h1 nfzz
    obtain ⟨z12, e12zz, h1⟩ := z_bd h1
    have e4' : f_X9_within ((upd (upd (gA o 3) (8 + uzz) t2zz) 7 z7 (15 + xzz)) + w1zz).toInt64 0 999 = some z4 := by
      rw [updA, if_neg (by omega), updA, if_neg (by omega)]; exact e4zz
    have hM12 := hM16.prize exf (by omega) ⟨hw1.1, by omega⟩ e12zz e4'
    have eG : upd (upd (upd (gA o 3) (8 + uzz) t2zz) 7 z7) (15 + xzz) z4 = gA o18 3 := by
      rw [G18, upd_cm (azz := 7) (bzz := 15 + xzz) (by omega), upd_cm (azz := 8 + uzz) (bzz := 15 + xzz) (by omega), upd_cm (azz := 8 + uzz) (bzz := 7) (by omega)]
    rw [eG] at hM12
    obtain ⟨r1zz, r2, r3, r4⟩ := race_end hn7 hkn (T8.eq (by rw [k18]; rfl) (by rw [k18]; rfl)) hM12 hw3 ht h1 h2
    refine ⟨r1zz, r2, r3, RwC.tr ?_ r4⟩
    rw [G18]
    exact RwC.tr (RwC.up (azz := 15 + xzz) (by omega)) (RwC.tr (RwC.up (azz := 7) (by omega)) (RwC.up (azz := 8 + uzz) (by omega)))
set_option maxHeartbeats 200000 in
theorem turn_rng {o : Ob} {pzz rzz : Int32} {wzz : Int32 × Ob} (hzz : f_X9_turnsOf o pzz rzz = some wzz) : 0 ≤ wzz.1.toInt ∧ wzz.1.toInt ≤ 9 := by
  unfold f_X9_turnsOf at hzz
  have hzz := (z_gd hzz).2
  obtain ⟨w1zz, e2zz, hzz⟩ := z_bd hzz
  obtain ⟨w3zz, e3zz, hzz⟩ := z_bd hzz
  have hzz := Option.some.inj hzz
  rw [← hzz]
  exact within_rng (M := 9) (by decide) (by decide) e3zz
set_option maxHeartbeats 200000 in
theorem race_eq {czz isl mv mezz o : Ob} {pl : List CR} {rc : Int32} {n kzz R : Nat} {yzz : Int32 × Ob × Ob} {y' : Int32 × Ob} (hLW : ∀ zzz, f_X2_lawInForce isl = some zzz → LwP pl zzz (gA o 3) (gA o 3 3)) (hw : WtL isl mv (gA o 3)) (hMzz : TzM mv (gA o 3)) (h20 : gI o 20 = 0) (en : (gA o 3 0).toInt = (n : Int)) (eR : rc.toInt = (R : Int)) (hR : R < 4) (hTzz : Lne czz o n kzz) (hk : 1 ≤ kzz) (hkn : kzz ≤ n)
    (h1 : f_X1_heldRace czz isl mv mezz pl rc = some yzz) (h2 : f_X9_raceIt o rc = some y') : yzz.1 = y'.1 ∧ 0 ≤ y'.1.toInt ∧ TzM yzz.2.1 (gA y'.2 3) ∧ RwC n (gA o 3) (gA y'.2 3) := by
  have hn7 : n ≤ 7 := by have := hw.1.2.2; omega
  have n0zz : (0 : Int32).toNatClampNeg = 0 := by decide
  have n1zz : (1 : Int32).toNatClampNeg = 1 := by decide
  have n2zz : (2 : Int32).toNatClampNeg = 2 := by decide
  have z0 : 0 ≤ (0 : Int32).toInt ∧ (0 : Int32).toInt ≤ 9 := by decide
  unfold f_X1_heldRace at h1
  obtain ⟨lz, el, h1⟩ := z_bd h1
  obtain ⟨fzz, ef, h1⟩ := z_bd h1
  obtain ⟨s, es, h1⟩ := z_bd h1
  obtain ⟨t, et, h1⟩ := z_bd h1
  have hL := hLW lz el
  have aF := at_eq (izz := 0) hTzz.2.1 (by decide) (by decide) ef
  have aS := at_eq (izz := 1) hTzz.2.1 (by decide) (by decide) es
  have aT := at_eq (izz := 2) hTzz.2.1 (by decide) (by decide) et
  have hf : fzz = gA czz 2 0 := by
    rcases aF with ⟨-, qzz⟩ | ⟨qzz, -⟩
    · exact qzz
    · omega
  have ht : (kzz ≤ 2 ∧ t = -1) ∨ (2 < kzz ∧ t = gA czz 2 2) := by
    rcases aT with ⟨azz, bzz⟩ | ⟨azz, bzz⟩
    · exact Or.inr ⟨azz, bzz⟩
    · exact Or.inl ⟨azz, bzz⟩
  obtain ⟨l1, l2, l3⟩ := hTzz.2.2 0 (by omega)
  have nfzz : ¬ fzz = -1 := fun qzz => by rw [hf] at qzz; rw [qzz] at l2; exact absurd l2 (by decide)
  have h1 := z_f h1 nfzz
  obtain ⟨z5, e5zz, h1⟩ := z_bd h1
  have ask : ∀ (o' : Ob) (pzz : Int32), gA o' 3 = gA o 3 → gI o' 20 = 0 → 0 ≤ pzz.toInt → pzz.toInt < (n : Int) → Asked pl lz isl mv o' pzz rc := fun o' pzz g1 g2 g3zz g4 => ⟨by rw [g1]; exact hL, by rw [g1]; exact hw, g2, ⟨pzz.toInt.toNat, by omega, by rw [hw.1.1]; omega⟩, R, eR, hR⟩
  unfold f_X9_raceIt at h2
  rw [n0zz, n1zz] at h2
  obtain ⟨x1zz, ex1, h2⟩ := z_lt h2
  have fx : x1zz = fzz := by rw [ex1, hf]; exact l1.symm
  rw [fx] at h2
  obtain ⟨w2zz, e2zz, h2⟩ := z_bd h2
  have f2zz := fr_f_X9_winsOf e2zz
  obtain ⟨u1zz, u2zz⟩ := wins_eq (ask o fzz rfl h20 (by rw [hf]; exact l2) (by rw [hf]; exact l3)) (Or.inl rfl) e5zz e2zz
  have G2zz : gA w2zz.2 3 = gA o 3 := f2zz.A 3 rfl
  have K2 : gI w2zz.2 20 = 0 := (f2zz.I 20 rfl).trans h20
  have T2 : Lne czz w2zz.2 n kzz := hTzz.eq (f2zz.I 43 rfl) (f2zz.A 42 rfl)
  have k43 : ∀ o' : Ob, gI o' 43 = gI w2zz.2 43 → (gI o' 43).toInt = (kzz : Int) := fun o' qzz => by rw [qzz, ← T2.1]; exact hTzz.2.1
  rw [u1zz] at h1
  unfold bk_X1_heldRace_45 at h1
  by_cases c1zz : kzz ≤ 1
  ·
    have hs : s = -1 := by
      rcases aS with ⟨qzz, -⟩ | ⟨-, qzz⟩
      · omega
      · exact qzz
    have ht' : t = -1 := by
      rcases ht with ⟨-, qzz⟩ | ⟨qzz, -⟩
      · exact qzz
      · omega
    have le1 : ∀ o' : Ob, gI o' 43 = gI w2zz.2 43 → gI o' 43 ≤ (1 : Int32) := fun o' qzz => Int32.le_iff_toInt_le.mpr (by rw [k43 o' qzz]; have : (1 : Int32).toInt = 1 := (by decide); omega)
    have le2 : ∀ o' : Ob, gI o' 43 = gI w2zz.2 43 → gI o' 43 ≤ (2 : Int32) := fun o' qzz => Int32.le_iff_toInt_le.mpr (by rw [k43 o' qzz]; have : (2 : Int32).toInt = 2 := (by decide); omega)
    have h2 := z_t h2 (le1 _ rfl)
    unfold bk_X9_raceIt_39 at h2
    have h2 := z_t h2 (le1 _ rfl)
    unfold bk_X9_raceIt_64 at h2
    have h2 := z_t h2 (le2 _ rfl)
    have h1 := z_t h1 hs
    unfold bk_X1_heldRace_66 at h1
    have h1 := z_t h1 ht'
    obtain ⟨r1zz, r2, r3, r4⟩ := race_tail hn7 hkn hk T2 (by rw [G2zz]; exact hMzz) hf u2zz z0 z0 z0 (Or.inl ⟨by omega, hs, rfl⟩) ht h1 h2
    rw [G2zz] at r4
    exact ⟨r1zz.trans r2.symm, by rw [r2, hf]; exact l2, r3, r4⟩
  · obtain ⟨m1zz, m2zz, m3zz⟩ := hTzz.2.2 1 (by omega)
    have hs : s = gA czz 2 1 := by
      rcases aS with ⟨-, qzz⟩ | ⟨qzz, -⟩
      · exact qzz
      · omega
    have nle1 : ∀ o' : Ob, gI o' 43 = gI w2zz.2 43 → ¬ gI o' 43 ≤ (1 : Int32) := fun o' qzz zzz => by have zzz := cv_le (a := (kzz : Int)) (b := 1) (k43 o' qzz) (by decide) zzz; omega
    have h2 := z_f h2 (nle1 _ rfl)
    have l421 : gA w2zz.2 42 1 = s := by rw [f2zz.A 42 rfl, hs]; exact m1zz.symm
    rw [l421] at h2
    obtain ⟨w21, e21zz, h2⟩ := z_bd h2
    have f21 := fr_f_X9_winsOf e21zz
    have h1 := z_f h1 (fun qzz => by rw [hs] at qzz; rw [qzz] at m2zz; exact absurd m2zz (by decide))
    obtain ⟨z6, e6zz, h1⟩ := z_bd h1
    obtain ⟨v1zz, v2⟩ := wins_eq (ask w2zz.2 s G2zz K2 (by rw [hs]; exact m2zz) (by rw [hs]; exact m3zz)) (Or.inr (Or.inl rfl)) e6zz e21zz
    have G21 : gA w21.2 3 = gA o 3 := (f21.A 3 rfl).trans G2zz
    have K21 : gI w21.2 20 = 0 := (f21.I 20 rfl).trans K2
    have q21 : gI w21.2 43 = gI w2zz.2 43 := f21.I 43 rfl
    rw [v1zz] at h1
    unfold bk_X9_raceIt_39 at h2
    rw [n1zz] at h2
    have h2 := z_f h2 (nle1 _ q21)
    have l21 : gA w21.2 42 1 = s := by rw [f21.A 42 rfl]; exact l421
    rw [l21] at h2
    obtain ⟨w20, e20, h2⟩ := z_bd h2
    have f20zz := fr_f_X9_turnsOf e20
    have G20 : gA w20.2 3 = gA o 3 := (f20zz.A 3 rfl).trans G21
    have K20 : gI w20.2 20 = 0 := (f20zz.I 20 rfl).trans K21
    have q20 : gI w20.2 43 = gI w2zz.2 43 := (f20zz.I 43 rfl).trans q21
    have T20 : Lne czz w20.2 n kzz := T2.eq q20 ((f20zz.A 42 rfl).trans (f21.A 42 rfl))
    have hturn : ∀ (me' : Ob) (zzz : Int32 × Ob), f_X1_turnsTo_Q czz isl mv me' pl lz s rc = some zzz → zzz.1 = w20.1 ∧ 0 ≤ w20.1.toInt ∧ w20.1.toInt ≤ 9 := fun me' zzz ez => turns_eq (ask w21.2 s G21 K21 (by rw [hs]; exact m2zz) (by rw [hs]; exact m3zz)) ez e20
    unfold bk_X9_raceIt_64 at h2
    rw [n2zz] at h2
    unfold bk_X1_heldRace_66 at h1
    by_cases c2zz : kzz ≤ 2
    · have ht' : t = -1 := by
        rcases ht with ⟨-, qzz⟩ | ⟨qzz, -⟩
        · exact qzz
        · omega
      have h2 := z_t h2 (Int32.le_iff_toInt_le.mpr (by rw [k43 _ q20]; have : (2 : Int32).toInt = 2 := (by decide); omega))
      have h1 := z_t h1 ht'
      have rt : 0 ≤ w20.1.toInt ∧ w20.1.toInt ≤ 9 := turn_rng e20
      obtain ⟨r1zz, r2, r3, r4⟩ := race_tail hn7 hkn hk T20 (by rw [G20]; exact hMzz) hf u2zz v2 z0 rt (Or.inr ⟨by omega, hs, fun zzz ez => (hturn _ zzz ez).1⟩) ht h1 h2
      rw [G20] at r4
      exact ⟨r1zz.trans r2.symm, by rw [r2, hf]; exact l2, r3, r4⟩
    · obtain ⟨p1zz, p2zz, p3zz⟩ := hTzz.2.2 2 (by omega)
      have ht' : t = gA czz 2 2 := by
        rcases ht with ⟨qzz, -⟩ | ⟨-, qzz⟩
        · omega
        · exact qzz
      have h2 := z_f h2 (fun zzz => by have zzz := cv_le (a := (kzz : Int)) (b := 2) (k43 _ q20) (by decide) zzz; omega)
      have l20 : gA w20.2 42 2 = t := by rw [f20zz.A 42 rfl, f21.A 42 rfl, f2zz.A 42 rfl, ht']; exact p1zz.symm
      rw [l20] at h2
      obtain ⟨w19, e19zz, h2⟩ := z_bd h2
      have f19 := fr_f_X9_winsOf e19zz
      have h1 := z_f h1 (fun qzz => by rw [ht'] at qzz; rw [qzz] at p2zz; exact absurd p2zz (by decide))
      obtain ⟨z7, e7zz, h1⟩ := z_bd h1
      obtain ⟨x1zz, x2zz⟩ := wins_eq (ask w20.2 t G20 K20 (by rw [ht']; exact p2zz) (by rw [ht']; exact p3zz)) (Or.inr (Or.inr rfl)) e7zz e19zz
      rw [x1zz] at h1
      have G19 : gA w19.2 3 = gA o 3 := (f19.A 3 rfl).trans G20
      have rt : 0 ≤ w20.1.toInt ∧ w20.1.toInt ≤ 9 := turn_rng e20
      obtain ⟨r1zz, r2, r3, r4⟩ := race_tail hn7 hkn hk (T20.eq (f19.I 43 rfl) (f19.A 42 rfl)) (by rw [G19]; exact hMzz) hf u2zz v2 x2zz rt (Or.inr ⟨by omega, hs, fun zzz ez => (hturn _ zzz ez).1⟩) ht h1 h2
      rw [G19] at r4
      exact ⟨r1zz.trans r2.symm, by rw [r2, hf]; exact l2, r3, r4⟩
def WiL (isl : Ob) (Gzz : Nat → Int32) : Prop := (gI isl 7 = Gzz 0 ∧ 0 ≤ (Gzz 0).toInt ∧ (Gzz 0).toInt ≤ 7) ∧ (∀ jzz, jzz < 28 → gA isl 2 jzz = Gzz (36 + jzz) ∧ 0 ≤ (Gzz (36 + jzz)).toInt ∧ (Gzz (36 + jzz)).toInt ≤ 9) ∧ gI isl 12 = Gzz 6
set_option maxHeartbeats 200000 in
theorem WtL.of {isl mv : Ob} {Gzz : Nat → Int32} (hzz : WiL isl Gzz) (mzz : TzM mv Gzz) : WtL isl mv Gzz := ⟨hzz.1, hzz.2.1, mzz.1, fun jzz hj => (mzz.2.1 jzz hj).1, mzz.2.2.1.1, mzz.2.2.2.1.1, hzz.2.2⟩
set_option maxHeartbeats 200000 in
theorem WiL.rw' {isl : Ob} {Gzz G' : Nat → Int32} {n : Nat} (hzz : WiL isl Gzz) (rzz : RwC n Gzz G') : WiL isl G' := by
  have e0zz : G' 0 = Gzz 0 := rzz 0 (by omega)
  have e6zz : G' 6 = Gzz 6 := rzz 6 (by omega)
  unfold WiL
  rw [e0zz, e6zz]
  refine ⟨hzz.1, fun jzz hj => ?_, hzz.2.2⟩
  rw [rzz (36 + jzz) (by omega)]
  exact hzz.2.1 jzz hj
set_option maxHeartbeats 200000 in
theorem LwE.eq {oc : Ob} {Gzz G' : Nat → Int32} {l : Nat} (hzz : LwE oc Gzz l) (ezz : ∀ jzz, 84 ≤ jzz → G' jzz = Gzz jzz) : LwE oc G' l := by
  obtain ⟨n, K1, K2, h1, h2, h3, h4, h5, h6, h7⟩ := hzz
  have a1zz : clL G' l = clL Gzz l := funext fun kzz => ezz _ (by omega)
  have a2 : opL G' l = opL Gzz l := funext fun kzz => ezz _ (by omega)
  have a3 : argL G' l = argL Gzz l := funext fun kzz => ezz _ (by omega)
  refine ⟨n, K1, K2, h1, h2, h3, h4, h5, by rw [ezz _ (by omega)]; exact h6, ?_⟩
  rw [a1zz, a2, a3]
  exact h7
set_option maxHeartbeats 200000 in
theorem LwP.eq {pl : List CR} {rzz : Option Nat} {Gzz G' : Nat → Int32} {lw : Int32} (hzz : LwP pl rzz Gzz lw) (ezz : ∀ jzz, 84 ≤ jzz → G' jzz = Gzz jzz) : LwP pl rzz G' lw := by
  rcases hzz with hzz | ⟨l, azz, czz, h1, h2, h3, h4, h5⟩
  · exact Or.inl hzz
  · exact Or.inr ⟨l, azz, czz, h1, h2, h3, h4, h5.eq ezz⟩
set_option maxHeartbeats 200000 in
theorem LwP.rw' {pl : List CR} {rzz : Option Nat} {Gzz G' : Nat → Int32} {n : Nat} (hzz : LwP pl rzz Gzz (Gzz 3)) (wzz : RwC n Gzz G') : LwP pl rzz G' (G' 3) := by
  rw [wzz 3 (by omega)]
  exact hzz.eq (fun jzz hj => wzz jzz (by omega))
set_option maxHeartbeats 200000 in
theorem lower_lp {czz isl mv : Ob} {pzz zzz : Int32} {Pzz : Nat} (eP : pzz.toInt = (Pzz : Int)) (hP : Pzz < 7) : ∀ (Nzz : Nat) (vzz : Int32) (izz : Nat), vzz.toInt = (izz : Int) → izz ≤ Pzz → (∀ qzz, qzz < izz → ¬ gA mv 0 qzz = gA mv 0 Pzz) → lp_X1_hasTradeOfLower_2 czz isl mv Nzz (pzz, vzz) = some zzz → (¬ zzz = 0 ∧ ∃ qzz, qzz < Pzz ∧ gA mv 0 qzz = gA mv 0 Pzz) ∨ (zzz = 0 ∧ ∀ qzz, qzz < Pzz → ¬ gA mv 0 qzz = gA mv 0 Pzz) := by
  intro Nzz
  induction Nzz with
  | zero => intro vzz izz _ _ _ hzz; cases hzz
  | succ Nzz ihzz =>
    intro vzz izz evzz hizz hno hzz
    have hzz : lb_X1_hasTradeOfLower_2 czz isl mv (lp_X1_hasTradeOfLower_2 czz isl mv Nzz) pzz vzz = some zzz := hzz
    unfold lb_X1_hasTradeOfLower_2 at hzz
    have ivzz : vzz.toNatClampNeg = izz := tnc_eq evzz
    have ip : pzz.toNatClampNeg = Pzz := tnc_eq eP
    rw [ivzz, ip] at hzz
    rcases z_if hzz with ⟨c0zz, hzz⟩ | ⟨c0zz, hzz⟩
    · have c0zz := cv_le (a := (Pzz : Int)) (b := (izz : Int)) eP evzz c0zz
      exact Or.inr ⟨(Option.some.inj hzz).symm, fun qzz hq => hno qzz (by omega)⟩
    · have c0zz := cv_nle (a := (Pzz : Int)) (b := (izz : Int)) eP evzz c0zz
      have hzz := (z_gd (z_gd hzz).2).2
      rcases z_if hzz with ⟨c1zz, hzz⟩ | ⟨c1zz, hzz⟩
      · have hzz := Option.some.inj hzz
        exact Or.inl ⟨by rw [← hzz]; decide, izz, by omega, c1zz⟩
      · obtain ⟨xzz, exzz, hzz⟩ := z_lt hzz
        refine ihzz xzz (izz + 1) (by rw [exzz]; exact Eq.trans (i32_add evzz (by decide : (1 : Int32).toInt = 1) (by omega) (by omega)) (by omega)) (by omega) (fun qzz hq => ?_) hzz
        by_cases wzz : qzz = izz
        · rw [wzz]; exact c1zz
        · exact hno qzz (by omega)
set_option maxHeartbeats 200000 in
theorem like_lp {o : Ob} {pzz zzz : Int32} {Pzz : Nat} (eP : pzz.toInt = (Pzz : Int)) (hP : Pzz < 7) : ∀ (Nzz : Nat) (s vzz : Int32) (izz : Nat), vzz.toInt = (izz : Int) → izz ≤ Pzz → ((¬ s = 0 ∧ ∃ qzz, qzz < Pzz ∧ gA o 3 (8 + qzz) = gA o 3 (8 + Pzz)) ∨ (s = 0 ∧ ∀ qzz, qzz < izz → ¬ gA o 3 (8 + qzz) = gA o 3 (8 + Pzz))) → lp_X9_hasLike_4 o Nzz (pzz, s, vzz) = some zzz → (¬ zzz = 0 ∧ ∃ qzz, qzz < Pzz ∧ gA o 3 (8 + qzz) = gA o 3 (8 + Pzz)) ∨ (zzz = 0 ∧ ∀ qzz, qzz < Pzz → ¬ gA o 3 (8 + qzz) = gA o 3 (8 + Pzz)) := by
  intro Nzz
  induction Nzz with
  | zero => intro s vzz izz _ _ _ hzz; cases hzz
  | succ Nzz ihzz =>
    intro s vzz izz evzz hizz hs hzz
    have hzz : lb_X9_hasLike_4 o (lp_X9_hasLike_4 o Nzz) pzz s vzz = some zzz := hzz
    unfold lb_X9_hasLike_4 at hzz
    have ivzz : ((8 : Int32) + vzz).toNatClampNeg = 8 + izz := tnc_eq (by rw [i32_add (by decide : (8 : Int32).toInt = 8) evzz (by omega) (by omega)]; omega)
    have ip : ((8 : Int32) + pzz).toNatClampNeg = 8 + Pzz := tnc_eq (by rw [i32_add (by decide : (8 : Int32).toInt = 8) eP (by omega) (by omega)]; omega)
    rw [ivzz, ip] at hzz
    have tx : (vzz + (1 : Int32)).toInt = ((izz + 1 : Nat) : Int) := Eq.trans (i32_add evzz (by decide : (1 : Int32).toInt = 1) (by omega) (by omega)) (by omega)
    rcases z_if hzz with ⟨c0zz, hzz⟩ | ⟨c0zz, hzz⟩
    · have c0zz := cv_le (a := (Pzz : Int)) (b := (izz : Int)) eP evzz c0zz
      have hzz := Option.some.inj (z_gd hzz).2
      rw [← hzz]
      rcases hs with hs | ⟨s1zz, s2zz⟩
      · exact Or.inl hs
      · exact Or.inr ⟨s1zz, fun qzz hq => s2zz qzz (by omega)⟩
    · have c0zz := cv_nle (a := (Pzz : Int)) (b := (izz : Int)) eP evzz c0zz
      rcases z_if hzz with ⟨c1zz, hzz⟩ | ⟨c1zz, hzz⟩
      · have hzz := (z_gd (z_gd hzz).2).2
        rcases z_if hzz with ⟨c2zz, hzz⟩ | ⟨c2zz, hzz⟩
        · unfold bk_X9_hasLike_34 bk_X9_hasLike_39 at hzz
          obtain ⟨xzz, exzz, hzz⟩ := z_lt hzz
          rw [← exzz] at tx
          exact ihzz 1 xzz (izz + 1) tx (by omega) (Or.inl ⟨by decide, izz, by omega, c2zz⟩) hzz
        · unfold bk_X9_hasLike_39 at hzz
          obtain ⟨xzz, exzz, hzz⟩ := z_lt hzz
          rw [← exzz] at tx
          refine ihzz 0 xzz (izz + 1) tx (by omega) (Or.inr ⟨rfl, fun qzz hq => ?_⟩) hzz
          by_cases wzz : qzz = izz
          · rw [wzz]; exact c2zz
          · rcases hs with ⟨gzz, -⟩ | ⟨-, gzz⟩
            · exact absurd c1zz gzz
            · exact gzz qzz (by omega)
      · unfold bk_X9_hasLike_34 bk_X9_hasLike_39 at hzz
        obtain ⟨xzz, exzz, hzz⟩ := z_lt hzz
        rw [← exzz] at tx
        rcases hs with ⟨-, gzz⟩ | ⟨gzz, -⟩
        · exact ihzz 1 xzz (izz + 1) tx (by omega) (Or.inl ⟨by decide, gzz⟩) hzz
        · exact absurd gzz c1zz
set_option maxHeartbeats 200000 in
theorem pass_lp {czz isl : Ob} {pl : List CR} {lz : Option Nat} {n : Nat} {yzz : Int32 × Ob × Ob} {y' : Int32 × Ob} :
    ∀ (Nzz N' : Nat) (t vzz : Int32) (mv mezz o : Ob) (izz mzz : Nat), vzz.toInt = (izz : Int) → izz ≤ n → t.toInt = (mzz : Int) → mzz ≤ izz → LwP pl lz (gA o 3) (gA o 3 3) → WiL isl (gA o 3) → TzM mv (gA o 3) → gI o 20 = 0 → (gA o 3 0).toInt = (n : Int) → (gA o 3 4).toInt < 999 → lp_X1_passedYear_12 czz isl pl Nzz (lz, t, vzz, mv, mezz) = some yzz → lp_X9_passIt_4 N' (t, vzz, o) = some y' → yzz.1 = y'.1 ∧ 0 ≤ y'.1.toInt ∧ TzM yzz.2.1 (gA y'.2 3) ∧ RwC n (gA o 3) (gA y'.2 3) := by
  intro Nzz
  induction Nzz with
  | zero => intro N' t vzz mv mezz o izz mzz _ _ _ _ _ _ _ _ _ _ h1; cases h1
  | succ Nzz ihzz =>
    intro N' t vzz mv mezz o izz mzz evzz hizz et hmzz hL hI hMzz h20 en hy h1 h2
    cases N' with
    | zero => cases h2
    | succ N' =>
    have hn7 : n ≤ 7 := by have := hI.1.2.2; omega
    have n0zz : (0 : Int32).toNatClampNeg = 0 := by decide
    have n4zz : (4 : Int32).toNatClampNeg = 4 := by decide
    have h1 : lb_X1_passedYear_12 czz isl pl (lp_X1_passedYear_12 czz isl pl Nzz) lz t vzz mv mezz = some yzz := h1
    have h2 : lb_X9_passIt_4 (lp_X9_passIt_4 N') t vzz o = some y' := h2
    unfold lb_X1_passedYear_12 at h1
    unfold lb_X9_passIt_4 at h2
    rw [n0zz, n4zz, ← hI.1.1] at h2
    by_cases c0zz : gI isl 7 ≤ vzz
    · have h1 := z_t h1 c0zz
      have h2 := z_t h2 c0zz
      obtain ⟨m2zz, g2, h1⟩ := z_lt h1
      obtain ⟨o1, k1zz, h2⟩ := z_lt h2
      have h1 := Option.some.inj h1
      have h2 := Option.some.inj h2
      have eG : gA o1 3 = upd (gA o 3) 4 (gA o 3 4 + 1) := by rw [k1zz]; rfl
      rw [← h1, ← h2]
      have hyr := hMzz.2.2.2.1
      have tyzz : (gA o 3 4 + (1 : Int32)).toInt = (gA o 3 4).toInt + 1 := i32_add rfl (by decide) (by omega) (by omega)
      refine ⟨rfl, by show 0 ≤ t.toInt; omega, ?_, ?_⟩
      · show TzM m2zz (gA o1 3)
        rw [g2, eG, hyr.1]
        exact hMzz.year ⟨by rw [tyzz]; omega, by rw [tyzz]; omega⟩
      · show RwC n (gA o 3) (gA o1 3)
        rw [eG]; exact RwC.up (by omega)
    · have h1 := z_f h1 c0zz
      have h2 := z_f h2 c0zz
      have c0zz := cv_nle (a := (n : Int)) (b := (izz : Int)) (by rw [hI.1.1]; exact en) evzz c0zz
      obtain ⟨z3, e3zz, h1⟩ := z_bd h1
      obtain ⟨w2zz, e2zz, h2⟩ := z_bd h2
      unfold f_X1_hasTradeOfLower at e3zz
      unfold f_X9_hasLike at e2zz
      have a1zz := lower_lp evzz (by omega) zfu 0 0 (by decide) (Nat.zero_le _) (fun qzz hq => absurd hq (by omega)) e3zz
      have a2 := like_lp evzz (by omega) zfu 0 0 0 (by decide) (Nat.zero_le _) (Or.inr ⟨rfl, fun qzz hq => absurd hq (by omega)⟩) e2zz
      have tx : (vzz + (1 : Int32)).toInt = ((izz + 1 : Nat) : Int) := Eq.trans (i32_add evzz (by decide : (1 : Int32).toInt = 1) (by omega) (by omega)) (by omega)
      have tr : ∀ qzz, qzz < 7 → gA mv 0 qzz = gA o 3 (8 + qzz) := fun qzz hq => (hMzz.1 qzz hq).1
      by_cases c1zz : w2zz = 0
      · have z30 : z3 = 0 := by
          rcases a1zz with ⟨-, qzz, hq, eq⟩ | ⟨uzz, -⟩
          · rcases a2 with ⟨uzz, -⟩ | ⟨-, uzz⟩
            · exact absurd c1zz uzz
            · exact absurd (by rw [← tr qzz (by omega), ← tr izz (by omega)]; exact eq) (uzz qzz hq)
          · exact uzz
        have h1 := z_t h1 z30
        have h2 := z_t h2 c1zz
        unfold bk_X1_passedYear_53 at h1
        unfold bk_X9_passIt_40 at h2
        obtain ⟨x1zz, q1zz, h1⟩ := z_lt h1
        obtain ⟨x2zz, q2zz, h2⟩ := z_lt h2
        have qx : x2zz = x1zz := q2zz.trans q1zz.symm
        rw [qx] at h2
        rw [← q1zz] at tx
        exact ihzz N' t x1zz mv mezz o (izz + 1) mzz tx (by omega) et (by omega) hL hI hMzz h20 en hy h1 h2
      · have z30 : ¬ z3 = 0 := by
          rcases a1zz with ⟨uzz, -⟩ | ⟨-, uzz⟩
          · exact uzz
          · rcases a2 with ⟨-, qzz, hq, eq⟩ | ⟨wzz, -⟩
            · exact absurd (by rw [tr qzz (by omega), tr izz (by omega)]; exact eq) (uzz qzz hq)
            · exact absurd wzz c1zz
        have h1 := z_f h1 z30
        have h2 := z_f h2 c1zz
        obtain ⟨z5, e5zz, h1⟩ := z_bd h1
        obtain ⟨w4zz, e4zz, h2⟩ := z_bd h2
        have hA : Asked pl lz isl mv o vzz 0 := ⟨hL, WtL.of hI hMzz, h20, ⟨izz, evzz, by rw [hI.1.1]; omega⟩, 0, by decide, by decide⟩
        obtain ⟨u1zz, u2zz⟩ := turns_eq hA e5zz e4zz
        have f4zz := fr_f_X9_turnsOf e4zz
        have h1 := (z_gd h1).2
        have h2 := (z_gd h2).2
        have ivzz : vzz.toNatClampNeg = izz := tnc_eq evzz
        have i8zz : ((8 : Int32) + vzz).toNatClampNeg = 8 + izz := tnc_eq (by rw [i32_add (by decide : (8 : Int32).toInt = 8) evzz (by omega) (by omega)]; omega)
        rw [ivzz, u1zz] at h1
        rw [i8zz] at h2
        obtain ⟨m7zz, g7, h1⟩ := z_lt h1
        obtain ⟨x8, q8zz, h1⟩ := z_lt h1
        obtain ⟨o6, k6zz, h2⟩ := z_lt h2
        obtain ⟨x7, q7zz, h2⟩ := z_lt h2
        have q78 : x7 = x8 := q7zz.trans q8zz.symm
        rw [q78] at h2
        unfold bk_X1_passedYear_53 at h1
        unfold bk_X9_passIt_40 at h2
        obtain ⟨x1zz, q1zz, h1⟩ := z_lt h1
        obtain ⟨x2zz, q2zz, h2⟩ := z_lt h2
        have qx : x2zz = x1zz := q2zz.trans q1zz.symm
        rw [qx] at h2
        rw [← q1zz] at tx
        have eG : gA o6 3 = upd (gA o 3) (8 + izz) w4zz.1 := by
          rw [k6zz]
          show upd (gA w4zz.2 3) (8 + izz) w4zz.1 = _
          rw [f4zz.A 3 rfl]
        have rw1 : RwC n (gA o 3) (gA o6 3) := by rw [eG]; exact RwC.up (by omega)
        have hM7 : TzM m7zz (gA o6 3) := by rw [g7, eG]; exact hMzz.trade (by omega) u2zz
        have e60 : gA o6 3 0 = gA o 3 0 := rw1 0 (by omega)
        have e64 : gA o6 3 4 = gA o 3 4 := by rw [eG, updA, if_neg (by omega)]
        obtain ⟨r1zz, r2, r3, r4⟩ := ihzz N' x8 x1zz m7zz z5.2 o6 (izz + 1) (mzz + 1) tx (by omega) (by rw [q8zz]; exact Eq.trans (i32_add et (by decide : (1 : Int32).toInt = 1) (by omega) (by omega)) (by omega)) (by omega) (hL.rw' rw1) (hI.rw' rw1) hM7 (by rw [k6zz]; exact (f4zz.I 20 rfl).trans h20) (by rw [e60]; exact en) (by rw [e64]; exact hy) h1 h2
        exact ⟨r1zz, r2, r3, rw1.tr r4⟩
set_option maxHeartbeats 200000 in
theorem pass_eq {czz isl mv mezz o : Ob} {pl : List CR} {n : Nat} {yzz : Int32 × Ob × Ob} {y' : Int32 × Ob} (hLW : ∀ zzz, f_X2_lawInForce isl = some zzz → LwP pl zzz (gA o 3) (gA o 3 3)) (hI : WiL isl (gA o 3)) (hMzz : TzM mv (gA o 3)) (h20 : gI o 20 = 0) (en : (gA o 3 0).toInt = (n : Int)) (hy : (gA o 3 4).toInt < 999) (h1 : f_X1_passedYear czz isl mv mezz pl = some yzz) (h2 : f_X9_passIt o = some y') : yzz.1 = y'.1 ∧ 0 ≤ y'.1.toInt ∧ TzM yzz.2.1 (gA y'.2 3) ∧ RwC n (gA o 3) (gA y'.2 3) := by
  unfold f_X1_passedYear at h1
  unfold f_X9_passIt at h2
  obtain ⟨lz, el, h1⟩ := z_bd h1
  exact pass_lp zfu zfu 0 0 mv mezz o 0 0 (by decide) (Nat.zero_le _) (by decide) (Nat.le_refl _) (hLW lz el) hI hMzz h20 en hy h1 h2
set_option maxHeartbeats 200000 in
theorem entr_eq {czz isl mv o o5zz : Ob} {pzz : Int32} {n Pzz : Nat} {yzz : Int32 × Ob} (hMzz : TzM mv (gA o 3)) (eP : pzz.toInt = (Pzz : Int)) (hP : Pzz < n) (hn : n ≤ 7) (h1 : f_X1_changedEntry czz isl mv pzz = some yzz) (e5zz : gA o5zz 3 = upd (gA o 3) (22 + Pzz) ((1 : Int32) - gA o 3 (22 + Pzz))) : yzz.1 = gA o5zz 3 (22 + Pzz) ∧ 0 ≤ (gA o5zz 3 (22 + Pzz)).toInt ∧ TzM yzz.2 (gA o5zz 3) ∧ RwC n (gA o 3) (gA o5zz 3) := by
  unfold f_X1_changedEntry at h1
  obtain ⟨m1zz, g1, h1⟩ := z_lt h1
  have h1 := Option.some.inj h1
  have ip : pzz.toNatClampNeg = Pzz := tnc_eq eP
  have btzz := bits_turn (Ezz := gI mv 2) hMzz.2.2.2.2.2 eP (by omega)
  have en : gA o 3 (22 + Pzz) = ((gI mv 2) >>> (pzz &&& 31)) &&& (1 : Int32) := by
    have wzz := hMzz.2.2.2.2.1 pzz (by omega) (by omega)
    rw [ip] at wzz; exact wzz
  have hM1 : TzM m1zz (gA o5zz 3) := by
    rw [g1, e5zz, en]
    exact hMzz.ent btzz.2 btzz.1 (by omega)
  have v1zz : ((gI m1zz 2) >>> (pzz &&& 31)) &&& (1 : Int32) = gA o5zz 3 (22 + Pzz) := by
    have wzz := hM1.2.2.2.2.1 pzz (by omega) (by omega)
    rw [ip] at wzz; exact wzz.symm
  rw [← h1]
  refine ⟨v1zz, ?_, hM1, by rw [e5zz]; exact RwC.up (by omega)⟩
  rw [← v1zz]
  exact (i32_and (x := (gI m1zz 2) >>> (pzz &&& 31)) (y := 1) (m := 1) (by decide)).1
set_option maxHeartbeats 200000 in
theorem take_eq {czz isl mv o o' : Ob} {pzz : Int32} {n Pzz : Nat} {yzz : Int32 × Ob} (hMzz : TzM mv (gA o 3)) (eP : pzz.toInt = (Pzz : Int)) (hP : Pzz < n) (hn : n ≤ 7) (h1 : f_X1_takenGap czz isl mv pzz = some yzz) (h2 : f_X9_takeIt o pzz = some o') : yzz.1 = gA o 3 7 ∧ 0 ≤ (gA o 3 7).toInt ∧ TzM yzz.2 (gA o' 3) ∧ RwC n (gA o 3) (gA o' 3) := by
  have n7 : (7 : Int32).toNatClampNeg = 7 := by decide
  have i15 : ((15 : Int32) + pzz).toNatClampNeg = 15 + Pzz := tnc_eq (by rw [i32_add (by decide : (15 : Int32).toInt = 15) eP (by omega) (by omega)]; omega)
  unfold f_X1_takenGap at h1
  unfold f_X9_takeIt at h2
  rw [n7, i15] at h2
  obtain ⟨x1zz, q1zz, h1⟩ := z_lt h1
  obtain ⟨z2, e2zz, h1⟩ := z_bd h1
  obtain ⟨m3zz, g3zz, h1⟩ := z_lt h1
  have h1 := Option.some.inj h1
  have h2 := (z_gd h2).2
  obtain ⟨w2zz, k2zz, h2⟩ := z_bd h2
  have h2 := (z_gd h2).2
  obtain ⟨o4zz, k4zz, h2⟩ := z_lt h2
  obtain ⟨o5zz, k5zz, h2⟩ := z_lt h2
  have h2 := Option.some.inj h2
  have hg := hMzz.2.2.1
  have x7 : x1zz = gA o 3 7 := by rw [q1zz]; exact hg.1
  rw [x7] at e2zz
  have eG : gA o5zz 3 = upd (upd (gA o 3) (15 + Pzz) w2zz) 7 0 := by rw [k5zz, k4zz]; rfl
  have hM2 := hMzz.prize eP (by omega) ⟨hg.2.1, hg.2.2⟩ e2zz k2zz
  rw [← h1, ← h2]
  refine ⟨x7, hg.2.1, ?_, ?_⟩
  · show TzM m3zz (gA o5zz 3)
    rw [g3zz, eG]
    exact hM2.gap (by decide)
  · show RwC n (gA o 3) (gA o5zz 3)
    rw [eG]
    exact RwC.tr (RwC.up (azz := 15 + Pzz) (by omega)) (RwC.up (azz := 7) (by omega))
set_option maxHeartbeats 200000 in
theorem TzM.ext {mv mv' : Ob} {Gzz G' : Nat → Int32} (hzz : TzM mv Gzz) (a0zz : ∀ jzz, jzz < 7 → gA mv' 0 jzz = gA mv 0 jzz) (a1zz : ∀ jzz, jzz < 7 → gA mv' 1 jzz = gA mv 1 jzz) (i2zz : gI mv' 2 = gI mv 2) (i3zz : gI mv' 3 = gI mv 3) (i4zz : gI mv' 4 = gI mv 4) (eg : ∀ jzz, 4 ≤ jzz → jzz < 29 → G' jzz = Gzz jzz) : TzM mv' G' := by
  refine ⟨fun jzz hj => ?_, fun jzz hj => ?_, ?_, ?_, hzz.2.2.2.2.1.of i2zz (fun jzz h1 h2 => eg jzz (by omega) h2), by rw [i2zz]; exact hzz.2.2.2.2.2⟩
  · rw [a0zz jzz hj, eg _ (by omega) (by omega)]; exact hzz.1 jzz hj
  · rw [a1zz jzz hj, eg _ (by omega) (by omega)]; exact hzz.2.1 jzz hj
  · rw [i3zz, eg 7 (by omega) (by omega)]; exact hzz.2.2.1
  · rw [i4zz, eg 4 (by omega) (by omega)]; exact hzz.2.2.2.1
def mvAt (gzz : Nat → Int32) (bzz : Nat) : Ob := (fun izz => if izz = 2 then gzz (bzz + 14) else if izz = 3 then gzz (bzz + 15) else gzz (bzz + 16), fun _ => 0, fun izz jzz => if izz = 0 then gzz (bzz + jzz) else gzz (bzz + 7 + jzz), fun _ _ => 0, fun _ _ => none)
def unAt (uzz : Nat → Int32) (kzz : Nat) : Nat → Int32 := fun jzz => uzz (25 * kzz + (jzz - 4))
def RwS (n : Nat) (Gzz Uzz : Nat → Int32) : Prop := ∀ jzz, (jzz = 5 ∨ jzz = 6 ∨ (15 + n ≤ jzz ∧ jzz < 22) ∨ (22 + n ≤ jzz ∧ jzz < 29)) → Uzz jzz = Gzz jzz
def PaE (pa o : Ob) (n : Nat) (Gzz : Nat → Int32) (s izz : Nat) : Prop := gA pa 0 s = gA o 7 izz ∧ (0 ≤ (gA o 7 izz).toInt ∧ (gA o 7 izz).toInt ≤ 3) ∧ TzM (mvAt (gA pa 1) (17 * s)) (unAt (gA o 6) izz) ∧ RwS n Gzz (unAt (gA o 6) izz)
def PaT (pa o : Ob) (n : Nat) (Gzz : Nat → Int32) : Prop := gI pa 3 = gI o 8 ∧ ∃ sz fi : Nat, (gI pa 3).toInt = (sz : Int) ∧ sz ≤ 16 ∧ (gI pa 2).toInt = (fi : Int) ∧ fi < 16 ∧ ∀ izz, izz < sz → PaE pa o n Gzz ((fi + izz) % 16) izz
set_option maxHeartbeats 200000 in
theorem PaE.mv {pa pa' o o' : Ob} {n : Nat} {Gzz G' : Nat → Int32} {s izz i' : Nat} (hzz : PaE pa o n Gzz s izz) (a0zz : gA pa' 0 s = gA pa 0 s) (a1zz : ∀ t, t < 17 → gA pa' 1 (17 * s + t) = gA pa 1 (17 * s + t)) (b7 : gA o' 7 i' = gA o 7 izz) (b6 : ∀ t, t < 25 → gA o' 6 (25 * i' + t) = gA o 6 (25 * izz + t)) (eg : ∀ jzz, (jzz = 5 ∨ jzz = 6 ∨ (15 + n ≤ jzz ∧ jzz < 22) ∨ (22 + n ≤ jzz ∧ jzz < 29)) → G' jzz = Gzz jzz) : PaE pa' o' n G' s i' := by
  refine ⟨by rw [a0zz, b7]; exact hzz.1, by rw [b7]; exact hzz.2.1, hzz.2.2.1.ext (fun jzz hj => a1zz jzz (by omega)) (fun jzz hj => ?_) (a1zz 14 (by omega)) (a1zz 15 (by omega)) (a1zz 16 (by omega)) (fun jzz h1 h2 => b6 (jzz - 4) (by omega)), fun jzz hj => ?_⟩
  · have wzz := a1zz (7 + jzz) (by omega)
    rw [← Nat.add_assoc] at wzz
    exact wzz
  · rw [eg jzz hj]
    exact (b6 (jzz - 4) (by omega)).trans (hzz.2.2.2 jzz hj)
set_option maxHeartbeats 200000 in
theorem PaT.rw' {pa o : Ob} {n : Nat} {Gzz G' : Nat → Int32} (hzz : PaT pa o n Gzz) (wzz : RwC n Gzz G') : PaT pa o n G' := by
  obtain ⟨h0, sz, fi, h1, h2, h3, h4, h5⟩ := hzz
  exact ⟨h0, sz, fi, h1, h2, h3, h4, fun izz hizz => (h5 izz hizz).mv rfl (fun _ _ => rfl) rfl (fun _ _ => rfl) (fun jzz hj => wzz jzz (by omega))⟩
set_option maxHeartbeats 200000 in
theorem PaT.eq {pa o o' : Ob} {n : Nat} {Gzz : Nat → Int32} (hzz : PaT pa o n Gzz) (e8 : gI o' 8 = gI o 8) (e6zz : gA o' 6 = gA o 6) (e7zz : gA o' 7 = gA o 7) : PaT pa o' n Gzz := by
  obtain ⟨h0, sz, fi, h1, h2, h3, h4, h5⟩ := hzz
  exact ⟨h0.trans e8.symm, sz, fi, h1, h2, h3, h4, fun izz hizz => (h5 izz hizz).mv rfl (fun _ _ => rfl) (by rw [e7zz]) (fun _ _ => by rw [e6zz]) (fun _ _ => rfl)⟩
set_option maxHeartbeats 200000 in
theorem rem16 : ∀ s, s < 32 → (Int32.ofNat s) - (Int32.ofNat s) / (16 : Int32) * (16 : Int32) = Int32.ofNat (s % 16) := by decide +kernel
set_option maxHeartbeats 200000 in
theorem rem16_of {xzz : Int32} {s : Nat} (hzz : xzz.toInt = (s : Int)) (hs : s < 32) : (xzz - xzz / (16 : Int32) * (16 : Int32)).toInt = ((s % 16 : Nat) : Int) := by
  rw [i32_of hzz (by omega), rem16 s hs]
  exact Int32.toInt_ofNat_of_lt (by omega)
def wrv (mv : Ob) (t : Nat) : Int32 := if t < 7 then gA mv 0 t else if t < 14 then gA mv 1 (t - 7) else if t = 14 then gI mv 2 else if t = 15 then gI mv 3 else gI mv 4
set_option maxHeartbeats 200000 in
theorem wr_desc {mv pa pa' : Ob} {pzz : Int32} {bzz : Nat} (eb : pzz.toInt = (bzz : Int)) (hbzz : bzz ≤ 255) (hzz : f_X4_writeTo_AX5_1 mv pa pzz = some pa') : pa'.1 = pa.1 ∧ gA pa' 0 = gA pa 0 ∧ ∀ jzz, gA pa' 1 jzz = if bzz ≤ jzz ∧ jzz < bzz + 17 then wrv mv (jzz - bzz) else gA pa 1 jzz := by
  have n0zz : (0 : Int32).toNatClampNeg = 0 := by decide
  have n7 : (7 : Int32).toNatClampNeg = 7 := by decide
  have ib : pzz.toNatClampNeg = bzz := tnc_eq eb
  have t7 : (pzz + (7 : Int32)).toInt = (bzz : Int) + 7 := i32_add eb (by decide) (by omega) (by omega)
  have i7zz : (pzz + (7 : Int32)).toNatClampNeg = bzz + 7 := tnc_eq (by rw [t7]; omega)
  have t17 : (pzz + (17 : Int32)).toInt = (bzz : Int) + 17 := i32_add eb (by decide) (by omega) (by omega)
  have i14 : ((pzz + (17 : Int32)) - (3 : Int32)).toNatClampNeg = bzz + 14 := tnc_eq (by rw [i32_sub t17 (by decide : (3 : Int32).toInt = 3) (by omega) (by omega)]; omega)
  have i15 : ((pzz + (17 : Int32)) - (2 : Int32)).toNatClampNeg = bzz + 15 := tnc_eq (by rw [i32_sub t17 (by decide : (2 : Int32).toInt = 2) (by omega) (by omega)]; omega)
  have i16 : ((pzz + (17 : Int32)) - (1 : Int32)).toNatClampNeg = bzz + 16 := tnc_eq (by rw [i32_sub t17 (by decide : (1 : Int32).toInt = 1) (by omega) (by omega)]; omega)
  unfold f_X4_writeTo_AX5_1 at hzz
  have hzz := z_f hzz (fun czz => by have czz := cv_lt (a := (bzz : Int)) (b := 0) eb (by decide) czz; omega)
  have hzz := z_t hzz (Int32.le_iff_toInt_le.mpr (by rw [eb]; have : (255 : Int32).toInt = 255 := (by decide); omega))
  rw [i14, i15, i16] at hzz
  have hzz := (z_gd hzz).2
  obtain ⟨o2, e2zz, hzz⟩ := z_lt hzz
  have hzz := (z_gd hzz).2
  obtain ⟨o4zz, e4zz, hzz⟩ := z_lt hzz
  have hzz := (z_gd hzz).2
  obtain ⟨o6, e6zz, hzz⟩ := z_lt hzz
  have hzz := (z_gd hzz).2
  obtain ⟨o8zz, e8, hzz⟩ := z_lt hzz
  have hzz := (z_gd hzz).2
  obtain ⟨o10, e10zz, hzz⟩ := z_lt hzz
  have hzz := Option.some.inj hzz
  unfold cA at e2zz e4zz
  rw [n0zz, n7, ib] at e2zz
  rw [n0zz, n7, i7zz] at e4zz
  subst e2zz e4zz e6zz e8 e10zz hzz
  refine ⟨rfl, rfl, fun jzz => ?_⟩
  clear t7 t17 i7zz i14 i15 i16 ib eb hbzz
  have t : gA (tA (tA (tA (sA (sA pa 1 (va_cpy (gA mv 0) (gA pa 1) 0 bzz 7)) 1 (va_cpy (gA mv 1) (gA (sA pa 1 (va_cpy (gA mv 0) (gA pa 1) 0 bzz 7)) 1) 0 (bzz + 7) 7)) 1 (bzz + 14) (gI mv 2)) 1 (bzz + 15) (gI mv 3)) 1 (bzz + 16) (gI mv 4)) 1 jzz = if jzz = bzz + 16 then gI mv 4 else if jzz = bzz + 15 then gI mv 3 else if jzz = bzz + 14 then gI mv 2 else if bzz + 7 ≤ jzz ∧ jzz < bzz + 7 + 7 then gA mv 1 (0 + (jzz - (bzz + 7))) else if bzz ≤ jzz ∧ jzz < bzz + 7 then gA mv 0 (0 + (jzz - bzz)) else gA pa 1 jzz := rfl
  refine t.trans ?_
  unfold wrv
  by_cases czz : bzz ≤ jzz ∧ jzz < bzz + 17
  · rw [if_pos czz]
    by_cases c1zz : jzz = bzz + 16
    · rw [if_pos c1zz, if_neg (by omega), if_neg (by omega), if_neg (by omega), if_neg (by omega)]
    · rw [if_neg c1zz]
      by_cases c2zz : jzz = bzz + 15
      · rw [if_pos c2zz, if_neg (by omega), if_neg (by omega), if_neg (by omega), if_pos (by omega)]
      · rw [if_neg c2zz]
        by_cases c3zz : jzz = bzz + 14
        · rw [if_pos c3zz, if_neg (by omega), if_neg (by omega), if_pos (by omega)]
        · rw [if_neg c3zz]
          by_cases c4zz : bzz + 7 ≤ jzz
          · have ej : 0 + (jzz - (bzz + 7)) = jzz - bzz - 7 := by omega
            rw [if_pos ⟨c4zz, by omega⟩, if_neg (by omega), if_pos (by omega), ej]
          · have ej : 0 + (jzz - bzz) = jzz - bzz := by omega
            rw [if_neg (by omega), if_pos ⟨czz.1, by omega⟩, if_pos (by omega), ej]
  · rw [if_neg czz, if_neg (by omega), if_neg (by omega), if_neg (by omega), if_neg (by omega), if_neg (by omega)]
set_option maxHeartbeats 200000 in
theorem keep_desc {pa mv pa' : Ob} {kzz : Int32} {sz fi : Nat} (e3zz : (gI pa 3).toInt = (sz : Int)) (h16zz : sz ≤ 16) (e2zz : (gI pa 2).toInt = (fi : Int)) (hf : fi < 16) (hzz : f_X5_keep_O pa mv kzz = some pa') :
    ∃ sz' fi' : Nat, ((sz = 16 ∧ sz' = 15 ∧ fi' = (fi + 1) % 16) ∨ (sz < 16 ∧ sz' = sz ∧ fi' = fi)) ∧ (gI pa' 3).toInt = (sz' : Int) + 1 ∧ (gI pa' 2).toInt = (fi' : Int) ∧ (∀ jzz, gA pa' 0 jzz = if jzz = (fi' + sz') % 16 then kzz else gA pa 0 jzz) ∧ (∀ jzz, gA pa' 1 jzz = if 17 * ((fi' + sz') % 16) ≤ jzz ∧ jzz < 17 * ((fi' + sz') % 16) + 17 then wrv mv (jzz - 17 * ((fi' + sz') % 16)) else gA pa 1 jzz) := by
  have mainzz : ∀ (qzz : Ob) (sz' fi' : Nat), (gI qzz 3).toInt = (sz' : Int) → sz' ≤ 15 → (gI qzz 2).toInt = (fi' : Int) → fi' < 16 → bk_X5_keep_O_32 mv kzz qzz = some pa' → (gI pa' 3).toInt = (sz' : Int) + 1 ∧ (gI pa' 2).toInt = (fi' : Int) ∧ (∀ jzz, gA pa' 0 jzz = if jzz = (fi' + sz') % 16 then kzz else gA qzz 0 jzz) ∧ (∀ jzz, gA pa' 1 jzz = if 17 * ((fi' + sz') % 16) ≤ jzz ∧ jzz < 17 * ((fi' + sz') % 16) + 17 then wrv mv (jzz - 17 * ((fi' + sz') % 16)) else gA qzz 1 jzz) := by
    intro qzz sz' fi' q3zz hs q2zz hf' hbzz
    unfold bk_X5_keep_O_32 at hbzz
    obtain ⟨x1zz, g1, hbzz⟩ := z_lt hbzz
    have hbzz := (z_gd hbzz).2
    obtain ⟨o3zz, g3zz, hbzz⟩ := z_lt hbzz
    obtain ⟨z4, g4, hbzz⟩ := z_bd hbzz
    obtain ⟨o5zz, g5zz, hbzz⟩ := z_lt hbzz
    have hbzz := Option.some.inj hbzz
    have tx : x1zz.toInt = (((fi' + sz') % 16 : Nat) : Int) := by
      rw [g1]
      exact rem16_of (s := fi' + sz') (by rw [i32_add q2zz q3zz (by omega) (by omega)]; omega) (by omega)
    have ix : x1zz.toNatClampNeg = (fi' + sz') % 16 := tnc_eq tx
    have tbzz : (x1zz * (17 : Int32)).toInt = ((17 * ((fi' + sz') % 16) : Nat) : Int) := by
      rw [i32_mul tx (by decide : (17 : Int32).toInt = 17) (by omega) (by omega)]; omega
    obtain ⟨w1zz, w2zz, w3zz⟩ := wr_desc tbzz (by omega) g4
    rw [ix] at g3zz
    have k3zz : gI z4 3 = gI qzz 3 := by
      show z4.1 3 = _
      rw [w1zz, g3zz]; rfl
    have k2zz : gI z4 2 = gI qzz 2 := by
      show z4.1 2 = _
      rw [w1zz, g3zz]; rfl
    rw [← hbzz, g5zz]
    refine ⟨?_, ?_, fun jzz => ?_, fun jzz => ?_⟩
    · show (gI z4 3 + (1 : Int32)).toInt = _
      rw [k3zz]; exact i32_add q3zz (by decide) (by omega) (by omega)
    · show (gI z4 2).toInt = _
      rw [k2zz]; exact q2zz
    · show gA z4 0 jzz = _
      rw [w2zz, g3zz]; rfl
    · show gA z4 1 jzz = _
      rw [w3zz, g3zz]; rfl
  unfold f_X5_keep_O at hzz
  rcases z_if hzz with ⟨czz, hzz⟩ | ⟨czz, hzz⟩
  · have czz := cv_eq (a := (sz : Int)) (b := 16) e3zz (by decide) czz
    obtain ⟨o6, g6, hzz⟩ := z_lt hzz
    obtain ⟨o7, g7, hzz⟩ := z_lt hzz
    have t2zz : (gI o7 2).toInt = (((fi + 1) % 16 : Nat) : Int) := by
      rw [g7, g6]
      exact rem16_of (s := fi + 1) (by rw [i32_add e2zz (by decide : (1 : Int32).toInt = 1) (by omega) (by omega)]; omega) (by omega)
    have t3zz : (gI o7 3).toInt = ((15 : Nat) : Int) := by
      rw [g7, g6]
      show (gI pa 3 - (1 : Int32)).toInt = _
      rw [i32_sub e3zz (by decide : (1 : Int32).toInt = 1) (by omega) (by omega)]; omega
    obtain ⟨r1zz, r2, r3, r4⟩ := mainzz o7 15 ((fi + 1) % 16) t3zz (Nat.le_refl _) t2zz (by omega) hzz
    refine ⟨15, (fi + 1) % 16, Or.inl ⟨by omega, rfl, rfl⟩, r1zz, r2, fun jzz => ?_, fun jzz => ?_⟩
    · rw [r3, g7, g6]; rfl
    · rw [r4, g7, g6]; rfl
  · have czz := cv_ne (a := (sz : Int)) (b := 16) e3zz (by decide) czz
    obtain ⟨r1zz, r2, r3, r4⟩ := mainzz pa sz fi e3zz (by omega) e2zz hf hzz
    exact ⟨sz, fi, Or.inr ⟨by omega, rfl, rfl⟩, r1zz, r2, r3, r4⟩
set_option maxHeartbeats 200000 in
theorem keepAll_lp {o' : Ob} {pzz : Int32} {mzz : Nat} (em : pzz.toInt = (mzz : Int)) (hmzz : mzz < 18) : ∀ (Nzz : Nat) (vzz : Int32) (o : Ob) (izz : Nat), vzz.toInt = (izz : Int) → izz ≤ 25 → lp_X9_keepAll_2 Nzz (pzz, vzz, o) = some o' → ∀ jzz, gA o' 6 jzz = if 25 * mzz + izz ≤ jzz ∧ jzz < 25 * mzz + 25 then gA o 3 (4 + (jzz - 25 * mzz)) else gA o 6 jzz := by
  intro Nzz
  induction Nzz with
  | zero => intro vzz o izz _ _ hzz; cases hzz
  | succ Nzz ihzz =>
    intro vzz o izz evzz hizz hzz jzz
    have hzz : lb_X9_keepAll_2 (lp_X9_keepAll_2 Nzz) pzz vzz o = some o' := hzz
    unfold lb_X9_keepAll_2 at hzz
    rcases z_if hzz with ⟨czz, hzz⟩ | ⟨czz, hzz⟩
    · have czz := cv_le (a := 25) (b := (izz : Int)) (by decide) evzz czz
      rw [← Option.some.inj hzz, if_neg (by omega)]
    · have czz := cv_nle (a := 25) (b := (izz : Int)) (by decide) evzz czz
      have i1zz : ((4 : Int32) + vzz).toNatClampNeg = 4 + izz := tnc_eq (by rw [i32_add (by decide : (4 : Int32).toInt = 4) evzz (by omega) (by omega)]; omega)
      have i2zz : (((25 : Int32) * pzz) + vzz).toNatClampNeg = 25 * mzz + izz := tnc_eq (by rw [i32_add (i32_mul (by decide : (25 : Int32).toInt = 25) em (by omega) (by omega)) evzz (by omega) (by omega)]; omega)
      rw [i1zz, i2zz] at hzz
      have hzz := (z_gd (z_gd hzz).2).2
      obtain ⟨o3zz, e3zz, hzz⟩ := z_lt hzz
      obtain ⟨x4zz, e4zz, hzz⟩ := z_lt hzz
      have wzz := ihzz x4zz o3zz (izz + 1) (by rw [e4zz]; exact Eq.trans (i32_add evzz (by decide : (1 : Int32).toInt = 1) (by omega) (by omega)) (by omega)) (by omega) hzz jzz
      have a6 : gA o3zz 6 jzz = if jzz = 25 * mzz + izz then gA o 3 (4 + izz) else gA o 6 jzz := by rw [e3zz]; rfl
      have a3 : gA o3zz 3 = gA o 3 := by rw [e3zz]; rfl
      rw [wzz, a3, a6]
      by_cases d : jzz = 25 * mzz + izz
      · have ej : 4 + (jzz - 25 * mzz) = 4 + izz := by omega
        rw [if_neg (by omega), if_pos d, if_pos (by omega), ej]
      · by_cases d2zz : 25 * mzz + izz ≤ jzz ∧ jzz < 25 * mzz + 25
        · rw [if_pos (by omega), if_pos d2zz]
        · rw [if_neg (by omega), if_neg d, if_neg d2zz]
set_option maxHeartbeats 200000 in
theorem putBack_lp {o' : Ob} {pzz : Int32} {mzz : Nat} (em : pzz.toInt = (mzz : Int)) (hmzz : mzz < 18) : ∀ (Nzz : Nat) (vzz : Int32) (o : Ob) (izz : Nat), vzz.toInt = (izz : Int) → izz ≤ 25 → lp_X9_putBack_2 Nzz (pzz, vzz, o) = some o' → ∀ jzz, gA o' 3 jzz = if 4 + izz ≤ jzz ∧ jzz < 29 then gA o 6 (25 * mzz + (jzz - 4)) else gA o 3 jzz := by
  intro Nzz
  induction Nzz with
  | zero => intro vzz o izz _ _ hzz; cases hzz
  | succ Nzz ihzz =>
    intro vzz o izz evzz hizz hzz jzz
    have hzz : lb_X9_putBack_2 (lp_X9_putBack_2 Nzz) pzz vzz o = some o' := hzz
    unfold lb_X9_putBack_2 at hzz
    rcases z_if hzz with ⟨czz, hzz⟩ | ⟨czz, hzz⟩
    · have czz := cv_le (a := 25) (b := (izz : Int)) (by decide) evzz czz
      rw [← Option.some.inj hzz, if_neg (by omega)]
    · have czz := cv_nle (a := 25) (b := (izz : Int)) (by decide) evzz czz
      have i1zz : ((4 : Int32) + vzz).toNatClampNeg = 4 + izz := tnc_eq (by rw [i32_add (by decide : (4 : Int32).toInt = 4) evzz (by omega) (by omega)]; omega)
      have i2zz : (((25 : Int32) * pzz) + vzz).toNatClampNeg = 25 * mzz + izz := tnc_eq (by rw [i32_add (i32_mul (by decide : (25 : Int32).toInt = 25) em (by omega) (by omega)) evzz (by omega) (by omega)]; omega)
      rw [i1zz, i2zz] at hzz
      have hzz := (z_gd (z_gd hzz).2).2
      obtain ⟨o3zz, e3zz, hzz⟩ := z_lt hzz
      obtain ⟨x4zz, e4zz, hzz⟩ := z_lt hzz
      have wzz := ihzz x4zz o3zz (izz + 1) (by rw [e4zz]; exact Eq.trans (i32_add evzz (by decide : (1 : Int32).toInt = 1) (by omega) (by omega)) (by omega)) (by omega) hzz jzz
      have a3 : gA o3zz 3 jzz = if jzz = 4 + izz then gA o 6 (25 * mzz + izz) else gA o 3 jzz := by rw [e3zz]; rfl
      have a6 : gA o3zz 6 = gA o 6 := by rw [e3zz]; rfl
      rw [wzz, a6, a3]
      by_cases d : jzz = 4 + izz
      · have ej : 25 * mzz + (jzz - 4) = 25 * mzz + izz := by omega
        rw [if_neg (by omega), if_pos d, if_pos (by omega), ej]
      · by_cases d2zz : 4 + izz ≤ jzz ∧ jzz < 29
        · rw [if_pos (by omega), if_pos d2zz]
        · rw [if_neg (by omega), if_neg d, if_neg d2zz]
set_option maxHeartbeats 200000 in
theorem rem_lp11 {o' : Ob} {kzz : Int32} : ∀ (Nzz : Nat) (vzz : Int32) (o : Ob) (izz : Nat), vzz.toInt = (izz : Int) → izz ≤ 375 → lp_X9_remember_11 Nzz (kzz, vzz, o) = some o' → ∃ o1, lp_X9_remember_41 zfu (kzz, 0, o1) = some o' ∧ (∀ jzz, gA o1 6 jzz = if izz ≤ jzz ∧ jzz < 375 then gA o 6 (jzz + 25) else gA o 6 jzz) ∧ gA o1 7 = gA o 7 ∧ gA o1 3 = gA o 3 ∧ gI o1 8 = gI o 8 := by
  intro Nzz
  induction Nzz with
  | zero => intro vzz o izz _ _ hzz; cases hzz
  | succ Nzz ihzz =>
    intro vzz o izz evzz hizz hzz
    have hzz : lb_X9_remember_11 (lp_X9_remember_11 Nzz) kzz vzz o = some o' := hzz
    unfold lb_X9_remember_11 at hzz
    rcases z_if hzz with ⟨czz, hzz⟩ | ⟨czz, hzz⟩
    · have czz := cv_le (a := 375) (b := (izz : Int)) (by decide) evzz czz
      exact ⟨o, hzz, fun jzz => by rw [if_neg (by omega)], rfl, rfl, rfl⟩
    · have czz := cv_nle (a := 375) (b := (izz : Int)) (by decide) evzz czz
      have i1zz : (vzz + (25 : Int32)).toNatClampNeg = izz + 25 := tnc_eq (by rw [i32_add evzz (by decide : (25 : Int32).toInt = 25) (by omega) (by omega)]; omega)
      have ivzz : vzz.toNatClampNeg = izz := tnc_eq evzz
      rw [i1zz, ivzz] at hzz
      have hzz := (z_gd (z_gd hzz).2).2
      obtain ⟨o3zz, e3zz, hzz⟩ := z_lt hzz
      obtain ⟨x4zz, e4zz, hzz⟩ := z_lt hzz
      obtain ⟨o1, r0, r1zz, r2, r3, r4⟩ := ihzz x4zz o3zz (izz + 1) (by rw [e4zz]; exact Eq.trans (i32_add evzz (by decide : (1 : Int32).toInt = 1) (by omega) (by omega)) (by omega)) (by omega) hzz
      have a6 : ∀ jzz, gA o3zz 6 jzz = if jzz = izz then gA o 6 (izz + 25) else gA o 6 jzz := fun jzz => by rw [e3zz]; rfl
      refine ⟨o1, r0, fun jzz => ?_, r2.trans (by rw [e3zz]; rfl), r3.trans (by rw [e3zz]; rfl), r4.trans (by rw [e3zz]; rfl)⟩
      rw [r1zz, a6, a6]
      by_cases d : jzz = izz
      · rw [if_neg (by omega), if_pos d, if_pos (by omega), d]
      · by_cases d2zz : izz ≤ jzz ∧ jzz < 375
        · rw [if_pos (by omega), if_neg (by omega), if_pos d2zz]
        · rw [if_neg (by omega), if_neg d, if_neg d2zz]
set_option maxHeartbeats 200000 in
theorem rem_lp41 {o' : Ob} {kzz : Int32} : ∀ (Nzz : Nat) (vzz : Int32) (o : Ob) (izz : Nat), vzz.toInt = (izz : Int) → izz ≤ 15 → lp_X9_remember_41 Nzz (kzz, vzz, o) = some o' → ∃ o1, bk_X9_remember_77 kzz o1 = some o' ∧ (∀ jzz, gA o1 7 jzz = if izz ≤ jzz ∧ jzz < 15 then gA o 7 (jzz + 1) else gA o 7 jzz) ∧ gA o1 6 = gA o 6 ∧ gA o1 3 = gA o 3 ∧ gI o1 8 = gI o 8 - 1 := by
  intro Nzz
  induction Nzz with
  | zero => intro vzz o izz _ _ hzz; cases hzz
  | succ Nzz ihzz =>
    intro vzz o izz evzz hizz hzz
    have hzz : lb_X9_remember_41 (lp_X9_remember_41 Nzz) kzz vzz o = some o' := hzz
    unfold lb_X9_remember_41 at hzz
    rcases z_if hzz with ⟨czz, hzz⟩ | ⟨czz, hzz⟩
    · have czz := cv_le (a := 15) (b := (izz : Int)) (by decide) evzz czz
      obtain ⟨o5zz, e5zz, hzz⟩ := z_lt hzz
      exact ⟨o5zz, hzz, fun jzz => by rw [if_neg (by omega), e5zz]; rfl, by rw [e5zz]; rfl, by rw [e5zz]; rfl, by rw [e5zz]; rfl⟩
    · have czz := cv_nle (a := 15) (b := (izz : Int)) (by decide) evzz czz
      have i1zz : (vzz + (1 : Int32)).toNatClampNeg = izz + 1 := tnc_eq (by rw [i32_add evzz (by decide : (1 : Int32).toInt = 1) (by omega) (by omega)]; omega)
      have ivzz : vzz.toNatClampNeg = izz := tnc_eq evzz
      rw [i1zz, ivzz] at hzz
      have hzz := (z_gd (z_gd hzz).2).2
      obtain ⟨o3zz, e3zz, hzz⟩ := z_lt hzz
      obtain ⟨x4zz, e4zz, hzz⟩ := z_lt hzz
      obtain ⟨o1, r0, r1zz, r2, r3, r4⟩ := ihzz x4zz o3zz (izz + 1) (by rw [e4zz]; exact Eq.trans (i32_add evzz (by decide : (1 : Int32).toInt = 1) (by omega) (by omega)) (by omega)) (by omega) hzz
      have a7 : ∀ jzz, gA o3zz 7 jzz = if jzz = izz then gA o 7 (izz + 1) else gA o 7 jzz := fun jzz => by rw [e3zz]; rfl
      refine ⟨o1, r0, fun jzz => ?_, r2.trans (by rw [e3zz]; rfl), r3.trans (by rw [e3zz]; rfl), r4.trans (by rw [e3zz]; rfl)⟩
      rw [r1zz, a7, a7]
      by_cases d : jzz = izz
      · rw [if_neg (by omega), if_pos d, if_pos (by omega), d]
      · by_cases d2zz : izz ≤ jzz ∧ jzz < 15
        · rw [if_pos (by omega), if_neg (by omega), if_pos d2zz]
        · rw [if_neg (by omega), if_neg d, if_neg d2zz]
set_option maxHeartbeats 200000 in
theorem rem77 {o o' : Ob} {kzz : Int32} {mzz : Nat} (em : (gI o 8).toInt = (mzz : Int)) (hmzz : mzz < 16) (hzz : bk_X9_remember_77 kzz o = some o') : (∀ jzz, gA o' 6 jzz = if 25 * mzz ≤ jzz ∧ jzz < 25 * mzz + 25 then gA o 3 (4 + (jzz - 25 * mzz)) else gA o 6 jzz) ∧ (∀ jzz, gA o' 7 jzz = if jzz = mzz then kzz else gA o 7 jzz) ∧ (gI o' 8).toInt = (mzz : Int) + 1 := by
  unfold bk_X9_remember_77 at hzz
  obtain ⟨z1, e1zz, hzz⟩ := z_bd hzz
  have f1zz := fr_f_X9_keepAll e1zz
  unfold f_X9_keepAll at e1zz
  have d1zz := keepAll_lp em (by omega) zfu 0 o 0 (by decide) (Nat.zero_le _) e1zz
  have hzz := (z_gd hzz).2
  obtain ⟨o3zz, e3zz, hzz⟩ := z_lt hzz
  obtain ⟨o4zz, e4zz, hzz⟩ := z_lt hzz
  have hzz := Option.some.inj hzz
  have k8zz : gI z1 8 = gI o 8 := f1zz.I 8 rfl
  have im : (gI z1 8).toNatClampNeg = mzz := tnc_eq (by rw [k8zz]; exact em)
  rw [im] at e3zz
  rw [← hzz]
  refine ⟨fun jzz => ?_, fun jzz => ?_, ?_⟩
  · have wzz := d1zz jzz
    rw [Nat.add_zero] at wzz
    rw [e4zz, e3zz]
    exact wzz
  · rw [e4zz, e3zz]
    show (if jzz = mzz then kzz else gA z1 7 jzz) = _
    rw [f1zz.A 7 rfl]
  · rw [e4zz, e3zz]
    show (gI z1 8 + (1 : Int32)).toInt = _
    rw [k8zz]; exact i32_add em (by decide) (by omega) (by omega)
set_option maxHeartbeats 200000 in
theorem rem_desc {o o' : Ob} {kzz : Int32} {sz : Nat} (e8 : (gI o 8).toInt = (sz : Int)) (h16zz : sz ≤ 16) (hzz : f_X9_remember o kzz = some o') :
    ∃ sz' d : Nat, ((sz = 16 ∧ sz' = 15 ∧ d = 1) ∨ (sz < 16 ∧ sz' = sz ∧ d = 0)) ∧ (gI o' 8).toInt = (sz' : Int) + 1 ∧ (∀ izz, izz < sz' → gA o' 7 izz = gA o 7 (izz + d) ∧ ∀ t, t < 25 → gA o' 6 (25 * izz + t) = gA o 6 (25 * (izz + d) + t)) ∧ gA o' 7 sz' = kzz ∧ (∀ t, t < 25 → gA o' 6 (25 * sz' + t) = gA o 3 (4 + t)) ∧ ∀ jzz, 400 ≤ jzz → gA o' 6 jzz = gA o 6 jzz := by
  unfold f_X9_remember at hzz
  rcases z_if hzz with ⟨czz, hzz⟩ | ⟨czz, hzz⟩
  · have czz := cv_eq (a := (sz : Int)) (b := 16) e8 (by decide) czz
    obtain ⟨o1, hzz, a1zz, a2, a3, a4⟩ := rem_lp11 zfu 0 o 0 (by decide) (Nat.zero_le _) hzz
    obtain ⟨o2, hzz, b1, b2, b3, b4⟩ := rem_lp41 zfu 0 o1 0 (by decide) (Nat.zero_le _) hzz
    have t8 : (gI o2 8).toInt = ((15 : Nat) : Int) := by
      rw [b4, a4, i32_sub e8 (by decide : (1 : Int32).toInt = 1) (by omega) (by omega)]; omega
    obtain ⟨r1zz, r2, r3⟩ := rem77 t8 (by decide) hzz
    refine ⟨15, 1, Or.inl ⟨by omega, rfl, rfl⟩, r3, fun izz hizz => ⟨?_, fun t ht => ?_⟩, by rw [r2, if_pos rfl], fun t ht => ?_, fun jzz hj => ?_⟩
    · rw [r2, if_neg (by omega), b1, if_pos (by omega), a2]
    · have ei : 25 * izz + t + 25 = 25 * (izz + 1) + t := by omega
      rw [r1zz, if_neg (by omega), b2, a1zz, if_pos (by omega), ei]
    · have et : 25 * 15 + t - 25 * 15 = t := by omega
      rw [r1zz, if_pos (by omega), b3, a3, et]
    · rw [r1zz, if_neg (by omega), b2, a1zz, if_neg (by omega)]
  · have czz := cv_ne (a := (sz : Int)) (b := 16) e8 (by decide) czz
    obtain ⟨r1zz, r2, r3⟩ := rem77 e8 (by omega) hzz
    refine ⟨sz, 0, Or.inr ⟨by omega, rfl, rfl⟩, r3, fun izz hizz => ⟨?_, fun t ht => ?_⟩, by rw [r2, if_pos rfl], fun t ht => ?_, fun jzz hj => ?_⟩
    · rw [r2, if_neg (by omega)]; rfl
    · rw [r1zz, if_neg (by omega)]; rfl
    · have et : 25 * sz + t - 25 * sz = t := by omega
      rw [r1zz, if_pos (by omega), et]
    · rw [r1zz, if_neg (by omega)]
set_option maxHeartbeats 200000 in
theorem keep_eq {pa mv pa' o o' : Ob} {kzz : Int32} {n : Nat} (hP : PaT pa o n (gA o 3)) (hMzz : TzM mv (gA o 3)) (hk : 0 ≤ kzz.toInt ∧ kzz.toInt ≤ 3) (h1 : f_X5_keep_O pa mv kzz = some pa') (h2 : f_X9_remember o kzz = some o') : PaT pa' o' n (gA o 3) := by
  obtain ⟨h0, sz, fi, e3zz, h16zz, e2zz, hf, hE⟩ := hP
  obtain ⟨sz1, fi1, q1zz, k3zz, k2zz, ka0, ka1⟩ := keep_desc e3zz h16zz e2zz hf h1
  obtain ⟨sz2, d, q2zz, m8zz, mold, m7zz, m6zz, -⟩ := rem_desc (by rw [← h0]; exact e3zz) h16zz h2
  have es : sz2 = sz1 := by omega
  subst es
  have hs15 : sz2 ≤ 15 := by omega
  have hfi : fi1 < 16 := by omega
  refine ⟨Int32.toInt_inj.mp (by rw [k3zz, m8zz]), sz2 + 1, fi1, by rw [k3zz]; omega, by omega, k2zz, hfi, fun izz hizz => ?_⟩
  by_cases czz : izz < sz2
  · have es : (fi1 + izz) % 16 = (fi + (izz + d)) % 16 := by omega
    have ns : (fi1 + izz) % 16 ≠ (fi1 + sz2) % 16 := by omega
    obtain ⟨u7, u6⟩ := mold izz czz
    have wzz := hE (izz + d) (by omega)
    rw [← es] at wzz
    refine wzz.mv (by rw [ka0, if_neg ns]) (fun t ht => ?_) u7 u6 (fun _ _ => rfl)
    rw [ka1, if_neg (by omega)]
  · have ei : izz = sz2 := by omega
    subst ei
    have n1zz : (fi1 + izz) % 16 < 16 := by omega
    refine ⟨by rw [ka0, if_pos rfl, m7zz], by rw [m7zz]; exact hk, hMzz.ext (fun jzz hj => ?_) (fun jzz hj => ?_) ?_ ?_ ?_ (fun jzz g1 g2 => ?_), fun jzz hj => ?_⟩
    · show gA pa' 1 (17 * ((fi1 + izz) % 16) + jzz) = _
      have et : 17 * ((fi1 + izz) % 16) + jzz - 17 * ((fi1 + izz) % 16) = jzz := by omega
      rw [ka1, if_pos (by omega), et]
      unfold wrv
      rw [if_pos hj]
    · show gA pa' 1 (17 * ((fi1 + izz) % 16) + 7 + jzz) = _
      have et : 17 * ((fi1 + izz) % 16) + 7 + jzz - 17 * ((fi1 + izz) % 16) = 7 + jzz := by omega
      have e7zz : 7 + jzz - 7 = jzz := by omega
      rw [ka1, if_pos (by omega), et]
      unfold wrv
      rw [if_neg (by omega), if_pos (by omega), e7zz]
    · show gA pa' 1 (17 * ((fi1 + izz) % 16) + 14) = _
      have et : 17 * ((fi1 + izz) % 16) + 14 - 17 * ((fi1 + izz) % 16) = 14 := by omega
      rw [ka1, if_pos (by omega), et]; rfl
    · show gA pa' 1 (17 * ((fi1 + izz) % 16) + 15) = _
      have et : 17 * ((fi1 + izz) % 16) + 15 - 17 * ((fi1 + izz) % 16) = 15 := by omega
      rw [ka1, if_pos (by omega), et]; rfl
    · show gA pa' 1 (17 * ((fi1 + izz) % 16) + 16) = _
      have et : 17 * ((fi1 + izz) % 16) + 16 - 17 * ((fi1 + izz) % 16) = 16 := by omega
      rw [ka1, if_pos (by omega), et]; rfl
    · have ej : 4 + (jzz - 4) = jzz := by omega
      exact (m6zz (jzz - 4) (by omega)).trans (by rw [ej])
    · have ej : 4 + (jzz - 4) = jzz := by omega
      exact (m6zz (jzz - 4) (by omega)).trans (by rw [ej])
set_option maxHeartbeats 200000 in
theorem rem_hi {pa o o' : Ob} {kzz : Int32} {n : Nat} {Gzz : Nat → Int32} (hP : PaT pa o n Gzz) (h2 : f_X9_remember o kzz = some o') : ∀ jzz, 400 ≤ jzz → gA o' 6 jzz = gA o 6 jzz := by
  obtain ⟨h0, sz, fi, e3zz, h16zz, -⟩ := hP
  obtain ⟨_, _, _, _, _, _, _, wzz⟩ := rem_desc (by rw [← h0]; exact e3zz) h16zz h2
  exact wzz
set_option maxHeartbeats 200000 in
theorem rd_desc {mv pa mv' : Ob} {pzz : Int32} {bzz : Nat} (eb : pzz.toInt = (bzz : Int)) (hbzz : bzz ≤ 255) (hzz : f_X4_readFrom_AX5_1 mv pa pzz = some mv') : (∀ jzz, jzz < 7 → gA mv' 0 jzz = gA pa 1 (bzz + jzz)) ∧ (∀ jzz, jzz < 7 → gA mv' 1 jzz = gA pa 1 (bzz + 7 + jzz)) ∧ gI mv' 2 = gA pa 1 (bzz + 14) ∧ gI mv' 3 = gA pa 1 (bzz + 15) ∧ gI mv' 4 = gA pa 1 (bzz + 16) := by
  have n0zz : (0 : Int32).toNatClampNeg = 0 := by decide
  have n7 : (7 : Int32).toNatClampNeg = 7 := by decide
  have ib : pzz.toNatClampNeg = bzz := tnc_eq eb
  have t7 : (pzz + (7 : Int32)).toInt = (bzz : Int) + 7 := i32_add eb (by decide) (by omega) (by omega)
  have i7zz : (pzz + (7 : Int32)).toNatClampNeg = bzz + 7 := tnc_eq (by rw [t7]; omega)
  have t17 : (pzz + (17 : Int32)).toInt = (bzz : Int) + 17 := i32_add eb (by decide) (by omega) (by omega)
  have i14 : ((pzz + (17 : Int32)) - (3 : Int32)).toNatClampNeg = bzz + 14 := tnc_eq (by rw [i32_sub t17 (by decide : (3 : Int32).toInt = 3) (by omega) (by omega)]; omega)
  have i15 : ((pzz + (17 : Int32)) - (2 : Int32)).toNatClampNeg = bzz + 15 := tnc_eq (by rw [i32_sub t17 (by decide : (2 : Int32).toInt = 2) (by omega) (by omega)]; omega)
  have i16 : ((pzz + (17 : Int32)) - (1 : Int32)).toNatClampNeg = bzz + 16 := tnc_eq (by rw [i32_sub t17 (by decide : (1 : Int32).toInt = 1) (by omega) (by omega)]; omega)
  unfold f_X4_readFrom_AX5_1 at hzz
  have hzz := z_f hzz (fun czz => by have czz := cv_lt (a := (bzz : Int)) (b := 0) eb (by decide) czz; omega)
  have hzz := z_t hzz (Int32.le_iff_toInt_le.mpr (by rw [eb]; have : (255 : Int32).toInt = 255 := (by decide); omega))
  rw [i14, i15, i16] at hzz
  have hzz := (z_gd hzz).2
  obtain ⟨o2, e2zz, hzz⟩ := z_lt hzz
  have hzz := (z_gd hzz).2
  obtain ⟨o4zz, e4zz, hzz⟩ := z_lt hzz
  have hzz := (z_gd hzz).2
  obtain ⟨o6, e6zz, hzz⟩ := z_lt hzz
  have hzz := (z_gd hzz).2
  obtain ⟨o8zz, e8, hzz⟩ := z_lt hzz
  have hzz := (z_gd hzz).2
  obtain ⟨o10, e10zz, hzz⟩ := z_lt hzz
  have hzz := Option.some.inj hzz
  unfold cA at e2zz e4zz
  rw [n0zz, n7, ib] at e2zz
  rw [n0zz, n7, i7zz] at e4zz
  subst e2zz e4zz e6zz e8 e10zz hzz
  refine ⟨fun jzz hj => ?_, fun jzz hj => ?_, rfl, rfl, rfl⟩
  · show (if 0 ≤ jzz ∧ jzz < 0 + 7 then gA pa 1 (bzz + (jzz - 0)) else gA mv 0 jzz) = _
    rw [if_pos (by omega)]; rfl
  · show (if 0 ≤ jzz ∧ jzz < 0 + 7 then gA pa 1 (bzz + 7 + (jzz - 0)) else _) = _
    rw [if_pos (by omega)]; rfl
def TzS (pl : List CR) (isl mv pa o : Ob) (n : Nat) : Prop := WiL isl (gA o 3) ∧ TzM mv (gA o 3) ∧ PaT pa o n (gA o 3) ∧ (∀ zzz, f_X2_lawInForce isl = some zzz → LwP pl zzz (gA o 3) (gA o 3 3)) ∧ gI o 20 = 0 ∧ (gA o 3 0).toInt = (n : Int) ∧ ∀ jzz, ((15 + n ≤ jzz ∧ jzz < 22) ∨ (22 + n ≤ jzz ∧ jzz < 29)) → gA o 3 jzz = 0
set_option maxHeartbeats 200000 in
theorem TzS.mv {pl : List CR} {isl mv pa o mv' pa' o' : Ob} {n : Nat} (hzz : TzS pl isl mv pa o n) (wzz : RwC n (gA o 3) (gA o' 3)) (hMzz : TzM mv' (gA o' 3)) (hP : PaT pa' o' n (gA o' 3)) (e20 : gI o' 20 = gI o 20) : TzS pl isl mv' pa' o' n := ⟨hzz.1.rw' wzz, hMzz, hP, fun zzz ez => (hzz.2.2.2.1 zzz ez).rw' wzz, e20.trans hzz.2.2.2.2.1, by rw [wzz 0 (by omega)]; exact hzz.2.2.2.2.2.1, fun jzz hj => (wzz jzz (by omega)).trans (hzz.2.2.2.2.2.2 jzz hj)⟩
set_option maxHeartbeats 200000 in
theorem TzS.sc {pl : List CR} {isl mv pa o o' : Ob} {n : Nat} (hzz : TzS pl isl mv pa o n) (e3zz : gA o' 3 = gA o 3) (e8 : gI o' 8 = gI o 8) (e6zz : gA o' 6 = gA o 6) (e7zz : gA o' 7 = gA o 7) (e20 : gI o' 20 = gI o 20) : TzS pl isl mv pa o' n := hzz.mv (by rw [e3zz]; exact RwC.rf) (by rw [e3zz]; exact hzz.2.1) (by rw [e3zz]; exact hzz.2.2.1.eq e8 e6zz e7zz) e20
def MvE (pl : List CR) (isl mv o : Ob) (n : Nat) (vzz v' : Int32) (mv' pa' o' : Ob) : Prop := vzz = v' ∧ TzS pl isl mv' pa' o' n ∧ RwC n (gA o 3) (gA o' 3) ∧ ((v' = -1 ∨ v' = -2 ∨ v' = -3) ∨ 0 ≤ v'.toInt) ∧ ∀ jzz, 400 ≤ jzz → gA o' 6 jzz = gA o 6 jzz
set_option maxHeartbeats 200000 in
theorem enter_move {pl : List CR} {isl mv pa czz mezz o : Ob} {n : Nat} {xzz : Int32} {yzz : Int32 × Ob × Ob × Ob × Ob} {y' : Int32 × Ob} (hSzz : TzS pl isl mv pa o n) (h1 : f_X1_moved_O czz isl mv mezz pl pa 1 xzz = some yzz) (h2 : f_X9_enterNow o xzz = some y') : MvE pl isl mv o n yzz.1 y'.1 yzz.2.2.1 yzz.2.2.2.2 y'.2 := by
  obtain ⟨hI, hMzz, hP, hL, h20, en, hZ⟩ := id hSzz
  have hn7 : n ≤ 7 := by have := hI.1.2.2; omega
  unfold f_X1_moved_O at h1
  have h1 := z_f (z_f h1 (by decide)) (by decide)
  obtain ⟨z1, e1zz, h1⟩ := z_bd h1
  unfold f_X9_enterNow at h2
  obtain ⟨w1zz, k1zz, h2⟩ := z_bd h2
  have p2zz := isP2 e1zz
  have p9zz := isP9 k1zz hI.1.2
  rw [hI.1.1] at p2zz
  rcases p9zz with ⟨q9zz, r9⟩ | ⟨q9zz, r9⟩
  · have q2zz : z1 = 0 := by
      rcases p2zz with ⟨qzz, -⟩ | ⟨-, qzz⟩
      · exact qzz
      · exact absurd qzz r9
    have h1 := z_t h1 q2zz
    unfold bk_X1_moved_O_116 bk_X1_moved_O_118 at h1
    have h1 := Option.some.inj (z_f h1 (by decide))
    have h2 := Option.some.inj (z_t h2 q9zz)
    rw [← h1, ← h2]
    exact ⟨rfl, hSzz, RwC.rf, Or.inl (Or.inr (Or.inl rfl)), fun _ _ => rfl⟩
  · have q2zz : ¬ z1 = 0 := by
      rcases p2zz with ⟨-, qzz⟩ | ⟨qzz, -⟩
      · exact absurd r9 qzz
      · exact qzz
    have h1 := z_f (z_f h1 q2zz) (by decide)
    unfold bk_X1_moved_O_115 bk_X1_moved_O_116 bk_X1_moved_O_118 at h1
    have h1 := z_t h1 rfl
    obtain ⟨pa2, e2zz, h1⟩ := z_bd h1
    unfold bk_X1_moved_O_142 at h1
    have h1 := z_t (z_f h1 (by decide)) rfl
    obtain ⟨z5, e5zz, h1⟩ := z_bd h1
    have h1 := Option.some.inj h1
    have h2 := z_f h2 q9zz
    obtain ⟨w2zz, k2zz, h2⟩ := z_bd h2
    have f2zz := fr_f_X9_remember k2zz
    have eG : gA w2zz 3 = gA o 3 := f2zz.A 3 rfl
    have h2 := (z_gd (z_gd h2).2).2
    obtain ⟨Pzz, eP⟩ : ∃ Pzz : Nat, xzz.toInt = (Pzz : Int) := ⟨xzz.toInt.toNat, by omega⟩
    have i22 : ((22 : Int32) + xzz).toNatClampNeg = 22 + Pzz := tnc_eq (by rw [i32_add (by decide : (22 : Int32).toInt = 22) eP (by omega) (by omega)]; omega)
    rw [i22] at h2
    obtain ⟨o5zz, k5zz, h2⟩ := z_lt h2
    have h2 := Option.some.inj (z_gd h2).2
    have e5G : gA o5zz 3 = upd (gA o 3) (22 + Pzz) ((1 : Int32) - gA o 3 (22 + Pzz)) := by rw [k5zz, ← eG]; rfl
    obtain ⟨r1zz, r2, r3, r4⟩ := entr_eq hMzz eP (by omega) hn7 e5zz e5G
    have hP2 := keep_eq hP hMzz (by decide) e2zz k2zz
    rw [← h1, ← h2]
    refine ⟨r1zz, hSzz.mv r4 r3 ?_ ?_, r4, Or.inr r2, fun jzz hj => ?_⟩
    · exact (hP2.rw' r4).eq (by rw [k5zz]; rfl) (by rw [k5zz]; rfl) (by rw [k5zz]; rfl)
    · rw [k5zz]; exact f2zz.I 20 rfl
    · rw [k5zz]; exact rem_hi hP k2zz jzz hj
set_option maxHeartbeats 200000 in
theorem take_move {pl : List CR} {isl mv pa czz mezz o : Ob} {n : Nat} {xzz : Int32} {yzz : Int32 × Ob × Ob × Ob × Ob} {y' : Int32 × Ob} (hSzz : TzS pl isl mv pa o n) (h1 : f_X1_moved_O czz isl mv mezz pl pa 2 xzz = some yzz) (h2 : f_X9_takeNow o xzz = some y') : MvE pl isl mv o n yzz.1 y'.1 yzz.2.2.1 yzz.2.2.2.2 y'.2 := by
  obtain ⟨hI, hMzz, hP, hL, h20, en, hZ⟩ := id hSzz
  have hn7 : n ≤ 7 := by have := hI.1.2.2; omega
  have n7 : (7 : Int32).toNatClampNeg = 7 := by decide
  unfold f_X1_moved_O at h1
  have h1 := z_f (z_f h1 (by decide)) (by decide)
  obtain ⟨z1, e1zz, h1⟩ := z_bd h1
  unfold f_X9_takeNow at h2
  rw [n7] at h2
  obtain ⟨w1zz, k1zz, h2⟩ := z_bd h2
  have p2zz := isP2 e1zz
  have p9zz := isP9 k1zz hI.1.2
  rw [hI.1.1] at p2zz
  rcases p9zz with ⟨q9zz, r9⟩ | ⟨q9zz, r9⟩
  · have q2zz : z1 = 0 := by
      rcases p2zz with ⟨qzz, -⟩ | ⟨-, qzz⟩
      · exact qzz
      · exact absurd qzz r9
    have h1 := z_t h1 q2zz
    unfold bk_X1_moved_O_116 bk_X1_moved_O_118 at h1
    have h1 := Option.some.inj (z_f h1 (by decide))
    have h2 := Option.some.inj (z_t h2 q9zz)
    rw [← h1, ← h2]
    exact ⟨rfl, hSzz, RwC.rf, Or.inl (Or.inr (Or.inl rfl)), fun _ _ => rfl⟩
  · have q2zz : ¬ z1 = 0 := by
      rcases p2zz with ⟨-, qzz⟩ | ⟨qzz, -⟩
      · exact absurd r9 qzz
      · exact qzz
    have h1 := z_t (z_f h1 q2zz) rfl
    have h2 := z_f h2 q9zz
    obtain ⟨x2zz, q7zz, h2⟩ := z_lt h2
    have e7zz : gI mv 3 = x2zz := by rw [q7zz]; exact hMzz.2.2.1.1
    rw [e7zz] at h1
    by_cases czz : x2zz = 0
    · have h1 := z_t h1 czz
      unfold bk_X1_moved_O_116 bk_X1_moved_O_118 at h1
      have h1 := Option.some.inj (z_f h1 (by decide))
      have h2 := Option.some.inj (z_t h2 czz)
      rw [← h1, ← h2]
      exact ⟨rfl, hSzz, RwC.rf, Or.inl (Or.inr (Or.inr rfl)), fun _ _ => rfl⟩
    · have h1 := z_f h1 czz
      unfold bk_X1_moved_O_115 bk_X1_moved_O_116 bk_X1_moved_O_118 at h1
      have h1 := z_t h1 rfl
      obtain ⟨pa2, e2zz, h1⟩ := z_bd h1
      unfold bk_X1_moved_O_142 at h1
      have h1 := z_t (z_f (z_f h1 (by decide)) (by decide)) rfl
      obtain ⟨z6, e6zz, h1⟩ := z_bd h1
      have h1 := Option.some.inj h1
      have h2 := z_f h2 czz
      obtain ⟨w3zz, k3zz, h2⟩ := z_bd h2
      have f3zz := fr_f_X9_remember k3zz
      have eG : gA w3zz 3 = gA o 3 := f3zz.A 3 rfl
      obtain ⟨w4zz, k4zz, h2⟩ := z_bd h2
      have f4zz := fr_f_X9_takeIt k4zz
      have h2 := Option.some.inj h2
      obtain ⟨Pzz, eP⟩ : ∃ Pzz : Nat, xzz.toInt = (Pzz : Int) := ⟨xzz.toInt.toNat, by omega⟩
      obtain ⟨r1zz, r2, r3, r4⟩ := take_eq (o := w3zz) (n := n) (by rw [eG]; exact hMzz) eP (by omega) hn7 e6zz k4zz
      rw [eG] at r1zz r2 r4
      have hP2 := keep_eq hP hMzz (by decide) e2zz k3zz
      rw [← h1, ← h2]
      refine ⟨r1zz.trans q7zz.symm, hSzz.mv r4 r3 ?_ ?_, r4, Or.inr (by show 0 ≤ x2zz.toInt; rw [q7zz]; exact r2), fun jzz hj => ?_⟩
      · exact (hP2.rw' r4).eq (f4zz.I 8 rfl) (f4zz.A 6 rfl) (f4zz.A 7 rfl)
      · exact (f4zz.I 20 rfl).trans (f3zz.I 20 rfl)
      · rw [f4zz.A 6 rfl]; exact rem_hi hP k3zz jzz hj
set_option maxHeartbeats 200000 in
theorem pass_move {pl : List CR} {isl mv pa czz mezz o : Ob} {n : Nat} {xzz : Int32} {yzz : Int32 × Ob × Ob × Ob × Ob} {y' : Int32 × Ob} (hSzz : TzS pl isl mv pa o n) (h1 : f_X1_moved_O czz isl mv mezz pl pa 3 xzz = some yzz) (h2 : f_X9_passNow o = some y') : MvE pl isl mv o n yzz.1 y'.1 yzz.2.2.1 yzz.2.2.2.2 y'.2 := by
  obtain ⟨hI, hMzz, hP, hL, h20, en, hZ⟩ := id hSzz
  have n4zz : (4 : Int32).toNatClampNeg = 4 := by decide
  have hy := hMzz.2.2.2.1
  unfold f_X1_moved_O at h1
  have h1 := z_t (z_f h1 (by decide)) rfl
  unfold f_X9_passNow at h2
  rw [n4zz] at h2
  rw [hy.1] at h1
  have z9 : (999 : Int32).toInt = 999 := by decide
  by_cases czz : gA o 3 4 = 999
  · have h1 := z_f h1 (fun qzz => by have qzz := cv_lt (a := (gA o 3 4).toInt) (b := 999) rfl z9 qzz; rw [czz, z9] at qzz; omega)
    unfold bk_X1_moved_O_71 bk_X1_moved_O_118 at h1
    have h1 := Option.some.inj (z_f h1 (by decide))
    have h2 := Option.some.inj (z_t h2 czz)
    rw [← h1, ← h2]
    exact ⟨rfl, hSzz, RwC.rf, Or.inl (Or.inr (Or.inr rfl)), fun _ _ => rfl⟩
  · have c' := cv_ne (a := (gA o 3 4).toInt) (b := 999) rfl z9 czz
    have h1 := z_t h1 (Int32.lt_iff_toInt_lt.mpr (by rw [z9]; omega))
    unfold bk_X1_moved_O_71 bk_X1_moved_O_118 at h1
    have h1 := z_t h1 rfl
    obtain ⟨pa2, e2zz, h1⟩ := z_bd h1
    unfold bk_X1_moved_O_142 at h1
    have h1 := z_f (z_f (z_f h1 (by decide)) (by decide)) (by decide)
    obtain ⟨z7, e7zz, h1⟩ := z_bd h1
    have h1 := Option.some.inj h1
    have h2 := z_f h2 czz
    obtain ⟨w1zz, k1zz, h2⟩ := z_bd h2
    have f1zz := fr_f_X9_remember k1zz
    have eG : gA w1zz 3 = gA o 3 := f1zz.A 3 rfl
    obtain ⟨w2zz, k2zz, h2⟩ := z_bd h2
    have f2zz := fr_f_X9_passIt k2zz
    have h2 := Option.some.inj h2
    obtain ⟨r1zz, r2, r3, r4⟩ := pass_eq (o := w1zz) (n := n) (by rw [eG]; exact hL) (by rw [eG]; exact hI) (by rw [eG]; exact hMzz) ((f1zz.I 20 rfl).trans h20) (by rw [eG]; exact en) (by rw [eG]; omega) e7zz k2zz
    rw [eG] at r4
    have hP2 := keep_eq hP hMzz (by decide) e2zz k1zz
    rw [← h1, ← h2]
    refine ⟨r1zz, hSzz.mv r4 r3 ?_ ?_, r4, Or.inr r2, fun jzz hj => ?_⟩
    · exact (hP2.rw' r4).eq (f2zz.I 8 rfl) (f2zz.A 6 rfl) (f2zz.A 7 rfl)
    · exact (f2zz.I 20 rfl).trans (f1zz.I 20 rfl)
    · rw [f2zz.A 6 rfl]; exact rem_hi hP k1zz jzz hj
set_option maxHeartbeats 200000 in
theorem race_move {pl : List CR} {isl mv pa czz mezz o : Ob} {n : Nat} {xzz : Int32} {yzz : Int32 × Ob × Ob × Ob × Ob} {y' : Int32 × Ob} (hSzz : TzS pl isl mv pa o n) (h1 : f_X1_moved_O czz isl mv mezz pl pa 0 xzz = some yzz) (h2 : f_X9_raceNow o xzz = some y') : MvE pl isl mv o n yzz.1 y'.1 yzz.2.2.1 yzz.2.2.2.2 y'.2 := by
  obtain ⟨hI, hMzz, hP, hL, h20, en, hZ⟩ := id hSzz
  unfold f_X1_moved_O at h1
  have h1 := z_t h1 rfl
  obtain ⟨z8, e8, h1⟩ := z_bd h1
  unfold f_X9_raceNow at h2
  obtain ⟨w1zz, k1zz, h2⟩ := z_bd h2
  rcases isR9 k1zz with ⟨q9zz, r9⟩ | ⟨q9zz, r9⟩
  · have q8zz : z8 = 0 := by
      rcases isR8 e8 with ⟨qzz, -⟩ | ⟨-, qzz⟩
      · exact qzz
      · exact absurd qzz r9
    have h1 := z_t h1 q8zz
    unfold bk_X1_moved_O_39 bk_X1_moved_O_118 at h1
    have h1 := Option.some.inj (z_f h1 (by decide))
    have h2 := Option.some.inj (z_t h2 q9zz)
    rw [← h1, ← h2]
    exact ⟨rfl, hSzz, RwC.rf, Or.inl (Or.inl rfl), fun _ _ => rfl⟩
  · have q8zz : ¬ z8 = 0 := by
      rcases isR8 e8 with ⟨-, qzz⟩ | ⟨qzz, -⟩
      · exact absurd r9 qzz
      · exact qzz
    have h1 := z_f h1 q8zz
    have h2 := z_f h2 q9zz
    obtain ⟨z9, e9zz, h1⟩ := z_bd h1
    obtain ⟨z10, e10zz, h1⟩ := z_bd h1
    obtain ⟨w2zz, k2zz, h2⟩ := z_bd h2
    have f2zz := fr_f_X9_layPlaces k2zz
    have eG : gA w2zz 3 = gA o 3 := f2zz.A 3 rfl
    obtain ⟨R, eR⟩ : ∃ R : Nat, xzz.toInt = (R : Int) := ⟨xzz.toInt.toNat, by omega⟩
    obtain ⟨kzz, hkn, hTzz, hz⟩ := line_eq (hL z9 e9zz) (WtL.of hI hMzz) hMzz.2.2.2.2.1 h20 en eR (by omega) e10zz k2zz
    rw [hz, hTzz.1] at h1
    have hS2 : TzS pl isl mv pa w2zz n := hSzz.sc eG (f2zz.I 8 rfl) (f2zz.A 6 rfl) (f2zz.A 7 rfl) (f2zz.I 20 rfl)
    have r0 : RwC n (gA o 3) (gA w2zz 3) := by rw [eG]; exact RwC.rf
    by_cases c0zz : gI w2zz 43 = 0
    · have h1 := z_t h1 c0zz
      unfold bk_X1_moved_O_39 bk_X1_moved_O_118 at h1
      have h1 := Option.some.inj (z_f h1 (by decide))
      have h2 := Option.some.inj (z_t h2 c0zz)
      rw [← h1, ← h2]
      exact ⟨rfl, hS2, r0, Or.inl (Or.inr (Or.inr rfl)), fun jzz _ => by rw [f2zz.A 6 rfl]⟩
    · have h1 := z_f h1 c0zz
      have h2 := z_f h2 c0zz
      unfold bk_X1_moved_O_39 bk_X1_moved_O_118 at h1
      have h1 := z_t h1 rfl
      obtain ⟨pa2, e2zz, h1⟩ := z_bd h1
      unfold bk_X1_moved_O_142 at h1
      have h1 := z_t h1 rfl
      obtain ⟨z4, e4zz, h1⟩ := z_bd h1
      have h1 := Option.some.inj h1
      obtain ⟨w3zz, k3zz, h2⟩ := z_bd h2
      have f3zz := fr_f_X9_remember k3zz
      obtain ⟨w4zz, k4zz, h2⟩ := z_bd h2
      have f4zz := fr_f_X9_raceIt k4zz
      have h2 := Option.some.inj h2
      have eG3 : gA w3zz 3 = gA o 3 := (f3zz.A 3 rfl).trans eG
      have hk : 1 ≤ kzz := by
        have wzz := hTzz.2.1
        rw [hTzz.1] at wzz
        have c1zz := cv_ne (a := (kzz : Int)) (b := 0) wzz (by decide) c0zz
        omega
      have hT3 : Lne z10.2.1 w3zz n kzz := hTzz.lne.eq (f3zz.I 43 rfl) (f3zz.A 42 rfl)
      obtain ⟨r1zz, r2, r3, r4⟩ := race_eq (o := w3zz) (n := n) (kzz := kzz) (by rw [eG3]; exact hL) (by rw [eG3]; exact WtL.of hI hMzz) (by rw [eG3]; exact hMzz) (((f3zz.I 20 rfl).trans (f2zz.I 20 rfl)).trans h20) (by rw [eG3]; exact en) eR (by omega) hT3 hk hkn e4zz k4zz
      rw [eG3] at r4
      have hP2 := keep_eq (o := w2zz) (n := n) hS2.2.2.1 (by rw [eG]; exact hMzz) (by decide) e2zz k3zz
      rw [eG] at hP2
      rw [← h1, ← h2]
      refine ⟨r1zz, hSzz.mv r4 r3 ?_ ?_, r4, Or.inr r2, fun jzz hj => ?_⟩
      · exact (hP2.rw' r4).eq (f4zz.I 8 rfl) (f4zz.A 6 rfl) (f4zz.A 7 rfl)
      · exact (f4zz.I 20 rfl).trans ((f3zz.I 20 rfl).trans (f2zz.I 20 rfl))
      · rw [f4zz.A 6 rfl, rem_hi hS2.2.2.1 k3zz jzz hj, f2zz.A 6 rfl]
set_option maxHeartbeats 200000 in
theorem act_move {pl : List CR} {isl mv pa czz mezz o : Ob} {n : Nat} {Kzz xzz : Int32} {yzz : Int32 × Ob × Ob × Ob × Ob} {y' : Int32 × Ob} (hSzz : TzS pl isl mv pa o n) (hKzz : Kzz = 0 ∨ Kzz = 1 ∨ Kzz = 2 ∨ Kzz = 3) (h1 : f_X1_moved_O czz isl mv mezz pl pa Kzz xzz = some yzz) (h2 : f_X9_act o Kzz xzz = some y') : MvE pl isl mv o n yzz.1 y'.1 yzz.2.2.1 yzz.2.2.2.2 y'.2 := by
  unfold f_X9_act at h2
  rcases hKzz with qzz | qzz | qzz | qzz <;> subst qzz
  · have h2 := z_t h2 rfl
    obtain ⟨wzz, kzz, h2⟩ := z_bd h2
    have h2 := Option.some.inj h2
    rw [← h2]
    exact race_move hSzz h1 kzz
  · have h2 := z_t (z_f h2 (by decide)) rfl
    obtain ⟨wzz, kzz, h2⟩ := z_bd h2
    have h2 := Option.some.inj h2
    rw [← h2]
    exact enter_move hSzz h1 kzz
  · have h2 := z_t (z_f (z_f h2 (by decide)) (by decide)) rfl
    obtain ⟨wzz, kzz, h2⟩ := z_bd h2
    have h2 := Option.some.inj h2
    rw [← h2]
    exact take_move hSzz h1 kzz
  · have h2 := z_f (z_f (z_f h2 (by decide)) (by decide)) (by decide)
    obtain ⟨wzz, kzz, h2⟩ := z_bd h2
    have h2 := Option.some.inj h2
    rw [← h2]
    exact pass_move hSzz h1 kzz
set_option maxHeartbeats 200000 in
theorem bring_eq {pl : List CR} {isl mv pa o o2 o3zz : Ob} {n : Nat} {zzz : Int32 × Ob × Ob} (hSzz : TzS pl isl mv pa o n) (h0 : ¬ gI pa 3 = 0) (h1 : f_X5_bringBack_O pa mv = some zzz) (e2zz : o2 = sI o 8 (gI o 8 - 1)) (h2 : f_X9_putBack o2 (gI o2 8) = some o3zz) : zzz.1 = gA o3zz 7 (gI o3zz 8).toNatClampNeg ∧ 0 ≤ zzz.1.toInt ∧ TzS pl isl zzz.2.2 zzz.2.1 o3zz n ∧ RwC n (gA o 3) (gA o3zz 3) := by
  obtain ⟨hI, hMzz, ⟨h08, sz, fi, e3zz, h16zz, ef, hf, hE⟩, hL, h20, en, hZ⟩ := id hSzz
  have hsz : 1 ≤ sz := by
    have := cv_ne (a := (sz : Int)) (b := 0) e3zz (by decide) h0
    omega
  unfold f_X5_bringBack_O at h1
  have h1 := z_f h1 h0
  obtain ⟨p1zz, g1, h1⟩ := z_lt h1
  obtain ⟨x2zz, g2, h1⟩ := z_lt h1
  obtain ⟨z3, k3zz, h1⟩ := z_bd h1
  have h1 := Option.some.inj (z_gd h1).2
  have t3zz : (gI p1zz 3).toInt = ((sz - 1 : Nat) : Int) := by
    rw [g1]
    show (gI pa 3 - (1 : Int32)).toInt = _
    rw [i32_sub e3zz (by decide : (1 : Int32).toInt = 1) (by omega) (by omega)]; omega
  have t2zz : (gI p1zz 2).toInt = (fi : Int) := by rw [g1]; exact ef
  have tx : x2zz.toInt = (((fi + (sz - 1)) % 16 : Nat) : Int) := by
    rw [g2]
    exact rem16_of (s := fi + (sz - 1)) (by rw [i32_add t2zz t3zz (by omega) (by omega)]; omega) (by omega)
  have ix : x2zz.toNatClampNeg = (fi + (sz - 1)) % 16 := tnc_eq tx
  have tbzz : (x2zz * (17 : Int32)).toInt = ((17 * ((fi + (sz - 1)) % 16) : Nat) : Int) := by
    rw [i32_mul tx (by decide : (17 : Int32).toInt = 17) (by omega) (by omega)]; omega
  obtain ⟨d0zz, d1zz, d2zz, d3zz, d4zz⟩ := rd_desc tbzz (by omega) k3zz
  have eA1 : gA p1zz 1 = gA pa 1 := by rw [g1]; rfl
  have eA0 : gA p1zz 0 = gA pa 0 := by rw [g1]; rfl
  rw [eA1] at d0zz d1zz d2zz d3zz d4zz
  have wzz := hE (sz - 1) (by omega)
  have t8 : (gI o2 8).toInt = ((sz - 1 : Nat) : Int) := by
    rw [e2zz]
    show (gI o 8 - (1 : Int32)).toInt = _
    rw [← h08, i32_sub e3zz (by decide : (1 : Int32).toInt = 1) (by omega) (by omega)]; omega
  have fpzz := fr_f_X9_putBack h2
  unfold f_X9_putBack at h2
  have dp := putBack_lp t8 (by omega) zfu 0 o2 0 (by decide) (Nat.zero_le _) h2
  have e23zz : gA o2 3 = gA o 3 := by rw [e2zz]; rfl
  have e26zz : gA o2 6 = gA o 6 := by rw [e2zz]; rfl
  rw [e23zz, e26zz] at dp
  have rw1 : RwC n (gA o 3) (gA o3zz 3) := by
    intro jzz hj
    rw [dp]
    by_cases czz : 4 + 0 ≤ jzz ∧ jzz < 29
    · rw [if_pos czz]
      exact wzz.2.2.2 jzz (by omega)
    · rw [if_neg czz]
  have e37 : gA o3zz 7 = gA o 7 := (fpzz.A 7 rfl).trans (by rw [e2zz]; rfl)
  have e38 : gI o3zz 8 = gI o2 8 := fpzz.I 8 rfl
  have e36 : gA o3zz 6 = gA o 6 := (fpzz.A 6 rfl).trans e26zz
  have i8zz : (gI o3zz 8).toNatClampNeg = sz - 1 := tnc_eq (by rw [e38]; exact t8)
  have hv : gA p1zz 0 x2zz.toNatClampNeg = gA o3zz 7 (gI o3zz 8).toNatClampNeg := by rw [ix, i8zz, eA0, e37]; exact wzz.1
  rw [← h1]
  refine ⟨hv, ?_, hSzz.mv rw1 (wzz.2.2.1.ext d0zz d1zz d2zz d3zz d4zz (fun jzz j1 j2zz => ?_)) ?_ ?_, rw1⟩
  · show 0 ≤ (gA p1zz 0 x2zz.toNatClampNeg).toInt
    rw [hv, i8zz, e37]; exact wzz.2.1.1
  · rw [dp, if_pos ⟨by omega, j2zz⟩]; rfl
  · refine PaT.rw' (Gzz := gA o 3) ⟨Int32.toInt_inj.mp (by rw [t3zz, e38, t8]), sz - 1, fi, t3zz, by omega, t2zz, hf, fun izz hizz => ?_⟩ rw1
    exact (hE izz (by omega)).mv (by rw [eA0]) (fun t _ => by rw [eA1]) (by rw [e37]) (fun t _ => by rw [e36]) (fun _ _ => rfl)
  · rw [fpzz.I 20 rfl, e2zz]; rfl
def smf (fzz : Nat → Int) : Nat → Int
  | 0 => 0
  | n + 1 => smf fzz n + fzz n
set_option maxHeartbeats 200000 in
theorem smf_z {fzz : Nat → Int} {n : Nat} (hn : n ≤ 7) (hz : ∀ jzz, n ≤ jzz → jzz < 7 → fzz jzz = 0) : smf fzz n = smf fzz 7 := by
  have step : ∀ kzz, n + kzz ≤ 7 → smf fzz (n + kzz) = smf fzz n := by
    intro kzz
    induction kzz with
    | zero => intro _; rfl
    | succ kzz ihzz =>
      intro hzz
      show smf fzz (n + kzz) + fzz (n + kzz) = smf fzz n
      rw [ihzz (by omega), hz (n + kzz) (by omega) (by omega)]; omega
  have wzz := step (7 - n) (by omega)
  have ezz : n + (7 - n) = 7 := by omega
  rw [ezz] at wzz
  exact wzz.symm
set_option maxHeartbeats 200000 in
theorem smf_rg {fzz : Nat → Int} {M : Int} : ∀ n, (∀ jzz, jzz < n → 0 ≤ fzz jzz ∧ fzz jzz ≤ M) → 0 ≤ smf fzz n ∧ smf fzz n ≤ M * (n : Int) := by
  intro n
  induction n with
  | zero => intro _; exact ⟨Int.le_refl _, by show (0 : Int) ≤ _; omega⟩
  | succ n ihzz =>
    intro hzz
    have wzz := ihzz (fun jzz hj => hzz jzz (by omega))
    have vzz := hzz n (by omega)
    have ezz : M * ((n + 1 : Nat) : Int) = M * (n : Int) + M := by rw [Int.natCast_succ, Int.mul_add, Int.mul_one]
    show 0 ≤ smf fzz n + fzz n ∧ smf fzz n + fzz n ≤ _
    rw [ezz]
    omega
set_option maxHeartbeats 200000 in
theorem sumOf_lp {o : Ob} {pzz qzz yzz : Int32} {azz n : Nat} (ea : pzz.toInt = (azz : Int)) (hazz : azz ≤ 22) (eq : qzz.toInt = (n : Int)) (hn : n ≤ 7) (hr : ∀ jzz, jzz < n → 0 ≤ (gA o 3 (azz + jzz)).toInt ∧ (gA o 3 (azz + jzz)).toInt ≤ 999) :
    ∀ (Nzz : Nat) (v3 v4zz : Int32) (izz : Nat), v4zz.toInt = (izz : Int) → izz ≤ n → v3.toInt = smf (fun jzz => (gA o 3 (azz + jzz)).toInt) izz → lp_X9_sumOf_5 o Nzz (pzz, qzz, v3, v4zz) = some yzz → yzz.toInt = smf (fun jzz => (gA o 3 (azz + jzz)).toInt) n := by
  intro Nzz
  induction Nzz with
  | zero => intro v3 v4zz izz _ _ _ hzz; cases hzz
  | succ Nzz ihzz =>
    intro v3 v4zz izz e4zz hizz e3zz hzz
    have hzz : lb_X9_sumOf_5 o (lp_X9_sumOf_5 o Nzz) pzz qzz v3 v4zz = some yzz := hzz
    unfold lb_X9_sumOf_5 at hzz
    rcases z_if hzz with ⟨czz, hzz⟩ | ⟨czz, hzz⟩
    · have czz := cv_le (a := (n : Int)) (b := (izz : Int)) eq e4zz czz
      have ei : izz = n := by omega
      rw [← Option.some.inj hzz, e3zz, ei]
    · have czz := cv_nle (a := (n : Int)) (b := (izz : Int)) eq e4zz czz
      have ix : (pzz + v4zz).toNatClampNeg = azz + izz := tnc_eq (by rw [i32_add ea e4zz (by omega) (by omega)]; omega)
      rw [ix] at hzz
      have hzz := (z_gd hzz).2
      obtain ⟨x2zz, g2, hzz⟩ := z_lt hzz
      obtain ⟨x3, g3zz, hzz⟩ := z_lt hzz
      have rg := smf_rg (fzz := fun jzz => (gA o 3 (azz + jzz)).toInt) (M := 999) izz (fun jzz hj => hr jzz (by omega))
      have ri := hr izz (by omega)
      refine ihzz x2zz x3 (izz + 1) (by rw [g3zz]; exact Eq.trans (i32_add e4zz (by decide : (1 : Int32).toInt = 1) (by omega) (by omega)) (by omega)) (by omega) ?_ hzz
      rw [g2]
      show (v3 + gA o 3 (azz + izz)).toInt = smf (fun jzz => (gA o 3 (azz + jzz)).toInt) izz + (gA o 3 (azz + izz)).toInt
      exact i32_add e3zz rfl (by omega) (by omega)
def pop7 (ezz : Nat) : Nat := ezz % 2 + (ezz / 2) % 2 + (ezz / 4) % 2 + (ezz / 8) % 2 + (ezz / 16) % 2 + (ezz / 32) % 2 + (ezz / 64) % 2
set_option maxHeartbeats 200000 in
theorem bc_all : ∀ ezz, ezz < 128 → f_J6_bitCount_0f7a4 (Int32.ofNat ezz) = some (Int32.ofNat (pop7 ezz)) := by decide +kernel
set_option maxHeartbeats 200000 in
theorem bit_all : ∀ ezz, ezz < 128 → ∀ jzz, jzz < 7 → (((Int32.ofNat ezz) >>> ((Int32.ofNat jzz) &&& 31)) &&& (1 : Int32)).toInt = (((ezz / 2 ^ jzz) % 2 : Nat) : Int) := by decide +kernel
set_option maxHeartbeats 200000 in
theorem ent_bit {mv : Ob} {Gzz : Nat → Int32} {ezz jzz : Nat} (hE : EnT mv Gzz) (ee : (gI mv 2).toInt = (ezz : Int)) (he : ezz < 128) (hj : jzz < 7) : (Gzz (22 + jzz)).toInt = (((ezz / 2 ^ jzz) % 2 : Nat) : Int) := by
  have ej : (Int32.ofNat jzz).toInt = (jzz : Int) := Int32.toInt_ofNat_of_lt (by omega)
  have wzz := hE (Int32.ofNat jzz) (by rw [ej]; omega) (by rw [ej]; omega)
  have ij : (Int32.ofNat jzz).toNatClampNeg = jzz := tnc_eq ej
  rw [ij] at wzz
  rw [wzz, i32_of ee (by omega)]
  exact bit_all ezz he jzz hj
set_option maxHeartbeats 200000 in
theorem ones_eq {mv o : Ob} {n : Nat} {zzz wzz : Int32} (hMzz : TzM mv (gA o 3)) (hn : n ≤ 7) (en : (gA o 3 0).toInt = (n : Int)) (hZ : ∀ jzz, ((15 + n ≤ jzz ∧ jzz < 22) ∨ (22 + n ≤ jzz ∧ jzz < 29)) → gA o 3 jzz = 0) (h1 : f_J6_bitCount_0f7a4 (gI mv 2) = some zzz) (h2 : f_X9_enteredOnes o = some wzz) : zzz = wzz := by
  have hbzz := hMzz.2.2.2.2.2
  obtain ⟨ezz, ee⟩ : ∃ ezz : Nat, (gI mv 2).toInt = (ezz : Int) := ⟨(gI mv 2).toInt.toNat, by omega⟩
  have n0zz : (0 : Int32).toNatClampNeg = 0 := by decide
  rw [i32_of ee (by omega), bc_all ezz (by omega)] at h1
  have h1 := Option.some.inj h1
  unfold f_X9_enteredOnes at h2
  rw [n0zz] at h2
  obtain ⟨z1, e1zz, h2⟩ := z_bd h2
  have h2 := Option.some.inj h2
  unfold f_X9_sumOf at e1zz
  have btzz : ∀ jzz, jzz < 7 → (gA o 3 (22 + jzz)).toInt = (((ezz / 2 ^ jzz) % 2 : Nat) : Int) := fun jzz hj => ent_bit hMzz.2.2.2.2.1 ee (by omega) hj
  have s := sumOf_lp (azz := 22) (by decide) (by decide) en hn (fun jzz hj => by rw [btzz jzz (by omega)]; omega) zfu 0 0 0 (by decide) (Nat.zero_le _) rfl e1zz
  rw [smf_z hn (fun jzz h1 h2 => by show (gA o 3 (22 + jzz)).toInt = 0; rw [hZ (22 + jzz) (by omega)]; decide)] at s
  have s7 : smf (fun jzz => (gA o 3 (22 + jzz)).toInt) 7 = ((pop7 ezz : Nat) : Int) := by
    show 0 + (gA o 3 (22 + 0)).toInt + (gA o 3 (22 + 1)).toInt + (gA o 3 (22 + 2)).toInt + (gA o 3 (22 + 3)).toInt + (gA o 3 (22 + 4)).toInt + (gA o 3 (22 + 5)).toInt + (gA o 3 (22 + 6)).toInt = _
    rw [btzz 0 (by omega), btzz 1 (by omega), btzz 2 (by omega), btzz 3 (by omega), btzz 4 (by omega), btzz 5 (by omega), btzz 6 (by omega)]
    unfold pop7
    simp only [Nat.reducePow, Nat.div_one]
    omega
  have lp : pop7 ezz ≤ 7 := by unfold pop7; omega
  rw [← h1, ← h2]
  exact Int32.toInt_inj.mp (by rw [s, s7]; exact Int32.toInt_ofNat_of_lt (by omega))
set_option maxHeartbeats 200000 in
theorem ow_lp {isl mv zzz : Ob} : ∀ (Nzz : Nat) (vzz : Int32) (o : Ob) (izz : Nat), vzz.toInt = (izz : Int) → izz ≤ 7 → lp_X3_setOrderWords_O_59 isl mv Nzz (vzz, o) = some zzz → (∀ kzz, kzz < 5 → gA zzz 0 kzz = gA o 0 kzz) ∧ (∀ pzz, pzz < izz → gA zzz 0 (5 + pzz) = gA o 0 (5 + pzz) ∧ gA zzz 0 (12 + pzz) = gA o 0 (12 + pzz)) ∧ ∀ pzz : Nat, izz ≤ pzz → pzz < 7 → (((pzz : Int) < (gI isl 7).toInt ∧ gA zzz 0 (5 + pzz) = gA mv 1 pzz ∧ gA zzz 0 (12 + pzz) = gA mv 0 pzz) ∨ ((gI isl 7).toInt ≤ (pzz : Int) ∧ gA zzz 0 (5 + pzz) = -1 ∧ gA zzz 0 (12 + pzz) = -1)) := by
  intro Nzz
  induction Nzz with
  | zero => intro vzz o izz _ _ hzz; cases hzz
  | succ Nzz ihzz =>
    intro vzz o izz evzz hizz hzz
    have hzz : lb_X3_setOrderWords_O_59 isl mv (lp_X3_setOrderWords_O_59 isl mv Nzz) vzz o = some zzz := hzz
    unfold lb_X3_setOrderWords_O_59 at hzz
    rcases z_if hzz with ⟨czz, hzz⟩ | ⟨czz, hzz⟩
    · have czz := cv_le (a := 7) (b := (izz : Int)) (by decide) evzz czz
      have hzz := Option.some.inj hzz
      subst hzz
      exact ⟨fun _ _ => rfl, fun _ _ => ⟨rfl, rfl⟩, fun pzz h1 h2 => absurd h1 (by omega)⟩
    · have czz := cv_nle (a := 7) (b := (izz : Int)) (by decide) evzz czz
      have i5zz : ((5 : Int32) + vzz).toNatClampNeg = 5 + izz := tnc_eq (by rw [i32_add (by decide : (5 : Int32).toInt = 5) evzz (by omega) (by omega)]; omega)
      have i12zz : ((12 : Int32) + vzz).toNatClampNeg = 12 + izz := tnc_eq (by rw [i32_add (by decide : (12 : Int32).toInt = 12) evzz (by omega) (by omega)]; omega)
      have ivzz : vzz.toNatClampNeg = izz := tnc_eq evzz
      have gozz : ∀ (s0zz s1zz : Int32), ((((izz : Nat) : Int) < (gI isl 7).toInt ∧ s0zz = gA mv 1 izz ∧ s1zz = gA mv 0 izz) ∨ ((gI isl 7).toInt ≤ (izz : Int) ∧ s0zz = -1 ∧ s1zz = -1)) → ∀ o9, o9 = tA o 0 (5 + izz) s0zz → bk_X3_setOrderWords_O_130 isl mv (lp_X3_setOrderWords_O_59 isl mv Nzz) vzz s1zz ((12 : Int32) + vzz) o9 = some zzz → (∀ kzz, kzz < 5 → gA zzz 0 kzz = gA o 0 kzz) ∧ (∀ pzz, pzz < izz → gA zzz 0 (5 + pzz) = gA o 0 (5 + pzz) ∧ gA zzz 0 (12 + pzz) = gA o 0 (12 + pzz)) ∧ ∀ pzz : Nat, izz ≤ pzz → pzz < 7 → (((pzz : Int) < (gI isl 7).toInt ∧ gA zzz 0 (5 + pzz) = gA mv 1 pzz ∧ gA zzz 0 (12 + pzz) = gA mv 0 pzz) ∨ ((gI isl 7).toInt ≤ (pzz : Int) ∧ gA zzz 0 (5 + pzz) = -1 ∧ gA zzz 0 (12 + pzz) = -1)) := by
        intro s0zz s1zz hs o9 g9 hbzz
        unfold bk_X3_setOrderWords_O_130 at hbzz
        rw [i12zz] at hbzz
        have hbzz := (z_gd hbzz).2
        obtain ⟨o12, g12, hbzz⟩ := z_lt hbzz
        obtain ⟨x13, g13, hbzz⟩ := z_lt hbzz
        have at12zz : ∀ jzz, gA o12 0 jzz = if jzz = 12 + izz then s1zz else if jzz = 5 + izz then s0zz else gA o 0 jzz := fun jzz => by rw [g12, g9]; rfl
        obtain ⟨r1zz, r2, r3⟩ := ihzz x13 o12 (izz + 1) (by rw [g13]; exact Eq.trans (i32_add evzz (by decide : (1 : Int32).toInt = 1) (by omega) (by omega)) (by omega)) (by omega) hbzz
        refine ⟨fun kzz hk => ?_, fun pzz hp => ⟨?_, ?_⟩, fun pzz h1 h2 => ?_⟩
        · rw [r1zz kzz hk, at12zz, if_neg (by omega), if_neg (by omega)]
        · rw [(r2 pzz (by omega)).1, at12zz, if_neg (by omega), if_neg (by omega)]
        · rw [(r2 pzz (by omega)).2, at12zz, if_neg (by omega), if_neg (by omega)]
        · by_cases qzz : pzz = izz
          · subst qzz
            have wzz := r2 pzz (by omega)
            rw [wzz.1, wzz.2, at12zz, at12zz, if_neg (by omega), if_pos rfl, if_pos rfl]
            exact hs
          · exact r3 pzz (by omega) h2
      obtain ⟨z7, e7zz, hzz⟩ := z_bd hzz
      have p7zz := isP2 e7zz
      rcases z_if hzz with ⟨c1zz, hzz⟩ | ⟨c1zz, hzz⟩
      · have q7zz : (gI isl 7).toInt ≤ (izz : Int) := by
          rcases p7zz with ⟨-, qzz⟩ | ⟨qzz, -⟩
          · omega
          · exact absurd c1zz qzz
        unfold bk_X3_setOrderWords_O_97 at hzz
        rw [i5zz] at hzz
        have hzz := (z_gd hzz).2
        obtain ⟨o9, g9, hzz⟩ := z_lt hzz
        obtain ⟨z10, e10zz, hzz⟩ := z_bd hzz
        rcases isP2 e10zz with ⟨uzz, -⟩ | ⟨-, uzz⟩
        · exact gozz (-1) (-1) (Or.inr ⟨q7zz, rfl, rfl⟩) o9 g9 (z_t hzz uzz)
        · omega
      · have q7zz : ((izz : Nat) : Int) < (gI isl 7).toInt := by
          rcases p7zz with ⟨qzz, -⟩ | ⟨-, qzz⟩
          · exact absurd qzz c1zz
          · omega
        have hzz := (z_gd hzz).2
        rw [ivzz] at hzz
        unfold bk_X3_setOrderWords_O_97 at hzz
        rw [i5zz, ivzz] at hzz
        have hzz := (z_gd hzz).2
        obtain ⟨o9, g9, hzz⟩ := z_lt hzz
        obtain ⟨z10, e10zz, hzz⟩ := z_bd hzz
        rcases isP2 e10zz with ⟨-, uzz⟩ | ⟨uzz, -⟩
        · omega
        · exact gozz _ _ (Or.inl ⟨q7zz, rfl, rfl⟩) o9 g9 (z_gd (z_f hzz uzz)).2
set_option maxHeartbeats 200000 in
theorem oWords {mezz isl mv zzz o o6 : Ob} {n : Nat} {d l : Int32} {w5 : Int32} (hI : WiL isl (gA o 3)) (hMzz : TzM mv (gA o 3)) (en : (gA o 3 0).toInt = (n : Int)) (hZ : ∀ jzz, ((15 + n ≤ jzz ∧ jzz < 22) ∨ (22 + n ≤ jzz ∧ jzz < 29)) → gA o 3 jzz = 0) (h1 : f_X3_setOrderWords_O mezz isl mv d l = some zzz) (h5 : f_X9_enteredOnes o = some w5) (e3zz : gA o6 3 = gA o 3) (m1zz : gM o6 36 1 = (gA o 3 4).toInt64) (m2zz : gM o6 36 2 = d.toInt64) (m3zz : gM o6 36 3 = l.toInt64) (m4zz : gM o6 36 4 = (gA o 3 7).toInt64) (m5zz : gM o6 36 5 = w5.toInt64) (h20 : ¬ gI o6 20 = 0) : EWo true zzz o6 := by
  have hn7 : n ≤ 7 := by have := hI.1.2.2; omega
  have n0zz : (0 : Int32).toNatClampNeg = 0 := by decide
  have n1zz : (1 : Int32).toNatClampNeg = 1 := by decide
  have n2zz : (2 : Int32).toNatClampNeg = 2 := by decide
  have n3zz : (3 : Int32).toNatClampNeg = 3 := by decide
  have n4zz : (4 : Int32).toNatClampNeg = 4 := by decide
  unfold f_X3_setOrderWords_O at h1
  rw [n0zz, n1zz, n2zz, n3zz, n4zz] at h1
  obtain ⟨o1, g1, h1⟩ := z_lt h1
  obtain ⟨o2, g2, h1⟩ := z_lt h1
  obtain ⟨o3zz, g3zz, h1⟩ := z_lt h1
  obtain ⟨o4zz, g4, h1⟩ := z_lt h1
  obtain ⟨z5, k5zz, h1⟩ := z_bd h1
  obtain ⟨o7, g7, h1⟩ := z_lt h1
  have e5zz := ones_eq hMzz hn7 en hZ k5zz h5
  obtain ⟨r1zz, -, r3⟩ := ow_lp zfu 0 o7 0 (by decide) (Nat.zero_le _) h1
  have a0zz : gA o7 0 0 = gI mv 4 := by rw [g7, g4, g3zz, g2, g1]; rfl
  have a1zz : gA o7 0 1 = d := by rw [g7, g4, g3zz, g2, g1]; rfl
  have a2 : gA o7 0 2 = l := by rw [g7, g4, g3zz, g2, g1]; rfl
  have a3 : gA o7 0 3 = gI mv 3 := by rw [g7, g4, g3zz, g2, g1]; rfl
  have a4 : gA o7 0 4 = z5 := by rw [g7, g4, g3zz, g2, g1]; rfl
  refine ⟨by rw [e3zz]; exact hI.1.2, (fun qzz => by cases qzz), fun _ => ⟨h20, fun kzz hk => ?_, fun pzz hp => ?_⟩⟩
  · rcases (by omega : kzz = 0 ∨ kzz = 1 ∨ kzz = 2 ∨ kzz = 3 ∨ kzz = 4) with uzz | uzz | uzz | uzz | uzz <;> subst uzz
    · rw [r1zz 0 (by omega), a0zz, hMzz.2.2.2.1.1]; exact m1zz.symm
    · rw [r1zz 1 (by omega), a1zz]; exact m2zz.symm
    · rw [r1zz 2 (by omega), a2]; exact m3zz.symm
    · rw [r1zz 3 (by omega), a3, hMzz.2.2.1.1]; exact m4zz.symm
    · rw [r1zz 4 (by omega), a4, e5zz]; exact m5zz.symm
  · rw [e3zz]
    have wzz := r3 pzz (Nat.zero_le _) hp
    rw [hI.1.1] at wzz
    rcases wzz with ⟨u1zz, u2zz, u3⟩ | wzz
    · exact Or.inl ⟨u1zz, u2zz.trans (hMzz.2.1 pzz hp).1, u3.trans (hMzz.1 pzz hp).1⟩
    · exact Or.inr wzz
set_option maxHeartbeats 200000 in
theorem osum {o : Ob} {p0zz : Int32} {zzz : Int32 × Ob} {Pzz : Nat} (ep : p0zz.toInt = (Pzz : Int)) (hP : Pzz ≤ 94) (h59 : gI o 59 = 0) (hzz : f_X9_orderSum o p0zz = some zzz) : (gA o 55 Pzz = gA o 55 (Pzz + 1) ∧ zzz = (-1, o)) ∨ (¬ gA o 55 Pzz = gA o 55 (Pzz + 1) ∧ ∃ wzz, f_X9_reckonAll (sI o 20 1) (gA o 55 Pzz) (gA o 55 (Pzz + 1)) = some wzz ∧ zzz.2 = sI (sI wzz 20 0) 59 (gI wzz 38) ∧ zzz.1 = (gL wzz 39).toInt32) := by
  have i0zz : p0zz.toNatClampNeg = Pzz := tnc_eq ep
  have i1zz : (p0zz + (1 : Int32)).toNatClampNeg = Pzz + 1 := tnc_eq (by rw [i32_add ep (by decide : (1 : Int32).toInt = 1) (by omega) (by omega)]; omega)
  unfold f_X9_orderSum at hzz
  rw [i0zz, i1zz] at hzz
  have hzz := (z_gd (z_gd (z_t hzz h59)).2).2
  rcases z_if hzz with ⟨czz, hzz⟩ | ⟨czz, hzz⟩
  · exact Or.inl ⟨czz, (Option.some.inj hzz).symm⟩
  · obtain ⟨o3zz, e3zz, hzz⟩ := z_lt hzz
    have hzz := (z_gd (z_gd hzz).2).2
    obtain ⟨wzz, ew, hzz⟩ := z_bd hzz
    obtain ⟨o7, e7zz, hzz⟩ := z_lt hzz
    have hzz := (z_gd hzz).2
    obtain ⟨o9, e9zz, hzz⟩ := z_lt hzz
    have hzz := Option.some.inj hzz
    subst e3zz e7zz e9zz
    refine Or.inr ⟨czz, wzz, ew, ?_, ?_⟩
    · rw [← hzz]; rfl
    · rw [← hzz]; rfl
set_option maxHeartbeats 200000 in
theorem EWo.tr1 {mezz me' o o' : Ob} (hzz : EWo true mezz o) (e0zz : gA me' 0 = gA mezz 0) (e3zz : gA o' 3 = gA o 3) (e36 : gM o' 36 = gM o 36) (h20 : ¬ gI o' 20 = 0) : EWo true me' o' := by
  refine ⟨by rw [e3zz]; exact hzz.1, (fun qzz => by cases qzz), fun _ => ⟨h20, ?_, ?_⟩⟩
  · rw [e0zz, e36]; exact (hzz.2.2 rfl).2.1
  · rw [e0zz, e3zz]; exact (hzz.2.2 rfl).2.2
def RunR (pl : List CR) (isl o : Ob) (n : Nat) (yzz : Int32 × Ob × Ob × Ob × Ob × Ob) (y' : Int32 × Ob) : Prop := RwC n (gA o 3) (gA y'.2 3) ∧ (∀ jzz, 400 ≤ jzz → gA y'.2 6 jzz = gA o 6 jzz) ∧ ((yzz.1 = 0 ∧ y'.1 = -3) ∨ (yzz.1 = 1 ∧ y'.1 = 0 ∧ TzS pl isl yzz.2.2.2.1 yzz.2.2.2.2.2 y'.2 n ∧ gI yzz.2.1 15 = gI y'.2 56 ∧ gI yzz.2.1 16 = gI y'.2 57 ∧ (gI y'.2 56 = gI o 56 ∨ gI y'.2 56 = gI o 56 + 1)))
set_option maxHeartbeats 200000 in
theorem RunR.of {pl : List CR} {isl o o' : Ob} {n : Nat} {yzz : Int32 × Ob × Ob × Ob × Ob × Ob} {y' : Int32 × Ob} (hzz : RunR pl isl o' n yzz y') (e3zz : gA o' 3 = gA o 3) (e6zz : gA o' 6 = gA o 6) (e56 : gI o' 56 = gI o 56) : RunR pl isl o n yzz y' := by
  refine ⟨by rw [← e3zz]; exact hzz.1, fun jzz hj => by rw [← e6zz]; exact hzz.2.1 jzz hj, by rw [← e56]; exact hzz.2.2⟩
set_option maxHeartbeats 200000 in
theorem run_act {pl : List CR} {isl mv pa czz o8zz oc mezz o : Ob} {nc ns mzz n K1 K2 : Nat} {p1zz xzz : Int32} {yzz : Int32 × Ob × Ob × Ob × Ob × Ob} {y' : Int32 × Ob} (hSzz : TzS pl isl mv pa o n) (hdzz : gI o8zz 15 = gI o 56) (hl : gI o8zz 16 = gI o 57) (h59 : gI o 59 = 0) (hE : EWo true mezz (sI o 20 1)) (hK8 : (gI oc 8).toInt = (K1 : Int)) (hK1 : K1 ≤ 400) (hK2 : K2 ≤ 400) (hmzz : mzz < 12) (hczz : ClE true oc (gA o 55) (gA o 24) (gA o 25) mzz K1 K2) (ep : p1zz.toInt = (mzz : Int)) (exzz : xzz.toInt = 8 * (mzz : Int))
    (h1 : (zgd (zin p1zz nc) <| zgd (zin p1zz nc) <| (f_X3_worth_O nc ns mezz oc (gA oc 2 p1zz.toNatClampNeg) (gA oc 3 p1zz.toNatClampNeg)).bind fun z7 => if (lg_cmp z7.1 (-9000000000000000000 : Int64)) = (0 : Int32) then (some ((0 : Int32), o8zz, z7.2, mv, czz, pa)) else (zgd (zin p1zz nc) <| zlt (gA oc 0 p1zz.toNatClampNeg) fun x9 => (f_X1_moved_O czz isl mv z7.2 pl pa x9 z7.1.toInt32).bind fun z10 => if (0 : Int32) ≤ z10.1 then (zlt (sI o8zz 15 ((gI o8zz 15) + (1 : Int32))) fun o11 => if x9 = (0 : Int32) then (zlt (sI o11 16 z10.1) fun o12 => some ((1 : Int32), o12, z10.2.2.2.1, z10.2.2.1, z10.2.1, z10.2.2.2.2)) else (some ((1 : Int32), o11, z10.2.2.2.1, z10.2.2.1, z10.2.1, z10.2.2.2.2))) else (some ((0 : Int32), o8zz, z10.2.2.2.1, z10.2.2.1, z10.2.1, z10.2.2.2.2)))) = some yzz)
    (h2 : bk_X9_run_106 xzz o = some y') : RunR pl isl o n yzz y' := by
  have im : p1zz.toNatClampNeg = mzz := tnc_eq ep
  have ix : xzz.toNatClampNeg = 8 * mzz := tnc_eq (by rw [exzz]; omega)
  have tx1 : (xzz + (1 : Int32)).toInt = ((8 * mzz + 1 : Nat) : Int) := by rw [i32_add exzz (by decide : (1 : Int32).toInt = 1) (by omega) (by omega)]; omega
  rw [im] at h1
  unfold bk_X9_run_106 at h2
  rw [ix] at h2
  obtain ⟨z10r, e10r, h2⟩ := z_bd h2
  have fo := fr_f_X9_orderSum e10r
  have os := osum tx1 (by omega) h59 e10r
  have h1 := (z_gd (z_gd h1).2).2
  obtain ⟨z7, e7zz, h1⟩ := z_bd h1
  obtain ⟨a1zz, b1, c1zz, a2, b2, c2zz, d2zz, k0zz, kr, ea1, eb1, ec1, ea2, eb2, ec2, ed2, ⟨l1, l2, l3, l4, l5⟩, hsum, -, -⟩ := hczz
  have sf : sfo true = 1 := rfl
  rw [sf] at ea2 eb2
  have eb2' : (gA o 55 (8 * mzz + 2)).toInt = (b2 : Int) := eb2
  have G0zz : gA z10r.2 3 = gA o 3 := fo.A 3 rfl
  have G6 : gA z10r.2 6 = gA o 6 := fo.A 6 rfl
  have hS0 : gI z10r.2 59 = 0 → TzS pl isl mv pa z10r.2 n := fun _ => hSzz.sc G0zz (fo.I 8 rfl) G6 (fo.A 7 rfl) (by
    rcases os with ⟨-, qzz⟩ | ⟨-, wzz, -, qzz, -⟩
    · rw [qzz]
    · rw [qzz]; exact hSzz.2.2.2.2.1.symm)
  have e55 : gA z10r.2 55 (8 * mzz) = gA oc 0 mzz := by rw [fo.A 55 rfl]; exact k0zz.symm
  rw [e55] at h2
  have mvd : ∀ (z10 : Int32 × Ob × Ob × Ob × Ob) (w12 : Int32 × Ob), gI z10r.2 59 = 0 → MvE pl isl mv z10r.2 n z10.1 w12.1 z10.2.2.1 z10.2.2.2.2 w12.2 → FrX d_X9_act_me z10r.2 w12.2 → (if (0 : Int32) ≤ z10.1 then (zlt (sI o8zz 15 ((gI o8zz 15) + (1 : Int32))) fun o11 => if gA oc 0 mzz = (0 : Int32) then (zlt (sI o11 16 z10.1) fun o12 => some ((1 : Int32), o12, z10.2.2.2.1, z10.2.2.1, z10.2.1, z10.2.2.2.2)) else (some ((1 : Int32), o11, z10.2.2.2.1, z10.2.2.1, z10.2.1, z10.2.2.2.2))) else (some ((0 : Int32), o8zz, z10.2.2.2.1, z10.2.2.1, z10.2.1, z10.2.2.2.2))) = some yzz → (if (0 : Int32) ≤ w12.1 then (zgd (zin xzz 96) <| if (gA w12.2 55 (8 * mzz)) = (0 : Int32) then (bk_X9_run_161 w12.1 w12.2) else (bk_X9_run_161 (gI w12.2 57) w12.2)) else (some ((-3 : Int32), w12.2))) = some y' → RunR pl isl o n yzz y' := by
    intro z10 w12 q59 ⟨u1zz, u2zz, u3, u4zz, u5⟩ fa h1 h2
    rw [u1zz] at h1
    rw [G0zz] at u3
    have k56 : gI w12.2 56 = gI o 56 := (fa.I 56 rfl).trans (fo.I 56 rfl)
    have k57 : gI w12.2 57 = gI o 57 := (fa.I 57 rfl).trans (fo.I 57 rfl)
    have w55 : gA w12.2 55 (8 * mzz) = gA oc 0 mzz := by rw [fa.A 55 rfl]; exact e55
    by_cases c0zz : (0 : Int32) ≤ w12.1
    · have h1 := z_t h1 c0zz
      have h2 := (z_gd (z_t h2 c0zz)).2
      rw [w55] at h2
      obtain ⟨o11, g11, h1⟩ := z_lt h1
      have finzz : ∀ (s : Int32) (o12 : Ob), bk_X9_run_161 s w12.2 = some y' → yzz = ((1 : Int32), o12, z10.2.2.2.1, z10.2.2.1, z10.2.1, z10.2.2.2.2) → gI o12 15 = gI o8zz 15 + 1 → gI o12 16 = s → RunR pl isl o n yzz y' := by
        intro s o12 hbzz ey q15zz q16zz
        unfold bk_X9_run_161 at hbzz
        obtain ⟨o14, g14, hbzz⟩ := z_lt hbzz
        obtain ⟨o15, g15, hbzz⟩ := z_lt hbzz
        have hbzz := Option.some.inj hbzz
        rw [← hbzz, ey]
        refine ⟨?_, fun jzz hj => ?_, Or.inr ⟨rfl, rfl, u2zz.sc ?_ ?_ ?_ ?_ ?_, ?_, ?_, Or.inr ?_⟩⟩
        · rw [g15, g14]; exact u3
        · rw [g15, g14]
          show gA w12.2 6 jzz = _
          rw [u5 jzz hj, G6]
        · rw [g15, g14]; rfl
        · rw [g15, g14]; rfl
        · rw [g15, g14]; rfl
        · rw [g15, g14]; rfl
        · rw [g15, g14]; rfl
        · rw [g15, g14]
          show gI o12 15 = gI w12.2 56 + 1
          rw [q15zz, k56, hdzz]
        · rw [g15, g14]
          show gI o12 16 = s
          exact q16zz
        · rw [g15, g14]
          show gI w12.2 56 + 1 = gI o 56 + 1
          rw [k56]
      by_cases c1zz : gA oc 0 mzz = 0
      · obtain ⟨o12, g12, h1⟩ := z_lt (z_t h1 c1zz)
        have h1 := Option.some.inj h1
        exact finzz w12.1 o12 (z_t h2 c1zz) h1.symm (by rw [g12, g11]; rfl) (by rw [g12]; rfl)
      · have h1 := Option.some.inj (z_f h1 c1zz)
        exact finzz (gI w12.2 57) o11 (z_f h2 c1zz) h1.symm (by rw [g11]; rfl) (by rw [g11, k57]; exact hl)
    · have h1 := Option.some.inj (z_f h1 c0zz)
      have h2 := Option.some.inj (z_f h2 c0zz)
      rw [← h1, ← h2]
      exact ⟨u3, fun jzz hj => by rw [← G6]; exact u5 jzz hj, Or.inl ⟨rfl, rfl⟩⟩
  rcases hsum with ⟨s1zz, s2zz, s3zz⟩ | ⟨s1zz, sn, hn, hb2, hx⟩
  ·
    have uzz := worth_nil e7zz (by omega)
    have h1 := z_f h1 (fun qzz => by have qzz := (lg_cmp_eq _ _).mp qzz; have q' : (1 : Int64) = -9000000000000000000 := (by rw [uzz] at qzz; exact qzz); exact absurd q' (by decide))
    have h1 := (z_gd h1).2
    obtain ⟨x9, g9, h1⟩ := z_lt h1
    obtain ⟨z10, e10zz, h1⟩ := z_bd h1
    have q0 : z10r = (-1, o) := by
      rcases os with ⟨-, qzz⟩ | ⟨qzz, -⟩
      · exact qzz
      · exact absurd (Int32.toInt_inj.mp (by rw [ea2, eb2']; omega)) qzz
    have q59 : gI z10r.2 59 = 0 := by rw [q0]; exact h59
    have h2 := (z_gd (z_t h2 q59)).2
    obtain ⟨w12, e12zz, h2⟩ := z_bd h2
    have fa := fr_f_X9_act e12zz
    rw [s1zz] at e12zz
    rw [g9, s1zz] at e10zz
    unfold f_X9_act at e12zz
    obtain ⟨w5, e5zz, e12zz⟩ := z_bd (z_f (z_f (z_f e12zz (by decide)) (by decide)) (by decide))
    have e12zz := Option.some.inj e12zz
    have mm := pass_move (hS0 q59) e10zz e5zz
    rw [g9] at h1
    exact mvd z10 w12 q59 (by rw [← e12zz]; exact mm) fa h1 h2
  · rcases os with ⟨qzz, -⟩ | ⟨-, wzz, ew, ez2, ez1⟩
    · have ezz := congrArg Int32.toInt qzz
      rw [ea2, eb2'] at ezz
      have := hx.lt
      omega
    · have hR : RD (gA o 24) (gA o 25) (sI o 20 1) := Or.inr ⟨by show ¬ (1 : Int32) = 0; decide, fun kzz => ⟨rfl, rfl⟩⟩
      have k59 : gI z10r.2 59 = gI wzz 38 := by rw [ez2]; rfl
      rcases ev_all hx hn (by omega) (by omega) (by omega) ea1 eb1 ea2 eb2' hE hR e7zz ew with ⟨v1zz, v2⟩ | ⟨v1zz, v2, -, -⟩
      · have h1 := Option.some.inj (z_t h1 ((lg_cmp_eq _ _).mpr v1zz))
        have h2 := Option.some.inj (z_f h2 (by rw [k59, v2]; decide))
        rw [← h1, ← h2]
        exact ⟨by rw [G0zz]; exact RwC.rf, fun jzz _ => by rw [G6], Or.inl ⟨rfl, rfl⟩⟩
      · have q59 : gI z10r.2 59 = 0 := by rw [k59]; exact v1zz
        have nb : ¬ z7.1 = -9000000000000000000 := by
          intro qzz
          rcases ev_all hx hn (by omega) (by omega) (by omega) ea1 eb1 ea2 eb2' hE hR e7zz ew with ⟨_, vzz⟩ | ⟨_, _, vzz, _⟩
          · rw [v1zz] at vzz; exact absurd vzz (by decide)
          · rw [qzz] at vzz; exact absurd vzz (by decide)
        have h1 := (z_gd (z_f h1 (fun qzz => nb ((lg_cmp_eq _ _).mp qzz)))).2
        obtain ⟨x9, g9, h1⟩ := z_lt h1
        obtain ⟨z10, e10zz, h1⟩ := z_bd h1
        have h2 := (z_gd (z_t h2 q59)).2
        obtain ⟨w12, e12zz, h2⟩ := z_bd h2
        have fa := fr_f_X9_act e12zz
        rw [g9] at e10zz h1
        rw [ez1, ← v2] at e12zz
        have hKzz : gA oc 0 mzz = 0 ∨ gA oc 0 mzz = 1 ∨ gA oc 0 mzz = 2 ∨ gA oc 0 mzz = 3 := by
          rcases i32_cases8 kr.1 (by omega) with qzz | qzz | qzz | qzz | qzz | qzz | qzz | qzz
          · exact Or.inl qzz
          · exact Or.inr (Or.inl qzz)
          · exact Or.inr (Or.inr (Or.inl qzz))
          · exact Or.inr (Or.inr (Or.inr qzz))
          all_goals (rw [qzz] at kr; exact absurd kr.2 (by decide))
        exact mvd z10 w12 q59 (act_move (hS0 q59) hKzz e10zz e12zz) fa h1 h2
set_option maxHeartbeats 200000 in
theorem run_eq {pl : List CR} {isl mv pa czz o8zz oc mezz o : Ob} {nc ns mzz n K1 K2 : Nat} {p1zz xzz : Int32} {yzz : Int32 × Ob × Ob × Ob × Ob × Ob} {y' : Int32 × Ob} (hSzz : TzS pl isl mv pa o n) (hdzz : gI o8zz 15 = gI o 56) (hl : gI o8zz 16 = gI o 57) (hK8 : (gI oc 8).toInt = (K1 : Int)) (hK1 : K1 ≤ 400) (hK2 : K2 ≤ 400) (hmzz : mzz < 12) (hczz : ClE true oc (gA o 55) (gA o 24) (gA o 25) mzz K1 K2) (ep : p1zz.toInt = (mzz : Int)) (exzz : xzz.toInt = 8 * (mzz : Int)) (h1 : f_X8_obey_O nc ns o8zz mezz isl mv czz pa pl oc p1zz = some yzz) (h2 : f_X9_run o xzz = some y') : RunR pl isl o n yzz y' := by
  obtain ⟨hI, hMzz, hP, hL, h20, en, hZ⟩ := id hSzz
  have n1zz : (1 : Int32).toNatClampNeg = 1 := by decide
  have n2zz : (2 : Int32).toNatClampNeg = 2 := by decide
  have n3zz : (3 : Int32).toNatClampNeg = 3 := by decide
  have n4zz : (4 : Int32).toNatClampNeg = 4 := by decide
  have n5zz : (5 : Int32).toNatClampNeg = 5 := by decide
  have n7 : (7 : Int32).toNatClampNeg = 7 := by decide
  have im : p1zz.toNatClampNeg = mzz := tnc_eq ep
  have t5zz : (xzz + (5 : Int32)).toInt = ((8 * mzz + 5 : Nat) : Int) := by rw [i32_add exzz (by decide : (5 : Int32).toInt = 5) (by omega) (by omega)]; omega
  have i5zz : (xzz + (5 : Int32)).toNatClampNeg = 8 * mzz + 5 := tnc_eq t5zz
  have i6zz : (xzz + (6 : Int32)).toNatClampNeg = 8 * mzz + 6 := tnc_eq (by rw [i32_add exzz (by decide : (6 : Int32).toInt = 6) (by omega) (by omega)]; omega)
  unfold f_X8_obey_O at h1
  obtain ⟨z1, e1zz, h1⟩ := z_bd h1
  have h1 := (z_gd (z_gd h1).2).2
  obtain ⟨z4, e4zz, h1⟩ := z_bd h1
  rw [im] at e4zz
  unfold f_X9_run at h2
  rw [n1zz, n2zz, n3zz, n4zz, n5zz, n7, i5zz, i6zz] at h2
  obtain ⟨o1, g1, h2⟩ := z_lt h2
  obtain ⟨o2, g2, h2⟩ := z_lt h2
  obtain ⟨o3zz, g3zz, h2⟩ := z_lt h2
  obtain ⟨o4zz, g4, h2⟩ := z_lt h2
  obtain ⟨w5, e5zz, h2⟩ := z_bd h2
  obtain ⟨o6, g6, h2⟩ := z_lt h2
  obtain ⟨o7, g7, h2⟩ := z_lt h2
  have h2 := (z_gd (z_gd h2).2).2
  have A : ∀ izz, gA o7 izz = gA o izz := fun izz => by rw [g7, g6, g4, g3zz, g2, g1]; rfl
  have I : ∀ izz, izz ≠ 59 → gI o7 izz = gI o izz := fun izz hizz => by rw [g7, g6, g4, g3zz, g2, g1]; exact fset_ne hizz
  have k59 : gI o7 59 = 0 := by rw [g7]; rfl
  have A4 : gA o4zz 3 = gA o 3 := by rw [g4, g3zz, g2, g1]; rfl
  have hE : EWo true z1 (sI o7 20 1) := by
    refine oWords (o := o4zz) (n := n) (w5 := w5) (by rw [A4]; exact hI) (by rw [A4]; exact hMzz) (by rw [A4]; exact en) (by rw [A4]; exact hZ) e1zz e5zz ?_ ?_ ?_ ?_ ?_ ?_ ?_
    · rw [A4]; exact A 3
    · rw [A4, g7, g6, g4, g3zz, g2, g1]; rfl
    · rw [hdzz, g7, g6, g4, g3zz, g2, g1]; rfl
    · rw [hl, g7, g6, g4, g3zz, g2, g1]; rfl
    · rw [A4, g7, g6, g4, g3zz, g2, g1]; rfl
    · rw [g7, g6]; rfl
    · show ¬ (1 : Int32) = 0; decide
  have hS7 : TzS pl isl mv pa o7 n := hSzz.sc (A 3) (I 8 (by decide)) (A 6) (A 7) (I 20 (by decide))
  have hd7 : gI o8zz 15 = gI o7 56 := hdzz.trans (I 56 (by decide)).symm
  have hl7 : gI o8zz 16 = gI o7 57 := hl.trans (I 57 (by decide)).symm
  have hc7 : ClE true oc (gA o7 55) (gA o7 24) (gA o7 25) mzz K1 K2 := by rw [A, A, A]; exact hczz
  rw [A 55] at h2
  refine RunR.of (o' := o7) ?_ (A 3) (A 6) (I 56 (by decide))
  obtain ⟨a1zz, b1, c1zz, a2, b2, c2zz, d2zz, k0zz, kr, ea1, eb1, ec1, ea2, eb2, ec2, ed2, ⟨l1, l2, l3, l4, l5⟩, hsum, htst, -⟩ := id hczz
  rcases z_if h2 with ⟨qzz, h2⟩ | ⟨qzz, h2⟩
  ·
    have qzz := cv_le (a := (d2zz : Int)) (b := (c2zz : Int)) ed2 ec2 qzz
    rcases htst with ⟨t1zz, t2zz⟩ | ⟨tnzz, hn, hx⟩
    · have uzz := worth_nil e4zz (by omega)
      have h1 := z_t h1 ((lg_cmp_eq _ _).mpr (by rw [uzz]))
      have hE4 : EWo true z4.2 (sI o7 20 1) := by rw [uzz]; exact hE
      exact run_act hS7 hd7 hl7 k59 hE4 hK8 hK1 hK2 hmzz hc7 ep exzz h1 h2
    · have := hx.lt; omega
  · have qzz := cv_nle (a := (d2zz : Int)) (b := (c2zz : Int)) ed2 ec2 qzz
    rcases htst with ⟨t1zz, t2zz⟩ | ⟨tnzz, hn, hx⟩
    · omega
    · obtain ⟨z16, e16zz, h2⟩ := z_bd h2
      have fo := fr_f_X9_orderSum e16zz
      have G16 : gA z16.2 3 = gA o7 3 := fo.A 3 rfl
      have G166 : gA z16.2 6 = gA o7 6 := fo.A 6 rfl
      rcases osum t5zz (by omega) k59 e16zz with ⟨qq, -⟩ | ⟨-, wzz, ew, ez2, ez1⟩
      · rw [A 55] at qq
        have ezz := congrArg Int32.toInt qq
        have ed2' : (gA o 55 (8 * mzz + 5 + 1)).toInt = (d2zz : Int) := ed2
        rw [ec2, ed2'] at ezz
        omega
      · have hR : RD (gA o 24) (gA o 25) (sI o7 20 1) := Or.inr ⟨by show ¬ (1 : Int32) = 0; decide, fun kzz => ⟨congrFun (A 24).symm kzz, congrFun (A 25).symm kzz⟩⟩
        have f1zz : (gA o7 55 (8 * mzz + 5)).toInt = (c2zz : Int) := by rw [A]; exact ec2
        have f2zz : (gA o7 55 (8 * mzz + 5 + 1)).toInt = (d2zz : Int) := by rw [A]; exact ed2
        have q59 : gI z16.2 59 = gI wzz 38 := by rw [ez2]; rfl
        rcases ev_all hx hn (by omega) (by omega) (by omega) eb1 ec1 f1zz f2zz hE hR e4zz ew with ⟨v1zz, v2⟩ | ⟨v1zz, v2, v3, v4zz⟩
        · have h1 := Option.some.inj (z_f h1 (fun zzz => by have zzz := (lg_cmp_eq _ _).mp zzz; rw [v1zz] at zzz; exact absurd zzz (by decide)))
          have h2 := Option.some.inj (z_f h2 (by rw [q59, v2]; decide))
          rw [← h1, ← h2]
          exact ⟨by rw [G16]; exact RwC.rf, fun jzz _ => by rw [G166], Or.inr ⟨rfl, rfl, hS7.sc G16 (fo.I 8 rfl) G166 (fo.A 7 rfl) (by rw [ez2]; exact hS7.2.2.2.2.1.symm), hd7.trans (fo.I 56 rfl).symm, hl7.trans (fo.I 57 rfl).symm, Or.inl (fo.I 56 rfl)⟩⟩
        · have q59' : gI z16.2 59 = 0 := by rw [q59]; exact v1zz
          have h2 := z_t h2 q59'
          rw [ez1, ← v2] at h2
          rcases v4zz rfl with uzz | uzz
          · have h1 := Option.some.inj (z_f h1 (fun zzz => by have zzz := (lg_cmp_eq _ _).mp zzz; rw [uzz] at zzz; exact absurd zzz (by decide)))
            have h2 := Option.some.inj (z_t h2 (by rw [uzz]; decide))
            rw [← h1, ← h2]
            exact ⟨by rw [G16]; exact RwC.rf, fun jzz _ => by rw [G166], Or.inr ⟨rfl, rfl, hS7.sc G16 (fo.I 8 rfl) G166 (fo.A 7 rfl) (by rw [ez2]; exact hS7.2.2.2.2.1.symm), hd7.trans (fo.I 56 rfl).symm, hl7.trans (fo.I 57 rfl).symm, Or.inl (fo.I 56 rfl)⟩⟩
          · have h1 := z_t h1 ((lg_cmp_eq _ _).mpr uzz)
            have h2 := z_f h2 (by rw [uzz]; decide)
            have hS16 : TzS pl isl mv pa z16.2 n := hS7.sc G16 (fo.I 8 rfl) G166 (fo.A 7 rfl) (by rw [ez2]; exact hS7.2.2.2.2.1.symm)
            have hE16 : EWo true z4.2 (sI z16.2 20 1) := hE.tr1 ((fr_f_X3_worth_O e4zz).A 0 rfl) G16 (fo.M 36 rfl) (by show ¬ (1 : Int32) = 0; decide)
            have hc16 : ClE true oc (gA z16.2 55) (gA z16.2 24) (gA z16.2 25) mzz K1 K2 := by rw [fo.A 55 rfl, fo.A 24 rfl, fo.A 25 rfl]; exact hc7
            exact RunR.of (run_act hS16 (hd7.trans (fo.I 56 rfl).symm) (hl7.trans (fo.I 57 rfl).symm) q59' hE16 hK8 hK1 hK2 hmzz hc16 ep exzz h1 h2) G16 G166 (fo.I 56 rfl)
set_option maxHeartbeats 200000 in
theorem setM {mv azz mv' : Ob} (hzz : f_X4_set_O mv azz = some mv') : (∀ jzz, jzz < 7 → gA mv' 0 jzz = gA azz 0 jzz) ∧ (∀ jzz, jzz < 7 → gA mv' 1 jzz = gA azz 1 jzz) ∧ gI mv' 2 = gI azz 2 ∧ gI mv' 3 = gI azz 3 ∧ gI mv' 4 = gI azz 4 := by
  have n0zz : (0 : Int32).toNatClampNeg = 0 := by decide
  have n7 : (7 : Int32).toNatClampNeg = 7 := by decide
  unfold f_X4_set_O at hzz
  have hzz := (z_gd hzz).2
  obtain ⟨o2, e2zz, hzz⟩ := z_lt hzz
  have hzz := (z_gd hzz).2
  obtain ⟨o4zz, e4zz, hzz⟩ := z_lt hzz
  obtain ⟨o5zz, e5zz, hzz⟩ := z_lt hzz
  obtain ⟨o6, e6zz, hzz⟩ := z_lt hzz
  obtain ⟨o7, e7zz, hzz⟩ := z_lt hzz
  have hzz := Option.some.inj hzz
  unfold cA at e2zz e4zz
  rw [n0zz, n7] at e2zz e4zz
  subst e2zz e4zz e5zz e6zz e7zz hzz
  refine ⟨fun jzz hj => ?_, fun jzz hj => ?_, rfl, rfl, rfl⟩
  · show (if 0 ≤ jzz ∧ jzz < 0 + 7 then gA azz 0 (0 + (jzz - 0)) else gA mv 0 jzz) = _
    rw [if_pos (by omega), Nat.zero_add, Nat.sub_zero]
  · show (if 0 ≤ jzz ∧ jzz < 0 + 7 then gA azz 1 (0 + (jzz - 0)) else _) = _
    rw [if_pos (by omega), Nat.zero_add, Nat.sub_zero]
set_option maxHeartbeats 200000 in
theorem setP {pa azz pa' : Ob} (hzz : f_X5_set_O pa azz = some pa') : gI pa' 2 = gI azz 2 ∧ gI pa' 3 = gI azz 3 ∧ (∀ jzz, jzz < 16 → gA pa' 0 jzz = gA azz 0 jzz) ∧ (∀ jzz, jzz < 272 → gA pa' 1 jzz = gA azz 1 jzz) := by
  have n0zz : (0 : Int32).toNatClampNeg = 0 := by decide
  have n16 : (16 : Int32).toNatClampNeg = 16 := by decide
  have n272 : (272 : Int32).toNatClampNeg = 272 := by decide
  unfold f_X5_set_O at hzz
  obtain ⟨o1, e1zz, hzz⟩ := z_lt hzz
  obtain ⟨o2, e2zz, hzz⟩ := z_lt hzz
  have hzz := (z_gd hzz).2
  obtain ⟨o4zz, e4zz, hzz⟩ := z_lt hzz
  have hzz := (z_gd hzz).2
  obtain ⟨o6, e6zz, hzz⟩ := z_lt hzz
  have hzz := Option.some.inj hzz
  unfold cA at e4zz e6zz
  rw [n0zz, n16] at e4zz
  rw [n0zz, n272] at e6zz
  subst e1zz e2zz e4zz e6zz hzz
  refine ⟨rfl, rfl, fun jzz hj => ?_, fun jzz hj => ?_⟩
  · show (if 0 ≤ jzz ∧ jzz < 0 + 16 then gA azz 0 (0 + (jzz - 0)) else _) = _
    rw [if_pos (by omega), Nat.zero_add, Nat.sub_zero]
  · show (if 0 ≤ jzz ∧ jzz < 0 + 272 then gA azz 1 (0 + (jzz - 0)) else _) = _
    rw [if_pos (by omega), Nat.zero_add, Nat.sub_zero]
set_option maxHeartbeats 200000 in
theorem gb35 {o' : Ob} {qzz : Int32} : ∀ (Nzz : Nat) (vzz : Int32) (o : Ob) (izz : Nat), vzz.toInt = (izz : Int) → izz ≤ 16 → lp_X9_giveBack_35 Nzz (qzz, vzz, o) = some o' → (∀ jzz, gA o' 7 jzz = if izz ≤ jzz ∧ jzz < 16 then gA o 10 jzz else gA o 7 jzz) ∧ gI o' 8 = qzz ∧ gA o' 3 = gA o 3 ∧ gA o' 6 = gA o 6 ∧ gI o' 20 = gI o 20 := by
  intro Nzz
  induction Nzz with
  | zero => intro vzz o izz _ _ hzz; cases hzz
  | succ Nzz ihzz =>
    intro vzz o izz evzz hizz hzz
    have hzz : lb_X9_giveBack_35 (lp_X9_giveBack_35 Nzz) qzz vzz o = some o' := hzz
    unfold lb_X9_giveBack_35 at hzz
    rcases z_if hzz with ⟨czz, hzz⟩ | ⟨czz, hzz⟩
    · have czz := cv_le (a := 16) (b := (izz : Int)) (by decide) evzz czz
      obtain ⟨o2, e2zz, hzz⟩ := z_lt hzz
      rw [← Option.some.inj hzz, e2zz]
      exact ⟨fun jzz => by rw [if_neg (by omega)]; rfl, rfl, rfl, rfl, rfl⟩
    · have czz := cv_nle (a := 16) (b := (izz : Int)) (by decide) evzz czz
      have ivzz : vzz.toNatClampNeg = izz := tnc_eq evzz
      rw [ivzz] at hzz
      have hzz := (z_gd (z_gd hzz).2).2
      obtain ⟨o5zz, e5zz, hzz⟩ := z_lt hzz
      obtain ⟨x6, e6zz, hzz⟩ := z_lt hzz
      obtain ⟨r1zz, r2, r3, r4, r5zz⟩ := ihzz x6 o5zz (izz + 1) (by rw [e6zz]; exact Eq.trans (i32_add evzz (by decide : (1 : Int32).toInt = 1) (by omega) (by omega)) (by omega)) (by omega) hzz
      have a7 : ∀ jzz, gA o5zz 7 jzz = if jzz = izz then gA o 10 izz else gA o 7 jzz := fun jzz => by rw [e5zz]; rfl
      have a10 : gA o5zz 10 = gA o 10 := by rw [e5zz]; rfl
      refine ⟨fun jzz => ?_, r2, r3.trans (by rw [e5zz]; rfl), r4.trans (by rw [e5zz]; rfl), r5zz.trans (by rw [e5zz]; rfl)⟩
      rw [r1zz, a10, a7]
      by_cases d : jzz = izz
      · rw [if_neg (by omega), if_pos d, if_pos (by omega), d]
      · by_cases d2zz : izz ≤ jzz ∧ jzz < 16
        · rw [if_pos (by omega), if_pos d2zz]
        · rw [if_neg (by omega), if_neg d, if_neg d2zz]
set_option maxHeartbeats 200000 in
theorem gb8 {o' : Ob} {qzz : Int32} : ∀ (Nzz : Nat) (vzz : Int32) (o : Ob) (izz : Nat), vzz.toInt = (izz : Int) → izz ≤ 400 → lp_X9_giveBack_8 Nzz (qzz, vzz, o) = some o' → ∃ o1, lp_X9_giveBack_35 zfu (qzz, 0, o1) = some o' ∧ (∀ jzz, gA o1 6 jzz = if izz ≤ jzz ∧ jzz < 400 then gA o 9 jzz else gA o 6 jzz) ∧ gA o1 7 = gA o 7 ∧ gA o1 10 = gA o 10 ∧ gA o1 3 = gA o 3 ∧ gI o1 20 = gI o 20 := by
  intro Nzz
  induction Nzz with
  | zero => intro vzz o izz _ _ hzz; cases hzz
  | succ Nzz ihzz =>
    intro vzz o izz evzz hizz hzz
    have hzz : lb_X9_giveBack_8 (lp_X9_giveBack_8 Nzz) qzz vzz o = some o' := hzz
    unfold lb_X9_giveBack_8 at hzz
    rcases z_if hzz with ⟨czz, hzz⟩ | ⟨czz, hzz⟩
    · have czz := cv_le (a := 400) (b := (izz : Int)) (by decide) evzz czz
      exact ⟨o, hzz, fun jzz => by rw [if_neg (by omega)], rfl, rfl, rfl, rfl⟩
    · have czz := cv_nle (a := 400) (b := (izz : Int)) (by decide) evzz czz
      have ivzz : vzz.toNatClampNeg = izz := tnc_eq evzz
      rw [ivzz] at hzz
      have hzz := (z_gd (z_gd hzz).2).2
      obtain ⟨o5zz, e5zz, hzz⟩ := z_lt hzz
      obtain ⟨x6, e6zz, hzz⟩ := z_lt hzz
      obtain ⟨o1, r0, r1zz, r2, r3, r4, r5zz⟩ := ihzz x6 o5zz (izz + 1) (by rw [e6zz]; exact Eq.trans (i32_add evzz (by decide : (1 : Int32).toInt = 1) (by omega) (by omega)) (by omega)) (by omega) hzz
      have a6 : ∀ jzz, gA o5zz 6 jzz = if jzz = izz then gA o 9 izz else gA o 6 jzz := fun jzz => by rw [e5zz]; rfl
      have a9 : gA o5zz 9 = gA o 9 := by rw [e5zz]; rfl
      refine ⟨o1, r0, fun jzz => ?_, r2.trans (by rw [e5zz]; rfl), r3.trans (by rw [e5zz]; rfl), r4.trans (by rw [e5zz]; rfl), r5zz.trans (by rw [e5zz]; rfl)⟩
      rw [r1zz, a9, a6]
      by_cases d : jzz = izz
      · rw [if_neg (by omega), if_pos d, if_pos (by omega), d]
      · by_cases d2zz : izz ≤ jzz ∧ jzz < 400
        · rw [if_pos (by omega), if_pos d2zz]
        · rw [if_neg (by omega), if_neg d, if_neg d2zz]
def BfR (o0zz o : Ob) : Prop := (∀ jzz, jzz < 400 → gA o 9 jzz = gA o0zz 6 jzz) ∧ (∀ jzz, jzz < 16 → gA o 10 jzz = gA o0zz 7 jzz) ∧ (∀ t, t < 25 → gA o 6 (425 + t) = gA o0zz 3 (4 + t))
def BfC (mv0 pa0 mvAzz paA : Ob) : Prop := ((∀ jzz, jzz < 7 → gA mvAzz 0 jzz = gA mv0 0 jzz) ∧ (∀ jzz, jzz < 7 → gA mvAzz 1 jzz = gA mv0 1 jzz) ∧ gI mvAzz 2 = gI mv0 2 ∧ gI mvAzz 3 = gI mv0 3 ∧ gI mvAzz 4 = gI mv0 4) ∧ gI paA 2 = gI pa0 2 ∧ gI paA 3 = gI pa0 3 ∧ (∀ jzz, jzz < 16 → gA paA 0 jzz = gA pa0 0 jzz) ∧ (∀ jzz, jzz < 272 → gA paA 1 jzz = gA pa0 1 jzz)
set_option maxHeartbeats 200000 in
theorem give_eq {pl : List CR} {isl mv0 pa0 mvAzz paA o0zz o o' mv mv' pa pa' : Ob} {n : Nat} (hSzz : TzS pl isl mv0 pa0 o0zz n) (hR : BfR o0zz o) (hC : BfC mv0 pa0 mvAzz paA) (hw : RwC n (gA o0zz 3) (gA o 3)) (h20 : gI o 20 = 0) (h1 : f_X4_set_O mv mvAzz = some mv') (h2 : f_X5_set_O pa paA = some pa') (h3 : f_X9_giveBack o (gI o0zz 8) = some o') : TzS pl isl mv' pa' o' n ∧ gA o' 3 = gA o0zz 3 := by
  obtain ⟨s1zz, s2zz, s3zz, s4zz, s5⟩ := setM h1
  obtain ⟨p1zz, p2zz, p3zz, p4zz⟩ := setP h2
  unfold f_X9_giveBack at h3
  obtain ⟨z1, e1zz, h3⟩ := z_bd h3
  have f1zz := fr_f_X9_putBack e1zz
  unfold f_X9_putBack at e1zz
  have d1zz := putBack_lp (mzz := 17) (by decide) (by decide) zfu 0 o 0 (by decide) (Nat.zero_le _) e1zz
  obtain ⟨o1, h3, a1zz, a2, a3, a4, a5⟩ := gb8 zfu 0 z1 0 (by decide) (Nat.zero_le _) h3
  obtain ⟨b1, b2, b3, b4, b5⟩ := gb35 zfu 0 o1 0 (by decide) (Nat.zero_le _) h3
  have eG : gA o' 3 = gA o0zz 3 := by
    rw [b3, a4]
    funext jzz
    rw [d1zz]
    by_cases czz : 4 + 0 ≤ jzz ∧ jzz < 29
    · have ej : 25 * 17 + (jzz - 4) = 425 + (jzz - 4) := by omega
      have e4zz : 4 + (jzz - 4) = jzz := by omega
      rw [if_pos czz, ej, hR.2.2 (jzz - 4) (by omega), e4zz]
    · rw [if_neg czz]
      exact hw jzz (by omega)
  have e7zz : ∀ jzz, jzz < 16 → gA o' 7 jzz = gA o0zz 7 jzz := fun jzz hj => by rw [b1, if_pos (by omega), a3, f1zz.A 10 rfl]; exact hR.2.1 jzz hj
  have e6zz : ∀ jzz, jzz < 400 → gA o' 6 jzz = gA o0zz 6 jzz := fun jzz hj => by rw [b4, a1zz, if_pos (by omega), f1zz.A 9 rfl]; exact hR.1 jzz hj
  refine ⟨?_, eG⟩
  refine hSzz.mv (by rw [eG]; exact RwC.rf) ?_ ?_ ?_
  · rw [eG]
    exact hSzz.2.1.ext (fun jzz hj => (s1zz jzz hj).trans (hC.1.1 jzz hj)) (fun jzz hj => (s2zz jzz hj).trans (hC.1.2.1 jzz hj)) (s3zz.trans hC.1.2.2.1) (s4zz.trans hC.1.2.2.2.1) (s5.trans hC.1.2.2.2.2) (fun _ _ _ => rfl)
  · rw [eG]
    obtain ⟨q0, sz, fi, q1zz, q2zz, q3zz, q4zz, q5zz⟩ := hSzz.2.2.1
    have k3zz : gI pa' 3 = gI pa0 3 := p2zz.trans hC.2.2.1
    have k2zz : gI pa' 2 = gI pa0 2 := p1zz.trans hC.2.1
    refine ⟨by rw [k3zz, b2]; exact q0, sz, fi, by rw [k3zz]; exact q1zz, q2zz, by rw [k2zz]; exact q3zz, q4zz, fun izz hizz => ?_⟩
    refine (q5zz izz hizz).mv ((p3zz _ (by omega)).trans (hC.2.2.2.1 _ (by omega))) (fun t ht => (p4zz _ (by omega)).trans (hC.2.2.2.2 _ (by omega))) (e7zz izz (by omega)) (fun t ht => e6zz _ (by omega)) (fun _ _ => rfl)
  · rw [b5, a5, f1zz.I 20 rfl, h20]; exact hSzz.2.2.2.2.1.symm
def StT (o8zz o : Ob) : Prop := gI o8zz 12 = gI o 1 ∧ ∀ jzz, jzz < 7 → gA o8zz 11 jzz = gA o 2 jzz
set_option maxHeartbeats 200000 in
theorem StT.eq {o8zz o o8' o' : Ob} (hzz : StT o8zz o) (azz : gI o8' 12 = gI o8zz 12) (bzz : gA o8' 11 = gA o8zz 11) (czz : gI o' 1 = gI o 1) (d : gA o' 2 = gA o 2) : StT o8' o' := ⟨by rw [azz, czz]; exact hzz.1, by rw [bzz, d]; exact hzz.2⟩
set_option maxHeartbeats 200000 in
theorem st_grant {o8zz o : Ob} {vzz : Int32} {zzz wzz : Int32 × Ob} (hzz : StT o8zz o) (hv : 0 ≤ vzz.toInt) (h1 : f_X8_grant o8zz vzz = some zzz) (h2 : f_X9_tell o vzz = some wzz) : zzz.1 = vzz ∧ wzz.1 = vzz ∧ StT zzz.2 wzz.2 := by
  unfold f_X8_grant at h1
  obtain ⟨o1, g1, h1⟩ := z_lt h1
  have h1 := Option.some.inj h1
  have hv' : (0 : Int32) ≤ vzz := Int32.le_iff_toInt_le.mpr (by rw [(by decide : (0 : Int32).toInt = 0)]; exact hv)
  unfold f_X9_tell at h2
  have h2 := z_t h2 hv'
  unfold bk_X9_tell_10 at h2
  obtain ⟨p1zz, k1zz, h2⟩ := z_lt h2
  have h2 := Option.some.inj (z_t h2 hv')
  rw [← h1, ← h2]
  refine ⟨rfl, rfl, ?_, fun jzz hj => ?_⟩
  · rw [g1, k1zz]; rfl
  · rw [g1, k1zz]; exact hzz.2 jzz hj
set_option maxHeartbeats 200000 in
theorem st_refuse {o8zz o : Ob} {vzz : Int32} {zzz wzz : Int32 × Ob} (hzz : StT o8zz o) (hv : vzz = -1 ∨ vzz = -2 ∨ vzz = -3 ∨ vzz = -5 ∨ vzz = -6) (h1 : f_X8_refuse o8zz vzz = some zzz) (h2 : f_X9_tell o vzz = some wzz) : zzz.1 = vzz ∧ wzz.1 = vzz ∧ StT zzz.2 wzz.2 := by
  have r0 : ¬ (0 : Int32) ≤ vzz := by rcases hv with qzz | qzz | qzz | qzz | qzz <;> subst qzz <;> decide
  have r6 : ¬ vzz < (-6 : Int32) := by rcases hv with qzz | qzz | qzz | qzz | qzz <;> subst qzz <;> decide
  obtain ⟨xzz, hx, ix⟩ : ∃ xzz : Nat, xzz < 7 ∧ (-vzz).toNatClampNeg = xzz := by
    rcases hv with qzz | qzz | qzz | qzz | qzz <;> subst qzz
    · exact ⟨1, by decide, by decide⟩
    · exact ⟨2, by decide, by decide⟩
    · exact ⟨3, by decide, by decide⟩
    · exact ⟨5, by decide, by decide⟩
    · exact ⟨6, by decide, by decide⟩
  unfold f_X8_refuse at h1
  obtain ⟨o1, g1, h1⟩ := z_lt h1
  have h1 := z_f (z_f h1 r0) r6
  obtain ⟨x2zz, q2zz, h1⟩ := z_lt h1
  have h1 := (z_gd (z_gd h1).2).2
  rw [q2zz, ix] at h1
  obtain ⟨o5zz, g5zz, h1⟩ := z_lt h1
  have h1 := Option.some.inj h1
  unfold f_X9_tell at h2
  have h2 := z_f h2 r0
  unfold bk_X9_tell_10 at h2
  obtain ⟨p1zz, k1zz, h2⟩ := z_lt h2
  have h2 := z_f h2 r0
  obtain ⟨y2, l2, h2⟩ := z_lt h2
  have h2 := (z_gd (z_gd h2).2).2
  rw [l2, ix] at h2
  obtain ⟨p5zz, k5zz, h2⟩ := z_lt h2
  have h2 := Option.some.inj h2
  rw [← h1, ← h2]
  refine ⟨rfl, rfl, ?_, fun jzz hj => ?_⟩
  · rw [g5zz, k5zz, g1, k1zz]; rfl
  · rw [g5zz, k5zz, g1, k1zz]
    show (if jzz = xzz then gA o8zz 11 xzz + 1 else gA o8zz 11 jzz) = (if jzz = xzz then gA o 2 xzz + 1 else gA o 2 jzz)
    by_cases czz : jzz = xzz
    · rw [if_pos czz, if_pos czz, hzz.2 xzz hx]
    · rw [if_neg czz, if_neg czz]; exact hzz.2 jzz hj
set_option maxHeartbeats 200000 in
theorem osum_20 {o : Ob} {pzz : Int32} {zzz : Int32 × Ob} (h0 : gI o 20 = 0) (hzz : f_X9_orderSum o pzz = some zzz) : gI zzz.2 20 = 0 := by
  unfold f_X9_orderSum at hzz
  rcases z_if hzz with ⟨-, hzz⟩ | ⟨-, hzz⟩
  · have hzz := (z_gd (z_gd hzz).2).2
    rcases z_if hzz with ⟨-, hzz⟩ | ⟨-, hzz⟩
    · rw [← Option.some.inj hzz]; exact h0
    · obtain ⟨o3zz, e3zz, hzz⟩ := z_lt hzz
      have hzz := (z_gd (z_gd hzz).2).2
      obtain ⟨wzz, ew, hzz⟩ := z_bd hzz
      obtain ⟨o7, e7zz, hzz⟩ := z_lt hzz
      have hzz := (z_gd hzz).2
      obtain ⟨o9, e9zz, hzz⟩ := z_lt hzz
      rw [← Option.some.inj hzz, e9zz, e7zz]; rfl
  · rw [← Option.some.inj hzz]; exact h0
set_option maxHeartbeats 200000 in
theorem run106_20 {o : Ob} {xzz : Int32} {yzz : Int32 × Ob} (h0 : gI o 20 = 0) (hzz : bk_X9_run_106 xzz o = some yzz) : gI yzz.2 20 = 0 := by
  unfold bk_X9_run_106 at hzz
  obtain ⟨zzz, ezz, hzz⟩ := z_bd hzz
  have kzz := osum_20 h0 ezz
  rcases z_if hzz with ⟨-, hzz⟩ | ⟨-, hzz⟩
  · have hzz := (z_gd hzz).2
    obtain ⟨wzz, e2zz, hzz⟩ := z_bd hzz
    have k2zz : gI wzz.2 20 = 0 := ((fr_f_X9_act e2zz).I 20 rfl).trans kzz
    rcases z_if hzz with ⟨-, hzz⟩ | ⟨-, hzz⟩
    · have hzz := (z_gd hzz).2
      rcases z_if hzz with ⟨-, hzz⟩ | ⟨-, hzz⟩
      · unfold bk_X9_run_161 at hzz
        obtain ⟨o14, g14, hzz⟩ := z_lt hzz
        obtain ⟨o15, g15, hzz⟩ := z_lt hzz
        rw [← Option.some.inj hzz, g15, g14]; exact k2zz
      · unfold bk_X9_run_161 at hzz
        obtain ⟨o14, g14, hzz⟩ := z_lt hzz
        obtain ⟨o15, g15, hzz⟩ := z_lt hzz
        rw [← Option.some.inj hzz, g15, g14]; exact k2zz
    · rw [← Option.some.inj hzz]; exact k2zz
  · rw [← Option.some.inj hzz]; exact kzz
set_option maxHeartbeats 200000 in
theorem run_20 {o : Ob} {xzz : Int32} {yzz : Int32 × Ob} (h0 : gI o 20 = 0) (hzz : f_X9_run o xzz = some yzz) : gI yzz.2 20 = 0 := by
  unfold f_X9_run at hzz
  obtain ⟨o1, g1, hzz⟩ := z_lt hzz
  obtain ⟨o2, g2, hzz⟩ := z_lt hzz
  obtain ⟨o3zz, g3zz, hzz⟩ := z_lt hzz
  obtain ⟨o4zz, g4, hzz⟩ := z_lt hzz
  obtain ⟨w5, e5zz, hzz⟩ := z_bd hzz
  obtain ⟨o6, g6, hzz⟩ := z_lt hzz
  obtain ⟨o7, g7, hzz⟩ := z_lt hzz
  have k7zz : gI o7 20 = 0 := by rw [g7, g6, g4, g3zz, g2, g1]; exact h0
  have hzz := (z_gd (z_gd hzz).2).2
  rcases z_if hzz with ⟨-, hzz⟩ | ⟨-, hzz⟩
  · exact run106_20 k7zz hzz
  · obtain ⟨zzz, ezz, hzz⟩ := z_bd hzz
    have kzz := osum_20 k7zz ezz
    rcases z_if hzz with ⟨-, hzz⟩ | ⟨-, hzz⟩
    · rcases z_if hzz with ⟨-, hzz⟩ | ⟨-, hzz⟩
      · rw [← Option.some.inj hzz]; exact kzz
      · exact run106_20 kzz hzz
    · rw [← Option.some.inj hzz]; exact kzz
set_option maxHeartbeats 200000 in
theorem end_20 {o zzz : Ob} (hzz : f_X9_endText o = some zzz) : gI zzz 20 = 0 := by
  have ezz : ∀ wzz : Ob, bk_X9_endText_19 wzz = some zzz → gI zzz 20 = 0 := by
    intro wzz hzz
    unfold bk_X9_endText_19 at hzz
    obtain ⟨q1zz, gq1, hzz⟩ := z_lt hzz
    obtain ⟨q2zz, gq2, hzz⟩ := z_lt hzz
    rw [← Option.some.inj hzz, gq2, gq1]; rfl
  unfold f_X9_endText at hzz
  rcases z_if hzz with ⟨-, hzz⟩ | ⟨-, hzz⟩
  · rcases z_if hzz with ⟨-, hzz⟩ | ⟨-, hzz⟩
    · exact ezz _ hzz
    · obtain ⟨wzz, -, hzz⟩ := z_bd hzz
      exact ezz _ hzz
  · exact ezz _ hzz
def OJ (pl : List CR) (isl : Ob) (n : Nat) (oc : Ob) (qzz K1 K2 : Nat) (o0zz o8zz mv pa o : Ob) (Dzz : Nat) : Prop :=
  TzS pl isl mv pa o n ∧ (gI o8zz 15 = gI o 56 ∧ gI o8zz 16 = gI o 57) ∧ (StT o8zz o ∧ gI o8zz 14 = gI o 58) ∧ BfR o0zz o ∧ RwC n (gA o0zz 3) (gA o 3) ∧ (gI o 21).toInt = (qzz : Int) ∧ (∀ mzz, mzz < qzz → ClE true oc (gA o 55) (gA o 24) (gA o 25) mzz K1 K2) ∧ (∃ d : Nat, (gI o 56).toInt = (d : Int) ∧ d ≤ Dzz)
def OrdO (pl : List CR) (isl : Ob) (n : Nat) (o0zz : Ob) (yzz : Int32 × Ob × Ob × Ob × Ob × Ob × Ob × Ob × Ob × Ob) (y' : Int32 × Ob) : Prop := yzz.1 = y'.1 ∧ TzS pl isl yzz.2.2.2.2.2.1 yzz.2.2.2.2.2.2.2.1 y'.2 n ∧ RwC n (gA o0zz 3) (gA y'.2 3) ∧ StT yzz.2.1 y'.2 ∧ gI yzz.2.1 14 = gI y'.2 58
set_option maxHeartbeats 200000 in
theorem ord_in {pl : List CR} {isl oc o0zz mv0 pa0 mvAzz paA rd : Ob} {n qzz K1 K2 nc ns mzz : Nat} {v3 : Int32} {rec78 : Int32 × Ob × Ob × Ob × Ob × Ob × Ob × Ob × Ob × Ob → Option (Int32 × Ob × Ob × Ob × Ob × Ob × Ob × Ob × Ob × Ob)} {rec140 : Int32 × Int32 × Ob → Option (Int32 × Ob)} {yzz : Int32 × Ob × Ob × Ob × Ob × Ob × Ob × Ob × Ob × Ob} {y' : Int32 × Ob}
    (hS0 : TzS pl isl mv0 pa0 o0zz n) (hC : BfC mv0 pa0 mvAzz paA) (hK8 : (gI oc 8).toInt = (K1 : Int)) (hK1 : K1 ≤ 400) (hK2 : K2 ≤ 400) (hq : qzz ≤ 12) (hmzz : mzz < qzz) (e3zz : v3.toInt = (mzz : Int))
    (hrec : ∀ (xzz : Int32) (o8zz mezz mv czz pa o : Ob), xzz.toInt = ((mzz + 1 : Nat) : Int) → OJ pl isl n oc qzz K1 K2 o0zz o8zz mv pa o (20 * (mzz + 1)) → rec78 (xzz, o8zz, rd, oc, mezz, mv, czz, pa, paA, mvAzz) = some yzz → rec140 (gI o0zz 8, xzz, o) = some y' → OrdO pl isl n o0zz yzz y') :
    ∀ (Nzz N' : Nat) (v4zz : Int32) (o8zz mezz mv czz pa o : Ob) (t : Nat), v4zz.toInt = (t : Int) → t ≤ 20 → OJ pl isl n oc qzz K1 K2 o0zz o8zz mv pa o (20 * mzz + t) → lp_X8_orders_89 nc ns isl pl rec78 Nzz (v3, v4zz, o8zz, rd, oc, mezz, mv, czz, pa, paA, mvAzz) = some yzz → lp_X9_orders_150 rec140 N' (gI o0zz 8, v3, v4zz, o) = some y' → OrdO pl isl n o0zz yzz y' := by
  intro Nzz
  induction Nzz with
  | zero => intro N' v4zz o8zz mezz mv czz pa o t _ _ _ h1; cases h1
  | succ Nzz ihzz =>
    intro N' v4zz o8zz mezz mv czz pa o t e4zz ht hJ h1 h2
    cases N' with
    | zero => cases h2
    | succ N' =>
    obtain ⟨hSzz, ⟨hdzz, hl⟩, ⟨hst, h14⟩, hBzz, hw, h21, hcl, d, ed, hdD⟩ := hJ
    have h1 : lb_X8_orders_89 nc ns isl pl rec78 (lp_X8_orders_89 nc ns isl pl rec78 Nzz) v3 v4zz o8zz rd oc mezz mv czz pa paA mvAzz = some yzz := h1
    have h2 : lb_X9_orders_150 rec140 (lp_X9_orders_150 rec140 N') (gI o0zz 8) v3 v4zz o = some y' := h2
    unfold lb_X8_orders_89 at h1
    unfold lb_X9_orders_150 at h2
    have i3zz : v3.toNatClampNeg = mzz := tnc_eq e3zz
    have t8 : ((8 : Int32) * v3).toInt = 8 * (mzz : Int) := i32_mul (by decide : (8 : Int32).toInt = 8) e3zz (by omega) (by omega)
    have i7zz : (((8 : Int32) * v3) + (7 : Int32)).toNatClampNeg = 8 * mzz + 7 := tnc_eq (by rw [i32_add t8 (by decide : (7 : Int32).toInt = 7) (by omega) (by omega)]; omega)
    rw [i3zz] at h1
    rw [i7zz] at h2
    have h1 := (z_gd h1).2
    have h2 := (z_gd h2).2
    have hcm := hcl mzz hmzz
    obtain ⟨_, _, _, _, _, _, _, _, _, _, _, _, _, _, _, _, _, _, _, htm⟩ := id hcm
    obtain ⟨m1zz, m2zz, m3zz⟩ := htm rfl
    rw [← m1zz] at h2
    by_cases c0zz : gA oc 1 mzz ≤ v4zz
    · have h1 := z_t h1 c0zz
      have h2 := z_t h2 c0zz
      obtain ⟨x10, g10, h1⟩ := z_lt h1
      obtain ⟨x12, g12, h2⟩ := z_lt h2
      have qx : x12 = x10 := g12.trans g10.symm
      rw [qx] at h2
      have tx : x10.toInt = ((mzz + 1 : Nat) : Int) := by rw [g10]; exact Eq.trans (i32_add e3zz (by decide : (1 : Int32).toInt = 1) (by omega) (by omega)) (by omega)
      exact hrec x10 o8zz mezz mv czz pa o tx ⟨hSzz, ⟨hdzz, hl⟩, ⟨hst, h14⟩, hBzz, hw, h21, hcl, d, ed, by omega⟩ h1 h2
    · have c0' := cv_nle (a := (gA oc 1 mzz).toInt) (b := (t : Int)) rfl e4zz c0zz
      have h1 := z_f h1 c0zz
      have h2 := z_f h2 c0zz
      obtain ⟨z11, k11, h1⟩ := z_bd h1
      obtain ⟨w13zz, k13, h2⟩ := z_bd h2
      have f8zz := (fr_f_X8_obey_O k11).1
      have f9zz := fr_f_X9_run k13
      obtain ⟨r1zz, r2, r3⟩ := run_eq hSzz hdzz hl hK8 hK1 hK2 (by omega) hcm e3zz t8 k11 k13
      have hw' : RwC n (gA o0zz 3) (gA w13zz.2 3) := hw.tr r1zz
      have hB' : BfR o0zz w13zz.2 := ⟨fun jzz hj => by rw [f9zz.A 9 rfl]; exact hBzz.1 jzz hj, fun jzz hj => by rw [f9zz.A 10 rfl]; exact hBzz.2.1 jzz hj, fun t' ht' => by rw [r2 (425 + t') (by omega)]; exact hBzz.2.2 t' ht'⟩
      have hst' : StT z11.2.1 w13zz.2 := hst.eq (f8zz.I 12 rfl) (f8zz.A 11 rfl) (f9zz.I 1 rfl) (f9zz.A 2 rfl)
      rcases r3 with ⟨u1zz, u2zz⟩ | ⟨u1zz, u2zz, u3, u4zz, u5, u6⟩
      · have h1 := z_t h1 u1zz
        have h2 := z_f h2 (by rw [u2zz]; decide)
        obtain ⟨o13, g13, h1⟩ := z_lt h1
        obtain ⟨z14zz, k14, h1⟩ := z_bd h1
        obtain ⟨z15, k15, h1⟩ := z_bd h1
        obtain ⟨z16, k16, h1⟩ := z_bd h1
        have h1 := Option.some.inj h1
        obtain ⟨w15, l15, h2⟩ := z_bd h2
        obtain ⟨o16, l16, h2⟩ := z_lt h2
        obtain ⟨w17, l17, h2⟩ := z_bd h2
        have h2 := Option.some.inj h2
        have fg := fr_f_X9_giveBack l15
        have ft := fr_f_X9_tell l17
        have fr := fr_f_X8_refuse k16
        have k20 : gI w13zz.2 20 = 0 := run_20 hSzz.2.2.2.2.1 k13
        obtain ⟨v1zz, v2⟩ := give_eq hS0 hB' hC hw' k20 k14 k15 l15
        have hs16 : StT o13 o16 := hst'.eq (by rw [g13]; rfl) (by rw [g13]; rfl) (by rw [l16]; exact fg.I 1 rfl) (by rw [l16]; exact fg.A 2 rfl)
        obtain ⟨s1zz, s2zz, s3zz⟩ := st_refuse hs16 (Or.inr (Or.inr (Or.inl rfl))) k16 l17
        have e3' : gA w17.2 3 = gA w15 3 := (ft.A 3 rfl).trans (by rw [l16]; rfl)
        rw [← h1, ← h2]
        refine ⟨s1zz.trans s2zz.symm, ?_, ?_, s3zz, ?_⟩
        · exact v1zz.sc e3' ((ft.I 8 rfl).trans (by rw [l16]; rfl)) ((ft.A 6 rfl).trans (by rw [l16]; rfl)) ((ft.A 7 rfl).trans (by rw [l16]; rfl)) ((ft.I 20 rfl).trans (by rw [l16]; rfl))
        · show RwC n (gA o0zz 3) (gA w17.2 3)
          rw [e3', v2]; exact RwC.rf
        · show gI z16.2 14 = gI w17.2 58
          rw [fr.I 14 rfl, ft.I 58 rfl, g13, l16]; rfl
      · have h1 := z_f h1 (by rw [u1zz]; decide)
        have h2 := z_t h2 (by rw [u2zz]; decide)
        obtain ⟨x12, g12, h1⟩ := z_lt h1
        obtain ⟨x14, l14, h2⟩ := z_lt h2
        have qx : x14 = x12 := l14.trans g12.symm
        rw [qx] at h2
        have tx : x12.toInt = ((t + 1 : Nat) : Int) := by rw [g12]; exact Eq.trans (i32_add e4zz (by decide : (1 : Int32).toInt = 1) (by omega) (by omega)) (by omega)
        have hdn : ∃ d' : Nat, (gI w13zz.2 56).toInt = (d' : Int) ∧ d' ≤ 20 * mzz + (t + 1) := by
          rcases u6 with uzz | uzz
          · exact ⟨d, by rw [uzz]; exact ed, by omega⟩
          · exact ⟨d + 1, by rw [uzz]; exact Eq.trans (i32_add ed (by decide : (1 : Int32).toInt = 1) (by omega) (by omega)) (by omega), by omega⟩
        exact ihzz N' x12 z11.2.1 z11.2.2.1 z11.2.2.2.1 z11.2.2.2.2.1 z11.2.2.2.2.2 w13zz.2 (t + 1) tx (by omega) ⟨u3, ⟨u4zz, u5⟩, ⟨hst', by rw [f8zz.I 14 rfl, f9zz.I 58 rfl]; exact h14⟩, hB', hw', by rw [f9zz.I 21 rfl]; exact h21, fun m' hm' => by rw [f9zz.A 55 rfl, f9zz.A 24 rfl, f9zz.A 25 rfl]; exact hcl m' hm', hdn⟩ h1 h2
set_option maxHeartbeats 200000 in
theorem ord_out {pl : List CR} {isl oc o0zz mv0 pa0 mvAzz paA rd : Ob} {n qzz K1 K2 nc ns : Nat} {yzz : Int32 × Ob × Ob × Ob × Ob × Ob × Ob × Ob × Ob × Ob} {y' : Int32 × Ob}
    (hS0 : TzS pl isl mv0 pa0 o0zz n) (hC : BfC mv0 pa0 mvAzz paA) (hK8 : (gI oc 8).toInt = (K1 : Int)) (hK1 : K1 ≤ 400) (hK2 : K2 ≤ 400) (hq : qzz ≤ 12) (h7 : (gI oc 7).toInt = (qzz : Int)) :
    ∀ (Nzz N' : Nat) (v3 : Int32) (o8zz mezz mv czz pa o : Ob) (mzz : Nat), v3.toInt = (mzz : Int) → mzz ≤ qzz → OJ pl isl n oc qzz K1 K2 o0zz o8zz mv pa o (20 * mzz) → lp_X8_orders_78 nc ns isl pl Nzz (v3, o8zz, rd, oc, mezz, mv, czz, pa, paA, mvAzz) = some yzz → lp_X9_orders_140 N' (gI o0zz 8, v3, o) = some y' → OrdO pl isl n o0zz yzz y' := by
  intro Nzz
  induction Nzz with
  | zero => intro N' v3 o8zz mezz mv czz pa o mzz _ _ _ h1; cases h1
  | succ Nzz ihzz =>
    intro N' v3 o8zz mezz mv czz pa o mzz e3zz hmzz hJ h1 h2
    cases N' with
    | zero => cases h2
    | succ N' =>
    have h1 : lb_X8_orders_78 nc ns isl pl (lp_X8_orders_78 nc ns isl pl Nzz) v3 o8zz rd oc mezz mv czz pa paA mvAzz = some yzz := h1
    have h2 : lb_X9_orders_140 (lp_X9_orders_140 N') (gI o0zz 8) v3 o = some y' := h2
    unfold lb_X8_orders_78 at h1
    unfold lb_X9_orders_140 at h2
    have e21zz : gI o 21 = gI oc 7 := Int32.toInt_inj.mp (by rw [hJ.2.2.2.2.2.1, h7])
    rw [e21zz] at h2
    by_cases c0zz : gI oc 7 ≤ v3
    · obtain ⟨hSzz, ⟨hdzz, hl⟩, ⟨hst, h14⟩, hBzz, hw, h21, hcl, d, ed, hdD⟩ := hJ
      have h1 := z_t h1 c0zz
      have h2 := z_t h2 c0zz
      obtain ⟨z8, k8zz, h1⟩ := z_bd h1
      obtain ⟨w10zz, k10, h2⟩ := z_bd h2
      have h1 := Option.some.inj h1
      have h2 := Option.some.inj h2
      rw [hdzz] at k8zz
      obtain ⟨s1zz, s2zz, s3zz⟩ := st_grant hst (by omega) k8zz k10
      have ft := fr_f_X9_tell k10
      have fg := fr_f_X8_grant k8zz
      rw [← h1, ← h2]
      refine ⟨s1zz.trans s2zz.symm, hSzz.sc (ft.A 3 rfl) (ft.I 8 rfl) (ft.A 6 rfl) (ft.A 7 rfl) (ft.I 20 rfl), ?_, s3zz, ?_⟩
      · show RwC n (gA o0zz 3) (gA w10zz.2 3)
        rw [ft.A 3 rfl]; exact hw
      · show gI z8.2 14 = gI w10zz.2 58
        rw [fg.I 14 rfl, ft.I 58 rfl]; exact h14
    · have h1 := z_f h1 c0zz
      have h2 := z_f h2 c0zz
      have c0' := cv_nle (a := (qzz : Int)) (b := (mzz : Int)) h7 e3zz c0zz
      exact ord_in hS0 hC hK8 hK1 hK2 hq (by omega) e3zz (fun xzz o8' me' mv' c' pa' o' exzz hJ' g1 g2 => ihzz N' xzz o8' me' mv' c' pa' o' (mzz + 1) exzz (by omega) hJ' g1 g2) zfu zfu 0 o8zz mezz mv czz pa o 0 (by decide) (by omega) hJ h1 h2
def dB9 : DD := ([], [], [9, 10], [], [])
set_option maxHeartbeats 200000 in
theorem ord77 {yzz : Int32 × Ob} {qzz : Int32} : ∀ (Nzz : Nat) (vzz : Int32) (o : Ob) (izz : Nat), vzz.toInt = (izz : Int) → izz ≤ 400 → lp_X9_orders_77 Nzz (qzz, vzz, o) = some yzz → ∃ o1, lp_X9_orders_104 zfu (qzz, 0, o1) = some yzz ∧ (∀ jzz, gA o1 9 jzz = if izz ≤ jzz ∧ jzz < 400 then gA o 6 jzz else gA o 9 jzz) ∧ FrX dB9 o o1 := by
  intro Nzz
  induction Nzz with
  | zero => intro vzz o izz _ _ hzz; cases hzz
  | succ Nzz ihzz =>
    intro vzz o izz evzz hizz hzz
    have hzz : lb_X9_orders_77 (lp_X9_orders_77 Nzz) qzz vzz o = some yzz := hzz
    unfold lb_X9_orders_77 at hzz
    rcases z_if hzz with ⟨czz, hzz⟩ | ⟨czz, hzz⟩
    · have czz := cv_le (a := 400) (b := (izz : Int)) (by decide) evzz czz
      exact ⟨o, hzz, fun jzz => by rw [if_neg (by omega)], FrX.rf⟩
    · have czz := cv_nle (a := 400) (b := (izz : Int)) (by decide) evzz czz
      have ivzz : vzz.toNatClampNeg = izz := tnc_eq evzz
      rw [ivzz] at hzz
      have hzz := (z_gd (z_gd hzz).2).2
      obtain ⟨o5zz, e5zz, hzz⟩ := z_lt hzz
      obtain ⟨x6, e6zz, hzz⟩ := z_lt hzz
      obtain ⟨o1, r0, r1zz, r2⟩ := ihzz x6 o5zz (izz + 1) (by rw [e6zz]; exact Eq.trans (i32_add evzz (by decide : (1 : Int32).toInt = 1) (by omega) (by omega)) (by omega)) (by omega) hzz
      have a9 : ∀ jzz, gA o5zz 9 jzz = if jzz = izz then gA o 6 izz else gA o 9 jzz := fun jzz => by rw [e5zz]; rfl
      have a6 : gA o5zz 6 = gA o 6 := by rw [e5zz]; rfl
      refine ⟨o1, r0, fun jzz => ?_, FrX.tr (by rw [e5zz]; exact FrX.tA FrX.rf rfl) r2⟩
      rw [r1zz, a6, a9]
      by_cases d : jzz = izz
      · rw [if_neg (by omega), if_pos d, if_pos (by omega), d]
      · by_cases d2zz : izz ≤ jzz ∧ jzz < 400
        · rw [if_pos (by omega), if_pos d2zz]
        · rw [if_neg (by omega), if_neg d, if_neg d2zz]
set_option maxHeartbeats 200000 in
theorem ord104 {yzz : Int32 × Ob} {qzz : Int32} : ∀ (Nzz : Nat) (vzz : Int32) (o : Ob) (izz : Nat), vzz.toInt = (izz : Int) → izz ≤ 16 → lp_X9_orders_104 Nzz (qzz, vzz, o) = some yzz → ∃ o1, lp_X9_orders_140 zfu (qzz, 0, sI (sI o1 56 0) 57 (-1)) = some yzz ∧ (∀ jzz, gA o1 10 jzz = if izz ≤ jzz ∧ jzz < 16 then gA o 7 jzz else gA o 10 jzz) ∧ gA o1 9 = gA o 9 ∧ FrX dB9 o o1 := by
  intro Nzz
  induction Nzz with
  | zero => intro vzz o izz _ _ hzz; cases hzz
  | succ Nzz ihzz =>
    intro vzz o izz evzz hizz hzz
    have hzz : lb_X9_orders_104 (lp_X9_orders_104 Nzz) qzz vzz o = some yzz := hzz
    unfold lb_X9_orders_104 at hzz
    rcases z_if hzz with ⟨czz, hzz⟩ | ⟨czz, hzz⟩
    · have czz := cv_le (a := 16) (b := (izz : Int)) (by decide) evzz czz
      obtain ⟨o8zz, e8, hzz⟩ := z_lt hzz
      obtain ⟨o9, e9zz, hzz⟩ := z_lt hzz
      rw [e9zz, e8] at hzz
      exact ⟨o, hzz, fun jzz => by rw [if_neg (by omega)], rfl, FrX.rf⟩
    · have czz := cv_nle (a := 16) (b := (izz : Int)) (by decide) evzz czz
      have ivzz : vzz.toNatClampNeg = izz := tnc_eq evzz
      rw [ivzz] at hzz
      have hzz := (z_gd (z_gd hzz).2).2
      obtain ⟨o5zz, e5zz, hzz⟩ := z_lt hzz
      obtain ⟨x6, e6zz, hzz⟩ := z_lt hzz
      obtain ⟨o1, r0, r1zz, r9, r2⟩ := ihzz x6 o5zz (izz + 1) (by rw [e6zz]; exact Eq.trans (i32_add evzz (by decide : (1 : Int32).toInt = 1) (by omega) (by omega)) (by omega)) (by omega) hzz
      have a9 : ∀ jzz, gA o5zz 10 jzz = if jzz = izz then gA o 7 izz else gA o 10 jzz := fun jzz => by rw [e5zz]; rfl
      have a6 : gA o5zz 7 = gA o 7 := by rw [e5zz]; rfl
      refine ⟨o1, r0, fun jzz => ?_, r9.trans (by rw [e5zz]; rfl), FrX.tr (by rw [e5zz]; exact FrX.tA FrX.rf rfl) r2⟩
      rw [r1zz, a6, a9]
      by_cases d : jzz = izz
      · rw [if_neg (by omega), if_pos d, if_pos (by omega), d]
      · by_cases d2zz : izz ≤ jzz ∧ jzz < 16
        · rw [if_pos (by omega), if_pos d2zz]
        · rw [if_neg (by omega), if_neg d, if_neg d2zz]
set_option maxHeartbeats 200000 in
theorem orders_eq {pl : List CR} {isl mv pa czz mezz o8zz rd oc paA mvAzz o : Ob} {n : Nat} {yzz : Int32 × Ob × Ob × Ob × Ob × Ob × Ob × Ob × Ob × Ob} {y' : Int32 × Ob} (hSzz : TzS pl isl mv pa o n) (hst : StT o8zz o) (hz : TZ rd o) (ht : TbW o) (hH : HDs o) (h1 : f_X8_orders 12 400 o8zz rd oc mezz isl mv czz pa paA mvAzz pl = some yzz) (h2 : f_X9_orders o = some y') : OrdO pl isl n o yzz y' := by
  unfold f_X8_orders at h1
  obtain ⟨p1zz, g1, h1⟩ := z_lt h1
  obtain ⟨z2, k2zz, h1⟩ := z_bd h1
  obtain ⟨p3zz, g3zz, h1⟩ := z_lt h1
  unfold f_X9_orders at h2
  obtain ⟨o1, l1, h2⟩ := z_lt h2
  obtain ⟨o2, l2, h2⟩ := z_lt h2
  obtain ⟨z3, l3, h2⟩ := z_bd h2
  obtain ⟨z4, l4, h2⟩ := z_bd h2
  have A2 : ∀ izz, gA o2 izz = gA o izz := fun izz => by rw [l2, l1]; rfl
  have M2zz : ∀ izz, gM o2 izz = gM o izz := fun izz => by rw [l2, l1]; rfl
  have k13 : gI o2 13 = gI o 13 := by rw [l2, l1]; rfl
  have hz2 : TZ rd o2 := ⟨by rw [k13]; exact hz.1, by rw [A2]; exact hz.2.1, by rw [k13]; exact hz.2.2.1, by rw [k13]; exact hz.2.2.2⟩
  have ht2 : TbW o2 := ⟨fun kzz hk => by rw [M2zz]; exact ht.1 kzz hk, fun kzz hk => by rw [M2zz]; exact ht.2 kzz hk⟩
  have hH2 : HDs o2 := ⟨fun kzz hk => by rw [M2zz]; exact hH.1 kzz hk, fun kzz hk => by rw [M2zz]; exact hH.2 kzz hk⟩
  obtain ⟨wzz, hw, ⟨w3zz, wF⟩, hx⟩ := parse_O hz2 ht2 hH2 k2zz l3 l4 h2
  rw [A2] at w3zz
  unfold bk_X9_orders_46 at hw
  obtain ⟨z5, k5zz, hw⟩ := z_bd hw
  have f5zz := fr_f_X9_endText k5zz
  have hst1 : StT p1zz z5 := hst.eq (by rw [g1]; rfl) (by rw [g1]; rfl) ((f5zz.I 1 rfl).trans ((wF.I 1 rfl).trans (by rw [l2, l1]; rfl))) ((f5zz.A 2 rfl).trans ((wF.A 2 rfl).trans (A2 2)))
  have e53 : gA z5 3 = gA o 3 := (f5zz.A 3 rfl).trans w3zz
  have k20 : gI z5 20 = 0 := end_20 k5zz
  have e58 : gI z5 58 = -1 := (f5zz.I 58 rfl).trans ((wF.I 58 rfl).trans (by rw [l2]; rfl))
  have hS5 : TzS pl isl mv pa z5 n := hSzz.sc e53 ((f5zz.I 8 rfl).trans ((wF.I 8 rfl).trans (by rw [l2, l1]; rfl))) ((f5zz.A 6 rfl).trans ((wF.A 6 rfl).trans (A2 6))) ((f5zz.A 7 rfl).trans ((wF.A 7 rfl).trans (A2 7))) (k20.trans hSzz.2.2.2.2.1.symm)
  have e14zz : gI p1zz 14 = gI z5 58 := by rw [e58, g1]; rfl
  rcases hx with ⟨a1zz, hbzz⟩ | ⟨a1zz, a2, a3, k1zz, k2', qzz, hq1, hq2, hC⟩
  ·
    have h1 := z_t h1 a1zz
    have e19zz : ¬ gI z5 19 = 0 := by
      unfold f_X9_endText at k5zz
      rcases hbzz with ⟨b1, b2⟩ | ⟨b1, b2, b3⟩
      · have k5zz := z_f k5zz (by rw [b1]; decide)
        unfold bk_X9_endText_19 at k5zz
        obtain ⟨q1zz, gq1, k5zz⟩ := z_lt k5zz
        obtain ⟨q2zz, gq2, k5zz⟩ := z_lt k5zz
        rw [← Option.some.inj k5zz, gq2, gq1]
        show ¬ gI wzz 19 = 0
        rw [b1]; decide
      · obtain ⟨zm, ezm, k5zz⟩ := z_bd (z_f (z_t k5zz b1) b2)
        have em := mu_no b1 ezm
        unfold bk_X9_endText_19 at k5zz
        obtain ⟨q1zz, gq1, k5zz⟩ := z_lt k5zz
        obtain ⟨q2zz, gq2, k5zz⟩ := z_lt k5zz
        rw [← Option.some.inj k5zz, gq2, gq1, em]
        show ¬ (1 : Int32) = 0
        decide
    obtain ⟨z17, k17, h1⟩ := z_bd h1
    have h1 := Option.some.inj h1
    obtain ⟨w26, k26, hw⟩ := z_bd (z_f hw e19zz)
    have hw := Option.some.inj hw
    obtain ⟨s1zz, s2zz, s3zz⟩ := st_refuse hst1 (Or.inr (Or.inr (Or.inr (Or.inr rfl)))) k17 k26
    have ft := fr_f_X9_tell k26
    have fr := fr_f_X8_refuse k17
    rw [← h1, ← hw]
    refine ⟨s1zz.trans s2zz.symm, hS5.sc (ft.A 3 rfl) (ft.I 8 rfl) (ft.A 6 rfl) (ft.A 7 rfl) (ft.I 20 rfl), ?_, s3zz, ?_⟩
    · show RwC n (gA o 3) (gA w26.2 3)
      rw [ft.A 3 rfl, e53]; exact RwC.rf
    · show gI z17.2 14 = gI w26.2 58
      rw [fr.I 14 rfl, ft.I 58 rfl]; exact e14zz
  · have h1 := z_f h1 (by rw [a1zz]; decide)
    have e19zz : gI z5 19 = 0 := by
      unfold f_X9_endText at k5zz
      have k5zz := z_t (z_t k5zz a2) a3
      unfold bk_X9_endText_19 at k5zz
      obtain ⟨q1zz, gq1, k5zz⟩ := z_lt k5zz
      obtain ⟨q2zz, gq2, k5zz⟩ := z_lt k5zz
      rw [← Option.some.inj k5zz, gq2, gq1]; exact a2
    obtain ⟨zA, kAzz, h1⟩ := z_bd h1
    obtain ⟨zP, kPzz, h1⟩ := z_bd h1
    obtain ⟨p6zz, g6, h1⟩ := z_lt h1
    obtain ⟨p7zz, g7, h1⟩ := z_lt h1
    obtain ⟨z6, k6zz, hw⟩ := z_bd (z_t hw e19zz)
    obtain ⟨x7, q7zz, hw⟩ := z_lt hw
    have f6zz := fr_f_X9_keepAll k6zz
    unfold f_X9_keepAll at k6zz
    have d6zz := keepAll_lp (mzz := 17) (by decide) (by decide) zfu 0 z5 0 (by decide) (Nat.zero_le _) k6zz
    obtain ⟨u1zz, hw, v9, F1zz⟩ := ord77 zfu 0 z6 0 (by decide) (Nat.zero_le _) hw
    obtain ⟨u2zz, hw, v10, v99, F2⟩ := ord104 zfu 0 u1zz 0 (by decide) (Nat.zero_le _) hw
    have e8 : x7 = gI o 8 := by
      rw [q7zz, f6zz.I 8 rfl]
      exact (f5zz.I 8 rfl).trans ((wF.I 8 rfl).trans (by rw [l2, l1]; rfl))
    rw [e8] at hw
    have e6o : ∀ jzz, jzz < 400 → gA z6 6 jzz = gA o 6 jzz := by
      intro jzz hj
      rw [d6zz, if_neg (by omega), f5zz.A 6 rfl, wF.A 6 rfl, A2]
    have e7o : gA u1zz 7 = gA o 7 := (F1zz.A 7 rfl).trans ((f6zz.A 7 rfl).trans ((f5zz.A 7 rfl).trans ((wF.A 7 rfl).trans (A2 7))))
    have e3u : gA u2zz 3 = gA o 3 := (F2.A 3 rfl).trans ((F1zz.A 3 rfl).trans ((f6zz.A 3 rfl).trans e53))
    have e6u : gA u2zz 6 = gA z6 6 := (F2.A 6 rfl).trans (F1zz.A 6 rfl)
    obtain ⟨s1zz, s2zz, s3zz, s4zz, s5⟩ := setM kAzz
    obtain ⟨t1zz, t2zz, t3zz, t4zz⟩ := setP kPzz
    have hBC : BfC mv pa zA zP := ⟨⟨s1zz, s2zz, s3zz, s4zz, s5⟩, t1zz, t2zz, t3zz, t4zz⟩
    obtain ⟨c1zz, c2zz, c3zz, c4zz, c5zz, c6zz⟩ := hC
    have K8 := c1zz.2.2.2.2.1
    have K2' := c1zz.2.2.2.2.2.2.2.1
    have hk1 : k1zz ≤ 400 := by
      have azz := c1zz.2.2.2.2.2.2.1
      obtain ⟨aa, bb, ea, eb, lab, lb, -⟩ := c1zz.1.2.2.2.2
      have bzz := c1zz.1.1.2.2.2
      omega
    refine ord_out (K1 := k1zz) (K2 := k2') (qzz := qzz) hSzz hBC K8 hk1 K2' hq2 c3zz zfu zfu 0 p7zz mezz mv czz pa _ 0 (by decide) (Nat.zero_le _) ?_ h1 hw
    refine ⟨?_, ⟨by rw [g7, g6]; rfl, by rw [g7]; rfl⟩, ⟨?_, ?_⟩, ⟨fun jzz hj => ?_, fun jzz hj => ?_, fun t ht => ?_⟩, ?_, ?_, fun mzz hmzz => ?_, 0, by show (0 : Int32).toInt = _; decide, Nat.le_refl _⟩
    · refine hSzz.mv (o' := sI (sI u2zz 56 0) 57 (-1)) (by show RwC n (gA o 3) (gA u2zz 3); rw [e3u]; exact RwC.rf) (by show TzM mv (gA u2zz 3); rw [e3u]; exact hSzz.2.1) ?_ ?_
      · show PaT pa (sI (sI u2zz 56 0) 57 (-1)) n (gA u2zz 3)
        rw [e3u]
        obtain ⟨q0, sz, fi, q1zz, q2zz, q3zz, q4zz, q5zz⟩ := hSzz.2.2.1
        refine ⟨?_, sz, fi, q1zz, q2zz, q3zz, q4zz, fun izz hizz => (q5zz izz hizz).mv rfl (fun _ _ => rfl) ?_ (fun t ht => ?_) (fun _ _ => rfl)⟩
        · show gI pa 3 = gI u2zz 8
          rw [F2.I 8 rfl, F1zz.I 8 rfl, ← q7zz, e8]; exact q0
        · show gA u2zz 7 izz = gA o 7 izz
          rw [F2.A 7 rfl, e7o]
        · show gA u2zz 6 (25 * izz + t) = gA o 6 (25 * izz + t)
          rw [e6u, e6o _ (by omega)]
      · show gI u2zz 20 = gI o 20
        rw [F2.I 20 rfl, F1zz.I 20 rfl, f6zz.I 20 rfl, k20]; exact hSzz.2.2.2.2.1.symm
    · refine hst1.eq (by rw [g7, g6]; rfl) (by rw [g7, g6]; rfl) ?_ ?_
      · show gI u2zz 1 = gI z5 1
        rw [F2.I 1 rfl, F1zz.I 1 rfl, f6zz.I 1 rfl]
      · show gA u2zz 2 = gA z5 2
        rw [F2.A 2 rfl, F1zz.A 2 rfl, f6zz.A 2 rfl]
    · show gI p7zz 14 = gI u2zz 58
      rw [F2.I 58 rfl, F1zz.I 58 rfl, f6zz.I 58 rfl, ← e14zz, g7, g6]; rfl
    · show gA u2zz 9 jzz = gA o 6 jzz
      rw [v99, v9, if_pos (by omega), e6o jzz hj]
    · show gA u2zz 10 jzz = gA o 7 jzz
      rw [v10, if_pos (by omega), e7o]
    · show gA u2zz 6 (425 + t) = gA o 3 (4 + t)
      have et : 425 + t - 25 * 17 = t := by omega
      rw [e6u, d6zz, if_pos (by omega), et, e53]
    · show RwC n (gA o 3) (gA u2zz 3)
      rw [e3u]; exact RwC.rf
    · show (gI u2zz 21).toInt = (qzz : Int)
      rw [F2.I 21 rfl, F1zz.I 21 rfl, f6zz.I 21 rfl, f5zz.I 21 rfl]; exact c2zz
    · show ClE true z2.2.2 (gA u2zz 55) (gA u2zz 24) (gA u2zz 25) mzz k1zz k2'
      rw [F2.A 55 rfl, F1zz.A 55 rfl, f6zz.A 55 rfl, f5zz.A 55 rfl, F2.A 24 rfl, F1zz.A 24 rfl, f6zz.A 24 rfl, f5zz.A 24 rfl, F2.A 25 rfl, F1zz.A 25 rfl, f6zz.A 25 rfl, f5zz.A 25 rfl]
      exact c6zz mzz hmzz
set_option maxHeartbeats 200000 in
theorem i32_remE {xzz yzz : Int32} {mzz : Int} (hy : yzz.toInt = mzz) (hmzz : 0 < mzz) (hx : 0 ≤ xzz.toInt) : (xzz - xzz / yzz * yzz).toInt = xzz.toInt % mzz := by
  have hr := i32_rg xzz
  have hr2 := i32_rg yzz
  have h1 : 0 ≤ xzz.toInt / mzz := Int.ediv_nonneg hx (by omega)
  have h2 : xzz.toInt / mzz * mzz ≤ xzz.toInt := Int.ediv_mul_le _ (by omega)
  have h2b : xzz.toInt / mzz ≤ xzz.toInt := Int.ediv_le_self _ hx
  have h3 : (xzz / yzz).toInt = xzz.toInt / mzz := by
    rw [Int32.toInt_div, hy, Int.tdiv_eq_ediv_of_nonneg hx]
    exact Int.bmod_eq_of_le (by omega) (by omega)
  have h0 : 0 ≤ xzz.toInt / mzz * mzz := Int.mul_nonneg h1 (by omega)
  have h4 : (xzz / yzz * yzz).toInt = xzz.toInt / mzz * mzz := i32_mul h3 hy (by omega) (by omega)
  have h5 : (xzz - xzz / yzz * yzz).toInt = xzz.toInt - xzz.toInt / mzz * mzz := i32_sub rfl h4 (by omega) (by omega)
  have h8 : xzz.toInt % mzz = xzz.toInt - mzz * (xzz.toInt / mzz) := Int.emod_def _ _
  have h9 : mzz * (xzz.toInt / mzz) = xzz.toInt / mzz * mzz := Int.mul_comm _ _
  rw [h5, h8, h9]
set_option maxHeartbeats 200000 in
theorem i64_remE {xzz yzz : Int64} {mzz : Int} (hy : yzz.toInt = mzz) (hmzz : 0 < mzz) (hx : 0 ≤ xzz.toInt) : (xzz - xzz / yzz * yzz).toInt = xzz.toInt % mzz := by
  have hr := i64_rg xzz
  have hr2 := i64_rg yzz
  have h1 : 0 ≤ xzz.toInt / mzz := Int.ediv_nonneg hx (by omega)
  have h2 : xzz.toInt / mzz * mzz ≤ xzz.toInt := Int.ediv_mul_le _ (by omega)
  have h2b : xzz.toInt / mzz ≤ xzz.toInt := Int.ediv_le_self _ hx
  have h3 : (xzz / yzz).toInt = xzz.toInt / mzz := by
    rw [Int64.toInt_div, hy, Int.tdiv_eq_ediv_of_nonneg hx]
    exact Int.bmod_eq_of_le (by omega) (by omega)
  have h0 : 0 ≤ xzz.toInt / mzz * mzz := Int.mul_nonneg h1 (by omega)
  have h4 : (xzz / yzz * yzz).toInt = xzz.toInt / mzz * mzz := i64_mul h3 hy (by omega) (by omega)
  have h5 : (xzz - xzz / yzz * yzz).toInt = xzz.toInt - xzz.toInt / mzz * mzz := i64_sub rfl h4 (by omega) (by omega)
  have h8 : xzz.toInt % mzz = xzz.toInt - mzz * (xzz.toInt / mzz) := Int.emod_def _ _
  have h9 : mzz * (xzz.toInt / mzz) = xzz.toInt / mzz * mzz := Int.mul_comm _ _
  rw [h5, h8, h9]
def DrT (s : Int32) (o : Ob) : Prop := s.toInt64 = gL o 60 ∧ 0 ≤ s.toInt ∧ s.toInt ≤ 1000002
set_option maxHeartbeats 200000 in
theorem draw_eq {o : Ob} {s zzz pzz : Int32} {wzz : Int32 × Ob} {Pzz : Int} (hzz : DrT s o) (ep : pzz.toInt = Pzz) (hp : 1 ≤ Pzz ∧ Pzz ≤ 7) (h1 : f_X8_nextDraw s = some zzz) (h2 : f_X9_draw o pzz = some wzz) : DrT zzz wzz.2 ∧ wzz.1 = zzz - zzz / pzz * pzz ∧ 0 ≤ wzz.1.toInt ∧ wzz.1.toInt < Pzz ∧ gA wzz.2 = gA o ∧ gI wzz.2 = gI o := by
  have hdzz := hzz.2
  unfold f_X8_nextDraw at h1
  have h1 := Option.some.inj h1
  unfold f_X9_draw at h2
  obtain ⟨o1, e1zz, h2⟩ := z_lt h2
  have h2 := Option.some.inj (z_gd h2).2
  rw [hzz.1] at h1
  have eg : (gL o 60).toInt = s.toInt := by rw [← hzz.1]; exact Int32.toInt_toInt64 s
  have m1zz : ((gL o 60) * (1103 : Int64)).toInt = s.toInt * 1103 := i64_mul eg (by decide) (by omega) (by omega)
  have m2zz : (((gL o 60) * (1103 : Int64)) + (12345 : Int64)).toInt = s.toInt * 1103 + 12345 := i64_add m1zz (by decide) (by omega) (by omega)
  have m3zz := i64_remE (xzz := ((gL o 60) * (1103 : Int64)) + (12345 : Int64)) (yzz := 1000003) (mzz := 1000003) (by decide) (by decide) (by omega)
  have r1zz := Int.emod_nonneg (((gL o 60) * (1103 : Int64)) + (12345 : Int64)).toInt (show (1000003 : Int) ≠ 0 by decide)
  have r2 := Int.emod_lt_of_pos (((gL o 60) * (1103 : Int64)) + (12345 : Int64)).toInt (show (0 : Int) < 1000003 by decide)
  rw [← m3zz] at r1zz r2
  have k60 : gL o1 60 = ((gL o 60) * (1103 : Int64)) + (12345 : Int64) - (((gL o 60) * (1103 : Int64)) + (12345 : Int64)) / (1000003 : Int64) * (1000003 : Int64) := by rw [e1zz]; rfl
  rw [← k60] at r1zz r2 h1
  have zt : zzz.toInt = (gL o1 60).toInt := by rw [← h1]; exact l2i_eq (by omega) (by omega)
  have z64zz : zzz.toInt64 = gL o1 60 := Int64.toInt_inj.mp (by rw [Int32.toInt_toInt64]; exact zt)
  have ep64 : (pzz.toInt64).toInt = Pzz := by rw [Int32.toInt_toInt64]; exact ep
  have q1zz := i64_remE (xzz := gL o1 60) (yzz := pzz.toInt64) (mzz := Pzz) ep64 (by omega) r1zz
  have q2zz := i32_remE (xzz := zzz) (yzz := pzz) (mzz := Pzz) ep (by omega) (by rw [zt]; exact r1zz)
  have s1zz := Int.emod_nonneg (gL o1 60).toInt (show Pzz ≠ 0 by omega)
  have s2zz := Int.emod_lt_of_pos (gL o1 60).toInt (show 0 < Pzz by omega)
  have wt : ((gL o1 60) - (gL o1 60) / pzz.toInt64 * pzz.toInt64).toInt32.toInt = (gL o1 60).toInt % Pzz := by rw [l2i_eq (by omega) (by omega)]; exact q1zz
  rw [← h2]
  refine ⟨⟨z64zz, by rw [zt]; exact r1zz, by rw [zt]; omega⟩, ?_, ?_, ?_, by rw [e1zz]; rfl, by rw [e1zz]; rfl⟩
  · exact Int32.toInt_inj.mp (by rw [wt, q2zz, zt])
  · show 0 ≤ ((gL o1 60) - (gL o1 60) / pzz.toInt64 * pzz.toInt64).toInt32.toInt
    rw [wt]; exact s1zz
  · show ((gL o1 60) - (gL o1 60) / pzz.toInt64 * pzz.toInt64).toInt32.toInt < Pzz
    rw [wt]; exact s2zz
def TzN (pl : List CR) (isl mv o : Ob) (n : Nat) : Prop := WiL isl (gA o 3) ∧ TzM mv (gA o 3) ∧ (∀ zzz, f_X2_lawInForce isl = some zzz → LwP pl zzz (gA o 3) (gA o 3 3)) ∧ gI o 20 = 0 ∧ (gA o 3 0).toInt = (n : Int)
set_option maxHeartbeats 200000 in
theorem TzN.mv {pl : List CR} {isl mv o mv' o' : Ob} {n : Nat} (hzz : TzN pl isl mv o n) (wzz : RwC n (gA o 3) (gA o' 3)) (hMzz : TzM mv' (gA o' 3)) (e20 : gI o' 20 = gI o 20) : TzN pl isl mv' o' n := ⟨hzz.1.rw' wzz, hMzz, fun zzz ez => (hzz.2.2.1 zzz ez).rw' wzz, e20.trans hzz.2.2.2.1, by rw [wzz 0 (by omega)]; exact hzz.2.2.2.2⟩
set_option maxHeartbeats 200000 in
theorem TzN.sc {pl : List CR} {isl mv o o' : Ob} {n : Nat} (hzz : TzN pl isl mv o n) (e3zz : gA o' 3 = gA o 3) (e20 : gI o' 20 = gI o 20) : TzN pl isl mv o' n := hzz.mv (by rw [e3zz]; exact RwC.rf) (by rw [e3zz]; exact hzz.2.1) e20
def dCe : DD := ([34, 38, 43], [39, 40, 60], [3, 41, 42], [35, 37], [])
set_option maxHeartbeats 200000 in
theorem pap_pass {pl : List CR} {isl mv czz mezz o : Ob} {n : Nat} {yzz : Int32 × Ob × Ob × Ob} {y' : Int32 × Ob} (hSzz : TzN pl isl mv o n) (hy : (gA o 3 4).toInt < 999) (h1 : f_X1_moved_N czz isl mv mezz pl 3 0 = some yzz) (h2 : f_X9_passIt o = some y') : TzN pl isl yzz.2.2.1 y'.2 n ∧ RwC n (gA o 3) (gA y'.2 3) := by
  obtain ⟨hI, hMzz, hL, h20, en⟩ := id hSzz
  unfold f_X1_moved_N at h1
  have h1 := z_t (z_f h1 (by decide)) rfl
  rw [hMzz.2.2.2.1.1] at h1
  have h1 := z_t h1 (Int32.lt_iff_toInt_lt.mpr (by rw [(by decide : (999 : Int32).toInt = 999)]; exact hy))
  unfold bk_X1_moved_N_71 bk_X1_moved_N_118 at h1
  have h1 := z_t h1 rfl
  unfold bk_X1_moved_N_142 at h1
  have h1 := z_f (z_f (z_f h1 (by decide)) (by decide)) (by decide)
  obtain ⟨z6, e6zz, h1⟩ := z_bd h1
  have h1 := Option.some.inj h1
  obtain ⟨r1zz, r2, r3, r4⟩ := pass_eq hL hI hMzz h20 en hy e6zz h2
  rw [← h1]
  exact ⟨hSzz.mv r4 r3 ((fr_f_X9_passIt h2).I 20 rfl), r4⟩
set_option maxHeartbeats 200000 in
theorem pap_take {pl : List CR} {isl mv czz mezz o o' : Ob} {n Pzz : Nat} {xzz : Int32} {yzz : Int32 × Ob × Ob × Ob} (hSzz : TzN pl isl mv o n) (eP : xzz.toInt = (Pzz : Int)) (hP : Pzz < n) (h1 : f_X1_moved_N czz isl mv mezz pl 2 xzz = some yzz) (h2 : f_X9_takeIt o xzz = some o') : TzN pl isl yzz.2.2.1 o' n ∧ RwC n (gA o 3) (gA o' 3) ∧ gI yzz.2.2.1 4 = gI mv 4 := by
  obtain ⟨hI, hMzz, hL, h20, en⟩ := id hSzz
  have hn7 : n ≤ 7 := by have := hI.1.2.2; omega
  have f2zz := fr_f_X9_takeIt h2
  unfold f_X1_moved_N at h1
  have h1 := z_f (z_f h1 (by decide)) (by decide)
  obtain ⟨z1, e1zz, h1⟩ := z_bd h1
  have q1zz : ¬ z1 = 0 := by
    rcases isP2 e1zz with ⟨-, uzz⟩ | ⟨uzz, -⟩
    · exact absurd ⟨by omega, by rw [hI.1.1]; omega⟩ uzz
    · exact uzz
  have h1 := z_t (z_f h1 q1zz) rfl
  rw [hMzz.2.2.1.1] at h1
  by_cases c0zz : gA o 3 7 = 0
  · have h1 := z_t h1 c0zz
    unfold bk_X1_moved_N_116 bk_X1_moved_N_118 at h1
    have h1 := Option.some.inj (z_f h1 (by decide))
    have n7 : (7 : Int32).toNatClampNeg = 7 := by decide
    have i15 : ((15 : Int32) + xzz).toNatClampNeg = 15 + Pzz := tnc_eq (by rw [i32_add (by decide : (15 : Int32).toInt = 15) eP (by omega) (by omega)]; omega)
    unfold f_X9_takeIt at h2
    rw [n7, i15] at h2
    have h2 := (z_gd h2).2
    obtain ⟨w2zz, k2zz, h2⟩ := z_bd h2
    have h2 := (z_gd h2).2
    obtain ⟨o4zz, k4zz, h2⟩ := z_lt h2
    obtain ⟨o5zz, k5zz, h2⟩ := z_lt h2
    have h2 := Option.some.inj h2
    have hp := hMzz.2.1 Pzz (by omega)
    have ea : gA o 3 (15 + Pzz) + gA o 3 7 = gA o 3 (15 + Pzz) := by
      rw [c0zz]; exact Int32.toInt_inj.mp (by rw [i32_add rfl (by decide : (0 : Int32).toInt = 0) (by omega) (by omega)]; omega)
    rw [ea] at k2zz
    have ew := with_id (M := 999) (by decide) ⟨hp.2.1, hp.2.2⟩ k2zz
    have eG : gA o' 3 = gA o 3 := by
      rw [← h2, k5zz, k4zz]
      show upd (upd (gA o 3) (15 + Pzz) w2zz) 7 0 = gA o 3
      rw [upd_own (azz := 15 + Pzz) ew]
      exact upd_own c0zz.symm
    rw [← h1]
    exact ⟨hSzz.sc eG (f2zz.I 20 rfl), by rw [eG]; exact RwC.rf, rfl⟩
  · have h1 := z_f h1 c0zz
    unfold bk_X1_moved_N_115 bk_X1_moved_N_116 bk_X1_moved_N_118 at h1
    have h1 := z_t h1 rfl
    unfold bk_X1_moved_N_142 at h1
    have h1 := z_t (z_f (z_f h1 (by decide)) (by decide)) rfl
    obtain ⟨z5, e5zz, h1⟩ := z_bd h1
    have h1 := Option.some.inj h1
    obtain ⟨r1zz, r2, r3, r4⟩ := take_eq hMzz eP hP hn7 e5zz h2
    rw [← h1]
    exact ⟨hSzz.mv r4 r3 (f2zz.I 20 rfl), r4, (fr_f_X1_takenGap e5zz).I 4 rfl⟩
set_option maxHeartbeats 200000 in
theorem pap_enter {pl : List CR} {isl mv czz mezz o o5zz : Ob} {n Pzz : Nat} {xzz : Int32} {yzz : Int32 × Ob × Ob × Ob} (hSzz : TzN pl isl mv o n) (eP : xzz.toInt = (Pzz : Int)) (hP : Pzz < n) (h1 : f_X1_moved_N czz isl mv mezz pl 1 xzz = some yzz) (e5zz : gA o5zz 3 = upd (gA o 3) (22 + Pzz) ((1 : Int32) - gA o 3 (22 + Pzz))) (e20 : gI o5zz 20 = gI o 20) : TzN pl isl yzz.2.2.1 o5zz n ∧ RwC n (gA o 3) (gA o5zz 3) ∧ gI yzz.2.2.1 4 = gI mv 4 := by
  obtain ⟨hI, hMzz, hL, h20, en⟩ := id hSzz
  have hn7 : n ≤ 7 := by have := hI.1.2.2; omega
  unfold f_X1_moved_N at h1
  have h1 := z_f (z_f h1 (by decide)) (by decide)
  obtain ⟨z1, e1zz, h1⟩ := z_bd h1
  have q1zz : ¬ z1 = 0 := by
    rcases isP2 e1zz with ⟨-, uzz⟩ | ⟨uzz, -⟩
    · exact absurd ⟨by omega, by rw [hI.1.1]; omega⟩ uzz
    · exact uzz
  have h1 := z_f (z_f h1 q1zz) (by decide)
  unfold bk_X1_moved_N_115 bk_X1_moved_N_116 bk_X1_moved_N_118 at h1
  have h1 := z_t h1 rfl
  unfold bk_X1_moved_N_142 at h1
  have h1 := z_t (z_f h1 (by decide)) rfl
  obtain ⟨z4, e4zz, h1⟩ := z_bd h1
  have h1 := Option.some.inj h1
  obtain ⟨r1zz, r2, r3, r4⟩ := entr_eq hMzz eP hP hn7 e4zz e5zz
  rw [← h1]
  exact ⟨hSzz.mv r4 r3 e20, r4, (fr_f_X1_changedEntry e4zz).I 4 rfl⟩
set_option maxHeartbeats 200000 in
theorem held_lp {czz isl : Ob} {pl : List CR} {fzz : Int32} {yzz : Int32 × Ob × Ob} : ∀ (Nzz : Nat) (vzz : Int32) (mv mezz : Ob), lp_X1_heldRace_186 czz isl pl Nzz (fzz, vzz, mv, mezz) = some yzz → yzz.1 = fzz := by
  intro Nzz
  induction Nzz with
  | zero => intro vzz mv mezz hzz; cases hzz
  | succ Nzz ihzz =>
    intro vzz mv mezz hzz
    have hzz : lb_X1_heldRace_186 czz isl pl (lp_X1_heldRace_186 czz isl pl Nzz) fzz vzz mv mezz = some yzz := hzz
    unfold lb_X1_heldRace_186 at hzz
    rcases z_if hzz with ⟨-, hzz⟩ | ⟨-, hzz⟩
    · rw [← Option.some.inj hzz]
    · have hzz := (z_gd hzz).2
      obtain ⟨m9zz, -, hzz⟩ := z_lt hzz
      obtain ⟨x10, -, hzz⟩ := z_lt hzz
      exact ihzz _ _ _ hzz
set_option maxHeartbeats 200000 in
theorem held163 {czz isl mv mezz : Ob} {pl : List CR} {fzz t wzz : Int32} {yzz : Int32 × Ob × Ob} (hzz : bk_X1_heldRace_163 czz isl pl fzz t wzz mv mezz = some yzz) : yzz.1 = fzz := by
  unfold bk_X1_heldRace_163 at hzz
  rcases z_if hzz with ⟨-, hzz⟩ | ⟨-, hzz⟩
  · unfold bk_X1_heldRace_183 at hzz; exact held_lp _ _ _ _ hzz
  · obtain ⟨zzz, -, hzz⟩ := z_bd hzz
    unfold bk_X1_heldRace_183 at hzz; exact held_lp _ _ _ _ hzz
set_option maxHeartbeats 200000 in
theorem held145 {czz isl mv mezz : Ob} {pl : List CR} {fzz t wzz w3zz : Int32} {yzz : Int32 × Ob × Ob} (hzz : bk_X1_heldRace_145 czz isl pl fzz t wzz w3zz mv mezz = some yzz) : yzz.1 = fzz := by
  unfold bk_X1_heldRace_145 at hzz
  rcases z_if hzz with ⟨-, hzz⟩ | ⟨-, hzz⟩
  · exact held163 hzz
  · obtain ⟨zzz, -, hzz⟩ := z_bd hzz
    exact held163 hzz
set_option maxHeartbeats 200000 in
theorem held87 {czz isl mv mezz : Ob} {pl : List CR} {lz : Option Nat} {rc fzz s t w1zz w2zz w3zz : Int32} {yzz : Int32 × Ob × Ob} (hzz : bk_X1_heldRace_87 czz isl pl rc lz fzz s t w1zz w2zz w3zz mv mezz = some yzz) : yzz.1 = fzz := by
  unfold bk_X1_heldRace_87 at hzz
  rcases z_if hzz with ⟨-, hzz⟩ | ⟨-, hzz⟩
  · exact held145 hzz
  · obtain ⟨zzz, -, hzz⟩ := z_bd hzz
    have hzz := (z_gd hzz).2
    obtain ⟨m1zz, -, hzz⟩ := z_lt hzz
    obtain ⟨m2zz, -, hzz⟩ := z_lt hzz
    exact held145 hzz
set_option maxHeartbeats 200000 in
theorem held66 {czz isl mv mezz : Ob} {pl : List CR} {lz : Option Nat} {rc fzz s t w1zz w2zz : Int32} {yzz : Int32 × Ob × Ob} (hzz : bk_X1_heldRace_66 czz isl pl rc lz fzz s t w1zz w2zz mv mezz = some yzz) : yzz.1 = fzz := by
  unfold bk_X1_heldRace_66 at hzz
  rcases z_if hzz with ⟨-, hzz⟩ | ⟨-, hzz⟩
  · exact held87 hzz
  · obtain ⟨zzz, -, hzz⟩ := z_bd hzz
    exact held87 hzz
set_option maxHeartbeats 200000 in
theorem held45 {czz isl mv mezz : Ob} {pl : List CR} {lz : Option Nat} {rc fzz s t w1zz : Int32} {yzz : Int32 × Ob × Ob} (hzz : bk_X1_heldRace_45 czz isl pl rc lz fzz s t w1zz mv mezz = some yzz) : yzz.1 = fzz := by
  unfold bk_X1_heldRace_45 at hzz
  rcases z_if hzz with ⟨-, hzz⟩ | ⟨-, hzz⟩
  · exact held66 hzz
  · obtain ⟨zzz, -, hzz⟩ := z_bd hzz
    exact held66 hzz
set_option maxHeartbeats 200000 in
theorem held_nn {czz isl mv mezz o : Ob} {pl : List CR} {rc : Int32} {n kzz : Nat} {yzz : Int32 × Ob × Ob} (hTzz : Lne czz o n kzz) (hk : 1 ≤ kzz) (hzz : f_X1_heldRace czz isl mv mezz pl rc = some yzz) : ¬ yzz.1 < (0 : Int32) := by
  unfold f_X1_heldRace at hzz
  obtain ⟨lz, el, hzz⟩ := z_bd hzz
  obtain ⟨fzz, ef, hzz⟩ := z_bd hzz
  obtain ⟨s, es, hzz⟩ := z_bd hzz
  obtain ⟨t, et, hzz⟩ := z_bd hzz
  have hf : fzz = gA czz 2 0 := by
    rcases at_eq (izz := 0) hTzz.2.1 (by decide) (by decide) ef with ⟨-, qzz⟩ | ⟨qzz, -⟩
    · exact qzz
    · omega
  have ey : yzz.1 = fzz := by
    rcases z_if hzz with ⟨-, hzz⟩ | ⟨-, hzz⟩
    · exact held45 hzz
    · obtain ⟨zzz, -, hzz⟩ := z_bd hzz
      exact held45 hzz
  rw [ey, hf]
  intro qzz
  have qzz := cv_lt (a := (gA czz 2 0).toInt) (b := 0) rfl (by decide) qzz
  have := (hTzz.2.2 0 (by omega)).2.1
  omega
set_option maxHeartbeats 200000 in
theorem pap_race {pl : List CR} {isl mv czz mezz o w2zz : Ob} {n R : Nat} {xzz : Int32} {yzz : Int32 × Ob × Ob × Ob} (hSzz : TzN pl isl mv o n) (eR : xzz.toInt = (R : Int)) (hR : R < 4) (h1 : f_X1_moved_N czz isl mv mezz pl 0 xzz = some yzz) (k2zz : f_X9_layPlaces o xzz = some w2zz) :
    (yzz.1 < (0 : Int32) ∧ gI w2zz 43 ≤ (0 : Int32) ∧ TzN pl isl yzz.2.2.1 w2zz n ∧ gI yzz.2.2.1 4 = gI mv 4) ∨ (¬ yzz.1 < (0 : Int32) ∧ ¬ gI w2zz 43 ≤ (0 : Int32) ∧ ∀ w4zz, f_X9_raceIt w2zz xzz = some w4zz → TzN pl isl yzz.2.2.1 w4zz.2 n ∧ RwC n (gA o 3) (gA w4zz.2 3) ∧ gI yzz.2.2.1 4 = gI mv 4) := by
  obtain ⟨hI, hMzz, hL, h20, en⟩ := id hSzz
  unfold f_X1_moved_N at h1
  have h1 := z_t h1 rfl
  obtain ⟨z8, e8, h1⟩ := z_bd h1
  have q8zz : ¬ z8 = 0 := by
    rcases isR8 e8 with ⟨-, uzz⟩ | ⟨uzz, -⟩
    · exact absurd ⟨by omega, by omega⟩ uzz
    · exact uzz
  have h1 := z_f h1 q8zz
  obtain ⟨z9, e9zz, h1⟩ := z_bd h1
  obtain ⟨z10, e10zz, h1⟩ := z_bd h1
  have f2zz := fr_f_X9_layPlaces k2zz
  have eG : gA w2zz 3 = gA o 3 := f2zz.A 3 rfl
  obtain ⟨kzz, hkn, hTzz, hz⟩ := line_eq (hL z9 e9zz) (WtL.of hI hMzz) hMzz.2.2.2.2.1 h20 en eR hR e10zz k2zz
  rw [hz, hTzz.1] at h1
  have tk := hTzz.2.1
  rw [hTzz.1] at tk
  by_cases c0zz : gI w2zz 43 = 0
  · have h1 := z_t h1 c0zz
    unfold bk_X1_moved_N_39 bk_X1_moved_N_118 at h1
    have h1 := Option.some.inj (z_f h1 (by decide))
    rw [← h1]
    exact Or.inl ⟨by show (-3 : Int32) < 0; decide, by rw [c0zz]; decide, hSzz.sc eG (f2zz.I 20 rfl), rfl⟩
  · have h1 := z_f h1 c0zz
    have c1zz := cv_ne (a := (kzz : Int)) (b := 0) tk (by decide) c0zz
    unfold bk_X1_moved_N_39 bk_X1_moved_N_118 at h1
    have h1 := z_t h1 rfl
    unfold bk_X1_moved_N_142 at h1
    have h1 := z_t h1 rfl
    obtain ⟨z3, e3zz, h1⟩ := z_bd h1
    have h1 := Option.some.inj h1
    have nlezz : ¬ gI w2zz 43 ≤ (0 : Int32) := fun qzz => by have qzz := cv_le (a := (kzz : Int)) (b := 0) tk (by decide) qzz; omega
    have rr : ∀ w4zz, f_X9_raceIt w2zz xzz = some w4zz → z3.1 = w4zz.1 ∧ 0 ≤ w4zz.1.toInt ∧ TzM z3.2.1 (gA w4zz.2 3) ∧ RwC n (gA w2zz 3) (gA w4zz.2 3) := fun w4zz k4zz => race_eq (o := w2zz) (n := n) (kzz := kzz) (by rw [eG]; exact hL) (by rw [eG]; exact WtL.of hI hMzz) (by rw [eG]; exact hMzz) ((f2zz.I 20 rfl).trans h20) (by rw [eG]; exact en) eR hR hTzz.lne (by omega) hkn e3zz k4zz
    rw [← h1]
    refine Or.inr ⟨?_, nlezz, fun w4zz k4zz => ?_⟩
    ·
      show ¬ z3.1 < (0 : Int32)
      exact held_nn hTzz.lne (by omega) e3zz
    · obtain ⟨-, -, r3, r4⟩ := rr w4zz k4zz
      rw [eG] at r4
      exact ⟨hSzz.mv r4 r3 (((fr_f_X9_raceIt k4zz).I 20 rfl).trans (f2zz.I 20 rfl)), r4, (fr_f_X1_heldRace e3zz).1.I 4 rfl⟩
set_option maxHeartbeats 200000 in
theorem setIsl_lp {pl : List CR} {a0zz a0n : Ob} {yzz : Ob × Ob} : ∀ (Nzz : Nat) (vzz : Int32) (o onzz : Ob) (izz : Nat), vzz.toInt = (izz : Int) → izz ≤ 6 → lp_X2_set_O_88 pl a0zz a0n Nzz (vzz, o, onzz) = some yzz → yzz.2 = onzz ∧ (gI yzz.1 7 = gI a0zz 7 ∧ gI yzz.1 8 = gI a0zz 8 ∧ gI yzz.1 9 = gI a0zz 9 ∧ gI yzz.1 10 = gI a0zz 10 ∧ gI yzz.1 11 = gI a0zz 11 ∧ gI yzz.1 12 = gI a0zz 12) ∧ (∀ kzz, gA yzz.1 kzz = gA o kzz) ∧ (∀ jzz, izz ≤ jzz → jzz < 6 → gR yzz.1 6 jzz = gR a0zz 6 jzz) ∧ (∀ jzz, jzz < izz → gR yzz.1 6 jzz = gR o 6 jzz) := by
  intro Nzz
  induction Nzz with
  | zero => intro vzz o onzz izz _ _ hzz; cases hzz
  | succ Nzz ihzz =>
    intro vzz o onzz izz evzz hizz hzz
    have hzz : lb_X2_set_O_88 pl a0zz a0n (lp_X2_set_O_88 pl a0zz a0n Nzz) vzz o onzz = some yzz := hzz
    unfold lb_X2_set_O_88 at hzz
    rcases z_if hzz with ⟨czz, hzz⟩ | ⟨czz, hzz⟩
    · have czz := cv_le (a := 6) (b := (izz : Int)) (by decide) evzz czz
      obtain ⟨o12, e12zz, hzz⟩ := z_lt hzz
      obtain ⟨o13, e13zz, hzz⟩ := z_lt hzz
      obtain ⟨o14, e14zz, hzz⟩ := z_lt hzz
      obtain ⟨o15, e15zz, hzz⟩ := z_lt hzz
      obtain ⟨o16, e16zz, hzz⟩ := z_lt hzz
      obtain ⟨o17, e17zz, hzz⟩ := z_lt hzz
      have hzz := Option.some.inj hzz
      subst e12zz e13zz e14zz e15zz e16zz e17zz hzz
      exact ⟨rfl, ⟨rfl, rfl, rfl, rfl, rfl, rfl⟩, fun _ => rfl, fun jzz h1 h2 => absurd h1 (by omega), fun jzz _ => rfl⟩
    · have czz := cv_nle (a := 6) (b := (izz : Int)) (by decide) evzz czz
      have ivzz : vzz.toNatClampNeg = izz := tnc_eq evzz
      rw [ivzz] at hzz
      have hzz := (z_gd (z_gd (z_gd hzz).2).2).2
      obtain ⟨o21, e21zz, hzz⟩ := z_lt hzz
      obtain ⟨x22, e22zz, hzz⟩ := z_lt hzz
      obtain ⟨r1zz, r2, r3, r4, r5zz⟩ := ihzz x22 o21 onzz (izz + 1) (by rw [e22zz]; exact Eq.trans (i32_add evzz (by decide : (1 : Int32).toInt = 1) (by omega) (by omega)) (by omega)) (by omega) hzz
      have aR : ∀ jzz, gR o21 6 jzz = if jzz = izz then gR a0zz 6 izz else gR o 6 jzz := fun jzz => by rw [e21zz]; rfl
      refine ⟨r1zz, r2, fun kzz => (r3 kzz).trans (by rw [e21zz]; rfl), fun jzz h1 h2 => ?_, fun jzz hj => ?_⟩
      · by_cases d : jzz = izz
        · rw [r5zz jzz (by omega), aR, if_pos d, d]
        · exact r4 jzz (by omega) h2
      · rw [r5zz jzz (by omega), aR, if_neg (by omega)]
set_option maxHeartbeats 200000 in
theorem cpyZ {fzz gzz : Nat → Int32} {n jzz : Nat} (hj : jzz < n) : va_cpy fzz gzz 0 0 n jzz = fzz jzz := by
  show (if 0 ≤ jzz ∧ jzz < 0 + n then fzz (0 + (jzz - 0)) else gzz jzz) = fzz jzz
  rw [if_pos (by omega), Nat.zero_add, Nat.sub_zero]
set_option maxHeartbeats 200000 in
theorem setIsl {pl : List CR} {o onzz a0zz a0n : Ob} {yzz : Ob × Ob} (hzz : f_X2_set_O o onzz pl a0zz a0n = some yzz) : f_X4_set_O onzz a0n = some yzz.2 ∧ (gI yzz.1 7 = gI a0zz 7 ∧ gI yzz.1 8 = gI a0zz 8 ∧ gI yzz.1 9 = gI a0zz 9 ∧ gI yzz.1 10 = gI a0zz 10 ∧ gI yzz.1 11 = gI a0zz 11 ∧ gI yzz.1 12 = gI a0zz 12) ∧ (∀ jzz, jzz < 7 → gA yzz.1 1 jzz = gA a0zz 1 jzz) ∧ (∀ jzz, jzz < 28 → gA yzz.1 2 jzz = gA a0zz 2 jzz) ∧ (∀ jzz, jzz < 7 → gA yzz.1 3 jzz = gA a0zz 3 jzz) ∧ (∀ jzz, jzz < 6 → gA yzz.1 4 jzz = gA a0zz 4 jzz) ∧ (∀ jzz, jzz < 6 → gA yzz.1 5 jzz = gA a0zz 5 jzz) ∧ (∀ jzz, jzz < 6 → gR yzz.1 6 jzz = gR a0zz 6 jzz) := by
  have n0zz : (0 : Int32).toNatClampNeg = 0 := by decide
  have n6zz : (6 : Int32).toNatClampNeg = 6 := by decide
  have n7 : (7 : Int32).toNatClampNeg = 7 := by decide
  have n28zz : (28 : Int32).toNatClampNeg = 28 := by decide
  unfold f_X2_set_O at hzz
  obtain ⟨z1, e1zz, hzz⟩ := z_bd hzz
  have hzz := (z_gd hzz).2
  obtain ⟨o3zz, e3zz, hzz⟩ := z_lt hzz
  have hzz := (z_gd hzz).2
  obtain ⟨o5zz, e5zz, hzz⟩ := z_lt hzz
  have hzz := (z_gd hzz).2
  obtain ⟨o7, e7zz, hzz⟩ := z_lt hzz
  have hzz := (z_gd hzz).2
  obtain ⟨o9, e9zz, hzz⟩ := z_lt hzz
  have hzz := (z_gd hzz).2
  obtain ⟨o11, e11zz, hzz⟩ := z_lt hzz
  unfold cA at e3zz e5zz e7zz e9zz e11zz
  rw [n0zz, n7] at e3zz e7zz
  rw [n0zz, n28zz] at e5zz
  rw [n0zz, n6zz] at e9zz e11zz
  obtain ⟨r1zz, r2, r3, r4, -⟩ := setIsl_lp zfu 0 o11 z1 0 (by decide) (Nat.zero_le _) hzz
  refine ⟨by rw [r1zz]; exact e1zz, r2, fun jzz hj => ?_, fun jzz hj => ?_, fun jzz hj => ?_, fun jzz hj => ?_, fun jzz hj => ?_, fun jzz hj => r4 jzz (Nat.zero_le _) hj⟩
  · rw [r3, e11zz, e9zz, e7zz, e5zz, e3zz]; exact cpyZ hj
  · rw [r3, e11zz, e9zz, e7zz, e5zz]; exact cpyZ hj
  · rw [r3, e11zz, e9zz, e7zz]; exact cpyZ hj
  · rw [r3, e11zz, e9zz]; exact cpyZ hj
  · rw [r3, e11zz]; exact cpyZ hj
set_option maxHeartbeats 200000 in
theorem lawAt_c {azz bzz : Ob} {pzz : Int32} (e9zz : gI bzz 9 = gI azz 9) (eR : ∀ jzz, jzz < 6 → gR bzz 6 jzz = gR azz 6 jzz) : f_X2_lawAt bzz pzz = f_X2_lawAt azz pzz := by
  unfold f_X2_lawAt f_X2_isLaw
  rw [e9zz]
  by_cases czz : zin pzz 6 = true
  · have hv := z_in czz
    have wzz : gR bzz 6 pzz.toNatClampNeg = gR azz 6 pzz.toNatClampNeg := eR _ (by
      have qzz : 0 ≤ pzz.toInt ∧ pzz.toInt < 6 := of_decide_eq_true czz
      have ezz : pzz.toNatClampNeg = pzz.toInt.toNat := rfl
      omega)
    rw [wzz]
  · have czz : zin pzz 6 = false := by
      cases qzz : zin pzz 6 with
      | false => rfl
      | true => exact absurd qzz czz
    rw [czz]
    rfl
set_option maxHeartbeats 200000 in
theorem lawF_c {azz bzz : Ob} (e9zz : gI bzz 9 = gI azz 9) (e10zz : gI bzz 10 = gI azz 10) (eR : ∀ jzz, jzz < 6 → gR bzz 6 jzz = gR azz 6 jzz) : f_X2_lawInForce bzz = f_X2_lawInForce azz := by
  unfold f_X2_lawInForce
  rw [e10zz, lawAt_c e9zz eR]
def dC61 : DD := ([], [], [61], [], [])
set_option maxHeartbeats 200000 in
theorem cen195 {yzz : Int32 × Ob} {rzz : Int32} : ∀ (Nzz : Nat) (vzz : Int32) (o : Ob) (izz : Nat), vzz.toInt = (izz : Int) → izz ≤ 25 → lp_X9_centuries_195 Nzz (rzz, vzz, o) = some yzz → ∃ o1 z8 z9, f_X9_putBack (sI o1 62 (gA o1 3 0)) 16 = some z8 ∧ f_X9_tell z8 rzz = some z9 ∧ yzz = (z9.1, z9.2) ∧ (∀ jzz, gA o1 61 jzz = if izz ≤ jzz ∧ jzz < 25 then gA o 3 (4 + jzz) else gA o 61 jzz) ∧ FrX dC61 o o1 := by
  intro Nzz
  induction Nzz with
  | zero => intro vzz o izz _ _ hzz; cases hzz
  | succ Nzz ihzz =>
    intro vzz o izz evzz hizz hzz
    have n0zz : (0 : Int32).toNatClampNeg = 0 := by decide
    have hzz : lb_X9_centuries_195 (lp_X9_centuries_195 Nzz) rzz vzz o = some yzz := hzz
    unfold lb_X9_centuries_195 at hzz
    rcases z_if hzz with ⟨czz, hzz⟩ | ⟨czz, hzz⟩
    · have czz := cv_le (a := 25) (b := (izz : Int)) (by decide) evzz czz
      rw [n0zz] at hzz
      obtain ⟨o7, e7zz, hzz⟩ := z_lt hzz
      obtain ⟨z8, e8, hzz⟩ := z_bd hzz
      obtain ⟨z9, e9zz, hzz⟩ := z_bd hzz
      rw [e7zz] at e8
      exact ⟨o, z8, z9, e8, e9zz, (Option.some.inj hzz).symm, fun jzz => by rw [if_neg (by omega)], FrX.rf⟩
    · have czz := cv_nle (a := 25) (b := (izz : Int)) (by decide) evzz czz
      have i1zz : ((4 : Int32) + vzz).toNatClampNeg = 4 + izz := tnc_eq (by rw [i32_add (by decide : (4 : Int32).toInt = 4) evzz (by omega) (by omega)]; omega)
      have ivzz : vzz.toNatClampNeg = izz := tnc_eq evzz
      rw [i1zz, ivzz] at hzz
      have hzz := (z_gd (z_gd hzz).2).2
      obtain ⟨o12, e12zz, hzz⟩ := z_lt hzz
      obtain ⟨x13, e13zz, hzz⟩ := z_lt hzz
      obtain ⟨o1, z8, z9, k8zz, k9, ky, r1zz, r2⟩ := ihzz x13 o12 (izz + 1) (by rw [e13zz]; exact Eq.trans (i32_add evzz (by decide : (1 : Int32).toInt = 1) (by omega) (by omega)) (by omega)) (by omega) hzz
      have a1zz : ∀ jzz, gA o12 61 jzz = if jzz = izz then gA o 3 (4 + izz) else gA o 61 jzz := fun jzz => by rw [e12zz]; rfl
      have a3 : gA o12 3 = gA o 3 := by rw [e12zz]; rfl
      refine ⟨o1, z8, z9, k8zz, k9, ky, fun jzz => ?_, FrX.tr (by rw [e12zz]; exact FrX.tA FrX.rf rfl) r2⟩
      rw [r1zz, a3, a1zz]
      by_cases d : jzz = izz
      · rw [if_neg (by omega), if_pos d, if_pos (by omega), d]
      · by_cases d2zz : izz ≤ jzz ∧ jzz < 25
        · rw [if_pos (by omega), if_pos d2zz]
        · rw [if_neg (by omega), if_neg d, if_neg d2zz]
set_option maxHeartbeats 200000 in
theorem draw_fr {o : Ob} {pzz : Int32} {wzz : Int32 × Ob} (hzz : f_X9_draw o pzz = some wzz) : FrX dCe o wzz.2 := (fr_f_X9_draw hzz).mono rfl
set_option maxHeartbeats 200000 in
theorem cen_lp {pl : List CR} {pp isl mvI : Ob} {n : Nat} {qzz : Int32} {yzz : Int32 × Ob × Ob × Ob × Ob × Ob} {y' : Int32 × Ob} (e7zz : gI isl 7 = gI pp 7) (hn : 1 ≤ n) (hq : qzz.toInt ≤ 60) :
    ∀ (Nzz N' : Nat) (s v4zz v5 : Int32) (o8zz mezz pm czz o : Ob) (izz rzz : Nat), DrT s o → v5.toInt = (izz : Int) → v4zz.toInt = (rzz : Int) → rzz ≤ izz → izz ≤ 60 → TzN pl pp pm o n → lp_X8_centuries_64 isl mvI pl Nzz (qzz, s, v4zz, v5, o8zz, mezz, pp, pm, czz) = some yzz → lp_X9_centuries_68 N' (qzz, v4zz, v5, o) = some y' →
      ∃ (r' : Int32) (pm' o' me' c' : Ob), bk_X8_centuries_194 isl mvI pl r' o8zz me' pp pm' c' = some yzz ∧ bk_X9_centuries_192 r' o' = some y' ∧ TzN pl pp pm' o' n ∧ RwC n (gA o 3) (gA o' 3) ∧ 0 ≤ r'.toInt ∧ FrX dCe o o' := by
  intro Nzz
  induction Nzz with
  | zero => intro N' s v4zz v5 o8zz mezz pm czz o izz rzz _ _ _ _ _ _ h1; cases h1
  | succ Nzz ihzz =>
    intro N' s v4zz v5 o8zz mezz pm czz o izz rzz hD e5zz e4zz hri hi60 hSzz h1 h2
    cases N' with
    | zero => cases h2
    | succ N' =>
    have h1 : lb_X8_centuries_64 isl mvI pl (lp_X8_centuries_64 isl mvI pl Nzz) qzz s v4zz v5 o8zz mezz pp pm czz = some yzz := h1
    have h2 : lb_X9_centuries_68 (lp_X9_centuries_68 N') qzz v4zz v5 o = some y' := h2
    obtain ⟨hI, hMzz, hL, h20, en⟩ := id hSzz
    have hn7 : n ≤ 7 := by have := hI.1.2.2; omega
    have n0zz : (0 : Int32).toNatClampNeg = 0 := by decide
    have n4zz : (4 : Int32).toNatClampNeg = 4 := by decide
    unfold lb_X8_centuries_64 at h1
    unfold lb_X9_centuries_68 at h2
    rw [n0zz, n4zz] at h2
    rw [hMzz.2.2.2.1.1] at h1
    by_cases c0zz : qzz ≤ v5
    · exact ⟨v4zz, pm, o, mezz, czz, z_t h1 c0zz, z_t h2 c0zz, hSzz, RwC.rf, by omega, FrX.rf⟩
    · have h1 := z_f h1 c0zz
      have h2 := z_f h2 c0zz
      have c0' := cv_nle (a := qzz.toInt) (b := (izz : Int)) rfl e5zz c0zz
      by_cases c1zz : (999 : Int32) ≤ gA o 3 4
      · exact ⟨v4zz, pm, o, mezz, czz, z_t h1 c1zz, z_t h2 c1zz, hSzz, RwC.rf, by omega, FrX.rf⟩
      · have h1 := z_f h1 c1zz
        have h2 := z_f h2 c1zz
        have c1' := cv_nle (a := 999) (b := (gA o 3 4).toInt) (by decide) rfl c1zz
        obtain ⟨z4, k4zz, h1⟩ := z_bd h1
        obtain ⟨z5, k5zz, h1⟩ := z_bd h1
        obtain ⟨z6, k6zz, h1⟩ := z_bd h1
        obtain ⟨w14zz, l14, h2⟩ := z_bd h2
        obtain ⟨w15, l15, h2⟩ := z_bd h2
        obtain ⟨w16, l16, h2⟩ := z_bd h2
        obtain ⟨D1, p1zz, p2zz, p3zz, p4zz, p5zz⟩ := draw_eq hD en (by omega) k4zz l14
        obtain ⟨D2, q1zz, q2zz, q3zz, q4zz, q5zz⟩ := draw_eq (Pzz := 4) D1 (by decide) (by decide) k5zz l15
        obtain ⟨D3, t1zz, t2zz, t3zz, t4zz, t5zz⟩ := draw_eq (Pzz := 4) D2 (by decide) (by decide) k6zz l16
        have F16 : FrX dCe o w16.2 := ((draw_fr l14).tr (draw_fr l15)).tr (draw_fr l16)
        have e3zz : gA w16.2 3 = gA o 3 := by rw [t4zz, q4zz, p4zz]
        have e20 : gI w16.2 20 = gI o 20 := by rw [t5zz, q5zz, p5zz]
        have hS16 : TzN pl pp pm w16.2 n := hSzz.sc e3zz e20
        rw [← t1zz] at h1
        obtain ⟨Pzz, eP⟩ : ∃ Pzz : Nat, w14zz.1.toInt = (Pzz : Int) := ⟨w14zz.1.toInt.toNat, by omega⟩
        obtain ⟨R, eR⟩ : ∃ R : Nat, w15.1.toInt = (R : Int) := ⟨w15.1.toInt.toNat, by omega⟩
        have ePe : z4 - z4 / gI isl 7 * gI isl 7 = w14zz.1 := by
          have : gI isl 7 = gA o 3 0 := e7zz.trans hI.1.1
          rw [this]; exact p1zz.symm
        have gozz : ∀ (v4' : Int32) (r' : Nat) (me' pm' c' o' : Ob), v4'.toInt = (r' : Int) → r' ≤ izz + 1 → TzN pl pp pm' o' n → gI pm' 4 = gI pm 4 → RwC n (gA o 3) (gA o' 3) → gL o' 60 = gL w16.2 60 → FrX dCe o o' → bk_X8_centuries_177 isl mvI pl (lp_X8_centuries_64 isl mvI pl Nzz) qzz z6 v4' v5 o8zz me' pp pm' c' = some yzz → bk_X9_centuries_181 (lp_X9_centuries_68 N') qzz v4' v5 o' = some y' →
            ∃ (r'' : Int32) (pm'' o'' me'' c'' : Ob), bk_X8_centuries_194 isl mvI pl r'' o8zz me'' pp pm'' c'' = some yzz ∧ bk_X9_centuries_192 r'' o'' = some y' ∧ TzN pl pp pm'' o'' n ∧ RwC n (gA o 3) (gA o'' 3) ∧ 0 ≤ r''.toInt ∧ FrX dCe o o'' := by
          intro v4' r' me' pm' c' o' er hr hS' ey hw' e60 F' h1 h2
          unfold bk_X8_centuries_177 at h1
          unfold bk_X9_centuries_181 at h2
          obtain ⟨z9, k9, h1⟩ := z_bd h1
          obtain ⟨x10, g10, h1⟩ := z_lt h1
          obtain ⟨w17, l17, h2⟩ := z_bd h2
          obtain ⟨x18, g18, h2⟩ := z_lt h2
          have qx : x18 = x10 := g18.trans g10.symm
          rw [qx] at h2
          have hyy : (gA o' 3 4).toInt < 999 := by
            rw [← hS'.2.1.2.2.2.1.1, ey, hMzz.2.2.2.1.1]; omega
          obtain ⟨u1zz, u2zz⟩ := pap_pass hS' hyy k9 l17
          have f17zz := fr_f_X9_passIt l17
          have D' : DrT z6 w17.2 := ⟨by rw [f17zz.L 60 rfl, e60]; exact D3.1, D3.2⟩
          obtain ⟨r2, pm2, o2, me2, c2zz, a1zz, a2, a3, a4, a5, a6⟩ := ihzz N' z6 v4' x10 o8zz z9.2.2.2 z9.2.2.1 z9.2.1 w17.2 (izz + 1) r' D' (by rw [g10]; exact Eq.trans (i32_add e5zz (by decide : (1 : Int32).toInt = 1) (by omega) (by omega)) (by omega)) er hr (by omega) u1zz h1 h2
          exact ⟨r2, pm2, o2, me2, c2zz, a1zz, a2, a3, (hw'.tr u2zz).tr a4, a5, (F'.tr (f17zz.mono rfl)).tr a6⟩
        by_cases c2zz : (2 : Int32) ≤ w16.1
        · have h1 := z_t h1 c2zz
          have h2 := z_t h2 c2zz
          unfold bk_X9_centuries_140 at h2
          by_cases c3zz : w16.1 = 2
          ·
            have h1 := z_t h1 c3zz
            have h2 := z_t h2 c3zz
            unfold bk_X8_centuries_128 at h1
            have h1 := z_t h1 rfl
            rw [← q1zz] at h1
            unfold bk_X8_centuries_158 at h1
            obtain ⟨z8, k8zz, h1⟩ := z_bd h1
            have h1 := z_t h1 rfl
            obtain ⟨w20, l20, h2⟩ := z_bd h2
            have f20zz := fr_f_X9_layPlaces l20
            have r0 : RwC n (gA o 3) (gA w20 3) := by rw [f20zz.A 3 rfl, e3zz]; exact RwC.rf
            rcases pap_race hS16 eR (by omega) k8zz l20 with ⟨u1zz, u2zz, u3, u4zz⟩ | ⟨u1zz, u2zz, u3⟩
            · have h1 := z_t h1 u1zz
              have h2 := z_t h2 u2zz
              unfold bk_X9_centuries_169 at h2
              have h2 := z_f h2 (by rw [c3zz]; decide)
              exact gozz v4zz rzz _ _ _ _ e4zz (by omega) u3 u4zz r0 (f20zz.L 60 rfl) (F16.tr (f20zz.mono rfl)) h1 h2
            · have h1 := z_f h1 u1zz
              have h2 := z_f h2 u2zz
              obtain ⟨x11, g11, h1⟩ := z_lt h1
              obtain ⟨w21, l21, h2⟩ := z_bd h2
              obtain ⟨x22, g22, h2⟩ := z_lt h2
              have f21 := fr_f_X9_raceIt l21
              have qx : x22 = x11 := g22.trans g11.symm
              rw [qx] at h2
              obtain ⟨a1zz, a2, a3⟩ := u3 w21 l21
              rw [e3zz] at a2
              unfold bk_X9_centuries_169 at h2
              have h2 := z_f h2 (by rw [c3zz]; decide)
              exact gozz x11 (rzz + 1) _ _ _ _ (by rw [g11]; exact Eq.trans (i32_add e4zz (by decide : (1 : Int32).toInt = 1) (by omega) (by omega)) (by omega)) (by omega) a1zz a3 a2 ((f21.L 60 rfl).trans (f20zz.L 60 rfl)) ((F16.tr (f20zz.mono rfl)).tr (f21.mono rfl)) h1 h2
          ·
            have h1 := z_f h1 c3zz
            have h2 := z_f h2 c3zz
            have c4zz : w16.1 = 3 := by
              have azz := cv_le (a := 2) (b := w16.1.toInt) (by decide) rfl c2zz
              have bzz := cv_ne (a := w16.1.toInt) (b := 2) rfl (by decide) c3zz
              exact Int32.toInt_inj.mp (by rw [(by decide : (3 : Int32).toInt = 3)]; omega)
            unfold bk_X9_centuries_169 at h2
            have h2 := z_t h2 c4zz
            obtain ⟨w19, l19, h2⟩ := z_bd h2
            have f19 := fr_f_X9_takeIt l19
            unfold bk_X8_centuries_128 at h1
            have h1 := (z_gd (z_f h1 (by decide))).2
            rw [ePe] at h1
            unfold bk_X8_centuries_158 at h1
            obtain ⟨z8, k8zz, h1⟩ := z_bd h1
            have h1 := z_f h1 (by decide)
            obtain ⟨a1zz, a2, a3⟩ := pap_take hS16 eP (by omega) k8zz l19
            rw [e3zz] at a2
            exact gozz v4zz rzz _ _ _ _ e4zz (by omega) a1zz a3 a2 (f19.L 60 rfl) (F16.tr (f19.mono rfl)) h1 h2
        ·
          have h1 := z_f h1 c2zz
          have h2 := z_f h2 c2zz
          have i22 : ((22 : Int32) + w14zz.1).toNatClampNeg = 22 + Pzz := tnc_eq (by rw [i32_add (by decide : (22 : Int32).toInt = 22) eP (by omega) (by omega)]; omega)
          rw [i22] at h2
          have h2 := (z_gd (z_gd h2).2).2
          obtain ⟨o25, g25, h2⟩ := z_lt h2
          unfold bk_X8_centuries_128 at h1
          have h1 := (z_gd (z_f h1 (by decide))).2
          rw [ePe] at h1
          unfold bk_X8_centuries_158 at h1
          obtain ⟨z8, k8zz, h1⟩ := z_bd h1
          have h1 := z_f h1 (by decide)
          have n2zz : ¬ w16.1 = 2 := fun zzz => c2zz (by rw [zzz]; decide)
          have n3zz : ¬ w16.1 = 3 := fun zzz => c2zz (by rw [zzz]; decide)
          unfold bk_X9_centuries_140 at h2
          have h2 := z_f h2 n2zz
          unfold bk_X9_centuries_169 at h2
          have h2 := z_f h2 n3zz
          obtain ⟨a1zz, a2, a3⟩ := pap_enter (o5zz := o25) hS16 eP (by omega) k8zz (by rw [g25]; rfl) (by rw [g25]; rfl)
          rw [e3zz] at a2
          exact gozz v4zz rzz _ _ _ _ e4zz (by omega) a1zz a3 a2 (by rw [g25]; rfl) (F16.tr (by rw [g25]; exact FrX.tA FrX.rf rfl)) h1 h2
def drA (o : Ob) : Nat → Int32 := fun jzz => gA o 61 (jzz - 4)
def PpT (pp pm o : Ob) : Prop := ((gI o 62 = gI pp 7 ∧ 0 ≤ (gI pp 7).toInt ∧ (gI pp 7).toInt ≤ 7) ∨ (gI o 62 = -1 ∧ gI pp 7 = 0)) ∧ TzM pm (drA o)
set_option maxHeartbeats 200000 in
theorem PpT.eq {pp pm o o' : Ob} (hzz : PpT pp pm o) (ezz : gI o' 62 = gI o 62) (e1zz : gA o' 61 = gA o 61) : PpT pp pm o' := by
  unfold PpT drA
  rw [ezz, e1zz]; exact hzz
set_option maxHeartbeats 200000 in
theorem cent_eq {pl : List CR} {isl mv pa mezz pp pm czz o8zz o : Ob} {n : Nat} {p0zz p1zz : Int32} {yzz : Int32 × Ob × Ob × Ob × Ob × Ob} {y' : Int32 × Ob} (hSzz : TzS pl isl mv pa o n) (hst : StT o8zz o) (hpp : PpT pp pm o) (h1 : f_X8_centuries o8zz mezz isl mv pp pm czz pl p0zz p1zz = some yzz) (h2 : f_X9_centuries o p0zz p1zz = some y') : yzz.1 = y'.1 ∧ TzS pl isl mv pa y'.2 n ∧ gA y'.2 3 = gA o 3 ∧ StT yzz.2.1 y'.2 ∧ PpT yzz.2.2.2.1 yzz.2.2.2.2.1 y'.2 := by
  obtain ⟨hI, hMzz, hP, hL, h20, en, hZ⟩ := id hSzz
  have hn7 : n ≤ 7 := by have := hI.1.2.2; omega
  have n0zz : (0 : Int32).toNatClampNeg = 0 := by decide
  unfold f_X8_centuries at h1
  unfold f_X9_centuries at h2
  rw [n0zz] at h2
  obtain ⟨o1, g1, h2⟩ := z_lt h2
  have A1 : ∀ izz, gA o1 izz = gA o izz := fun izz => by rw [g1]; rfl
  have hS1 : TzS pl isl mv pa o1 n := hSzz.sc (A1 3) (by rw [g1]; rfl) (A1 6) (A1 7) (by rw [g1]; rfl)
  have hst1 : StT o8zz o1 := hst.eq rfl rfl (by rw [g1]; rfl) (A1 2)
  have hpp1 : PpT pp pm o1 := hpp.eq (by rw [g1]; rfl) (A1 61)
  have no1 : bk_X8_centuries_22 isl mv pl o8zz mezz pp pm czz = some yzz → bk_X9_centuries_29 o1 = some y' → yzz.1 = y'.1 ∧ TzS pl isl mv pa y'.2 n ∧ gA y'.2 3 = gA o 3 ∧ StT yzz.2.1 y'.2 ∧ PpT yzz.2.2.2.1 yzz.2.2.2.2.1 y'.2 := by
    intro h1 h2
    unfold bk_X8_centuries_22 at h1
    unfold bk_X9_centuries_29 at h2
    obtain ⟨z1, k1zz, h1⟩ := z_bd h1
    obtain ⟨z3, k3zz, h2⟩ := z_bd h2
    have h1 := Option.some.inj h1
    have h2 := Option.some.inj h2
    obtain ⟨s1zz, s2zz, s3zz⟩ := st_refuse hst1 (Or.inl rfl) k1zz k3zz
    have ft := fr_f_X9_tell k3zz
    rw [← h1, ← h2]
    exact ⟨s1zz.trans s2zz.symm, hS1.sc (ft.A 3 rfl) (ft.I 8 rfl) (ft.A 6 rfl) (ft.A 7 rfl) (ft.I 20 rfl), (ft.A 3 rfl).trans (A1 3), s3zz, hpp1.eq (ft.I 62 rfl) (ft.A 61 rfl)⟩
  obtain ⟨z2, k2zz, h2⟩ := z_bd h2
  have in2 := in9 (m := 0) (n := 1000000) (by decide) (by decide) k2zz
  by_cases c0zz : p0zz < 0
  · have c0' := cv_lt (a := p0zz.toInt) (b := 0) rfl (by decide) c0zz
    rcases in2 with ⟨uzz, -⟩ | ⟨-, uzz⟩
    · exact no1 (z_t h1 c0zz) (z_t h2 uzz)
    · omega
  have h1 := z_f h1 c0zz
  have c0' := cv_nlt (a := p0zz.toInt) (b := 0) rfl (by decide) c0zz
  by_cases c1zz : (1000000 : Int32) < p0zz
  · have c1' := cv_lt (a := 1000000) (b := p0zz.toInt) (by decide) rfl c1zz
    rcases in2 with ⟨uzz, -⟩ | ⟨-, uzz⟩
    · exact no1 (z_t h1 c1zz) (z_t h2 uzz)
    · omega
  have h1 := z_f h1 c1zz
  have c1' := cv_nlt (a := 1000000) (b := p0zz.toInt) (by decide) rfl c1zz
  have u2zz : ¬ z2 = 0 := by
    rcases in2 with ⟨-, uzz⟩ | ⟨uzz, -⟩
    · exact absurd ⟨c0', c1'⟩ uzz
    · exact uzz
  have h2 := z_f h2 u2zz
  obtain ⟨z4, k4zz, h2⟩ := z_bd h2
  have in4 := in9 (m := 1) (n := 60) (by decide) (by decide) k4zz
  by_cases c2zz : p1zz < 1
  · have c2' := cv_lt (a := p1zz.toInt) (b := 1) rfl (by decide) c2zz
    rcases in4 with ⟨uzz, -⟩ | ⟨-, uzz⟩
    · exact no1 (z_t h1 c2zz) (z_t h2 uzz)
    · omega
  have h1 := z_f h1 c2zz
  have c2' := cv_nlt (a := p1zz.toInt) (b := 1) rfl (by decide) c2zz
  by_cases c3zz : p1zz ≤ 60
  · have h1 := z_t h1 c3zz
    have c3' := cv_le (a := p1zz.toInt) (b := 60) rfl (by decide) c3zz
    have u4zz : ¬ z4 = 0 := by
      rcases in4 with ⟨-, uzz⟩ | ⟨uzz, -⟩
      · exact absurd ⟨c2', c3'⟩ uzz
      · exact uzz
    have h2 := z_f h2 u4zz
    rw [A1, ← hI.1.1] at h2
    by_cases c4zz : gI isl 7 = 0
    · have h1 := z_t h1 c4zz
      have h2 := z_t h2 c4zz
      obtain ⟨z12, k12, h1⟩ := z_bd h1
      obtain ⟨z26, k26, h2⟩ := z_bd h2
      have h1 := Option.some.inj h1
      have h2 := Option.some.inj h2
      obtain ⟨s1zz, s2zz, s3zz⟩ := st_refuse hst1 (Or.inr (Or.inr (Or.inl rfl))) k12 k26
      have ft := fr_f_X9_tell k26
      rw [← h1, ← h2]
      exact ⟨s1zz.trans s2zz.symm, hS1.sc (ft.A 3 rfl) (ft.I 8 rfl) (ft.A 6 rfl) (ft.A 7 rfl) (ft.I 20 rfl), (ft.A 3 rfl).trans (A1 3), s3zz, hpp1.eq (ft.I 62 rfl) (ft.A 61 rfl)⟩
    · have h1 := z_f h1 c4zz
      have h2 := z_f h2 c4zz
      have hn1 : 1 ≤ n := by
        have := cv_ne (a := (n : Int)) (b := 0) (by rw [hI.1.1]; exact en) (by decide) c4zz
        omega
      obtain ⟨zs, kszz, h1⟩ := z_bd h1
      obtain ⟨z5, k5zz, h2⟩ := z_bd h2
      obtain ⟨o6, g6, h2⟩ := z_lt h2
      obtain ⟨sm4, ⟨i7zz, i8zz, i9zz, i10zz, i11zz, i12zz⟩, -, a2, -, -, -, aR⟩ := setIsl kszz
      obtain ⟨m0zz, m1zz, m2zz, m3zz, m4zz⟩ := setM sm4
      have f5zz := fr_f_X9_keepAll k5zz
      unfold f_X9_keepAll at k5zz
      have d5zz := keepAll_lp (mzz := 16) (by decide) (by decide) zfu 0 o1 0 (by decide) (Nat.zero_le _) k5zz
      have e63 : gA o6 3 = gA o 3 := by rw [g6]; exact (f5zz.A 3 rfl).trans (A1 3)
      have hSN : TzN pl zs.1 zs.2 o6 n := by
        refine ⟨?_, ?_, ?_, ?_, by rw [e63]; exact en⟩
        · rw [e63]
          exact ⟨by rw [i7zz]; exact hI.1, fun jzz hj => by rw [a2 jzz hj]; exact hI.2.1 jzz hj, by rw [i12zz]; exact hI.2.2⟩
        · rw [e63]
          exact hMzz.ext m0zz m1zz m2zz m3zz m4zz (fun _ _ _ => rfl)
        · rw [e63, lawF_c i9zz i10zz aR]; exact hL
        · rw [g6]; exact (f5zz.I 20 rfl).trans ((by rw [g1]; rfl : gI o1 20 = gI o 20).trans h20)
      have D0 : DrT p0zz o6 := ⟨by rw [g6]; rfl, c0', by omega⟩
      obtain ⟨r', pm', o', me', c', b1, b2, b3, b4, b5, b6⟩ := cen_lp (pl := pl) (pp := zs.1) (isl := isl) (mvI := mv) i7zz.symm hn1 c3' zfu zfu p0zz 0 0 o8zz mezz zs.2 czz o6 0 0 D0 (by decide) (by decide) (Nat.le_refl _) (by decide) hSN h1 h2
      rw [e63] at b4
      unfold bk_X8_centuries_194 at b1
      unfold bk_X9_centuries_192 at b2
      obtain ⟨z3, k3zz, b1⟩ := z_bd b1
      have b1 := Option.some.inj b1
      obtain ⟨q1zz, z8, z9, k8zz, k9, ky, v61, F61⟩ := cen195 zfu 0 o' 0 (by decide) (Nat.zero_le _) b2
      have f8zz := fr_f_X9_putBack k8zz
      have ft := fr_f_X9_tell k9
      unfold f_X9_putBack at k8zz
      have d8zz := putBack_lp (mzz := 16) (by decide) (by decide) zfu 0 (sI q1zz 62 (gA q1zz 3 0)) 0 (by decide) (Nat.zero_le _) k8zz
      have e6zz : ∀ jzz, gA q1zz 6 jzz = if 25 * 16 + 0 ≤ jzz ∧ jzz < 25 * 16 + 25 then gA o 3 (4 + (jzz - 25 * 16)) else gA o 6 jzz := by
        intro jzz
        rw [F61.A 6 rfl, b6.A 6 rfl, g6]
        show gA z5 6 jzz = _
        rw [d5zz, A1, A1]
      have e8 : gA z8 3 = gA o 3 := by
        funext jzz
        rw [d8zz]
        show (if 4 + 0 ≤ jzz ∧ jzz < 29 then gA q1zz 6 (25 * 16 + (jzz - 4)) else gA q1zz 3 jzz) = gA o 3 jzz
        by_cases c5zz : 4 + 0 ≤ jzz ∧ jzz < 29
        · have et : 4 + (25 * 16 + (jzz - 4) - 25 * 16) = jzz := by omega
          rw [if_pos c5zz, e6zz, if_pos (by omega), et]
        · rw [if_neg c5zz, F61.A 3 rfl]
          exact b4 jzz (by omega)
      have st9zz : StT o8zz z8 := hst.eq rfl rfl ((f8zz.I 1 rfl).trans ((F61.I 1 rfl).trans ((b6.I 1 rfl).trans (by rw [g6]; exact (f5zz.I 1 rfl).trans (by rw [g1]; rfl))))) ((f8zz.A 2 rfl).trans ((F61.A 2 rfl).trans ((b6.A 2 rfl).trans (by rw [g6]; exact (f5zz.A 2 rfl).trans (A1 2)))))
      obtain ⟨s1zz, s2zz, s3zz⟩ := st_grant st9zz b5 k3zz k9
      have e67 : gA z9.2 7 = gA o 7 := (ft.A 7 rfl).trans ((f8zz.A 7 rfl).trans ((F61.A 7 rfl).trans ((b6.A 7 rfl).trans (by rw [g6]; exact (f5zz.A 7 rfl).trans (A1 7)))))
      have e68 : gI z9.2 8 = gI o 8 := (ft.I 8 rfl).trans ((f8zz.I 8 rfl).trans ((F61.I 8 rfl).trans ((b6.I 8 rfl).trans (by rw [g6]; exact (f5zz.I 8 rfl).trans (by rw [g1]; rfl)))))
      have e620 : gI z9.2 20 = gI o 20 := (ft.I 20 rfl).trans ((f8zz.I 20 rfl).trans ((F61.I 20 rfl).trans ((b6.I 20 rfl).trans (by rw [g6]; exact (f5zz.I 20 rfl).trans (by rw [g1]; rfl)))))
      have e93zz : gA z9.2 3 = gA o 3 := (ft.A 3 rfl).trans e8
      have e96 : ∀ jzz, jzz < 400 → gA z9.2 6 jzz = gA o 6 jzz := by
        intro jzz hj
        rw [ft.A 6 rfl, f8zz.A 6 rfl]
        show gA q1zz 6 jzz = _
        rw [e6zz, if_neg (by omega)]
      rw [← b1, ky]
      refine ⟨s1zz.trans s2zz.symm, hSzz.mv (by show RwC n (gA o 3) (gA z9.2 3); rw [e93zz]; exact RwC.rf) (by show TzM mv (gA z9.2 3); rw [e93zz]; exact hMzz) ?_ e620, e93zz, s3zz, Or.inl ⟨?_, ?_⟩, ?_⟩
      · show PaT pa z9.2 n (gA z9.2 3)
        rw [e93zz]
        obtain ⟨q0, sz, fi, y1, y2, y3, y4, y5⟩ := hP
        exact ⟨q0.trans e68.symm, sz, fi, y1, y2, y3, y4, fun izz hizz => (y5 izz hizz).mv rfl (fun _ _ => rfl) (by rw [e67]) (fun t ht => e96 _ (by omega)) (fun _ _ => rfl)⟩
      · show gI z9.2 62 = gI zs.1 7
        rw [ft.I 62 rfl, f8zz.I 62 rfl]
        show gA q1zz 3 0 = gI zs.1 7
        rw [F61.A 3 rfl, b4 0 (by omega), i7zz, hI.1.1]
      · show 0 ≤ (gI zs.1 7).toInt ∧ (gI zs.1 7).toInt ≤ 7
        rw [i7zz, hI.1.1]; exact hI.1.2
      · show TzM pm' (drA z9.2)
        refine b3.2.1.ext (fun _ _ => rfl) (fun _ _ => rfl) rfl rfl rfl (fun jzz j1 j2zz => ?_)
        show gA z9.2 61 (jzz - 4) = gA o' 3 jzz
        rw [ft.A 61 rfl, f8zz.A 61 rfl]
        show gA q1zz 61 (jzz - 4) = gA o' 3 jzz
        have et : 4 + (jzz - 4) = jzz := by omega
        rw [v61, if_pos (by omega), et]
  · have h1 := z_f h1 c3zz
    have c3' := cv_nle (a := p1zz.toInt) (b := 60) rfl (by decide) c3zz
    rcases in4 with ⟨uzz, -⟩ | ⟨-, uzz⟩
    · exact no1 h1 (z_t h2 uzz)
    · omega
