-- a test in round brackets
def NoAO (o : Ob) : Prop := ¬ IsW o [4, 14, 1] ∧ ¬ IsW o [18, 15]
def TstOut (L : Int) (od : Bool) (rd oc o : Ob) (zzz : Int32 × Ob × Ob) (yzz : Ob) (tst : Int32) (k1zz k2zz pzz bzz : Nat) (Ezz : Ob → Prop) : Prop := Bad rd oc o zzz yzz ∨ (zzz.1 = 1 ∧ ∃ (Nzz : Nat) (o' : Ob) (n k1' : Nat), lp_X9_readExpression_20 Nzz (tst, 2, o') = some yzz ∧ GoodC L od rd oc o zzz.2.1 zzz.2.2 o' k1zz k2zz pzz bzz n k1' ∧ Ezz o')
def TstH (rT : Ob → Ob → Int32 → Option (Int32 × Ob × Ob)) : Prop := ∀ (od : Bool) (rd oc o yzz : Ob) (k1zz k2zz pzz bzz Nzz : Nat) (tst p0zz : Int32) (zzz : Int32 × Ob × Ob), PSt od rd oc o k1zz k2zz pzz bzz → gI o 30 = p0zz → 0 ≤ p0zz.toInt → p0zz.toInt ≤ 8 → ¬ tst = 0 → (bzz = 0 ∨ gA o 27 (bzz - 1) = 31) → rT rd oc p0zz = some zzz → lp_X9_readExpression_20 Nzz (tst, 0, o) = some yzz → TstOut 1 od rd oc o zzz yzz tst k1zz k2zz pzz bzz NoAO
set_option maxHeartbeats 200000 in
theorem br_eq {rT : Ob → Ob → Int32 → Option (Int32 × Ob × Ob)} (hR : TstH rT) {od : Bool} {rd oc o yzz : Ob} {k1zz k2zz pzz bzz Nzz : Nat} {tst p0zz v2 : Int32} {zzz : Int32 × Ob × Ob} (hzz : PSt od rd oc o k1zz k2zz pzz bzz) (h30 : gI o 30 = p0zz) (hp0 : 0 ≤ p0zz.toInt) (hp8 : p0zz.toInt ≤ 8) (ht : ¬ tst = 0) (q2zz : IsS o 40) (nw : ¬ IsW o [20, 15, 14]) (hy : lp_X9_readExpression_20 Nzz (tst, 0, o) = some yzz)
    (h1 : (if p0zz < (8 : Int32) then ((f_X6_step rd).bind fun z12 => (rT z12 oc (p0zz + (1 : Int32))).bind fun z13zz => if z13zz.1 = (0 : Int32) then (some ((0 : Int32), z13zz.2.1, z13zz.2.2)) else ((f_X6_isSign z13zz.2.1 (41 : Int32)).bind fun z14zz => if z14zz = (0 : Int32) then ((f_X6_stop z13zz.2.1).bind fun z16 => zgd (zbo z16.1) <| some (z16.1, z16.2, z13zz.2.2)) else ((f_X6_step z13zz.2.1).bind fun z15 => bk_X6_readPlain_185 rT 12 400 v2 z15 z13zz.2.2))) else ((f_X6_stop rd).bind fun z18 => zgd (zbo z18.1) <| some (z18.1, z18.2, oc))) = some zzz) : PlOut rT od rd oc o zzz yzz tst v2 k1zz k2zz pzz bzz := by
  obtain ⟨hTzz, h19, e5zz, hr, ek1, ek2, hp, eb, hbzz, hk2, hMzz⟩ := hzz
  obtain ⟨N1, zr, hr2, hy⟩ := ex_plain h19 hy
  unfold f_X9_readPlain at hr2
  obtain ⟨zw, ezw, hr2⟩ := z_bd hr2
  have uw : zw = 0 := by
    rcases w9 (R := [20, 15, 14]) hTzz (all_dig (by decide)) (by decide) (by decide) ezw with ⟨uzz, -⟩ | ⟨-, uzz⟩
    · exact uzz
    · exact absurd uzz nw
  obtain ⟨zs, ezs, hr2⟩ := z_bd (z_t hr2 uw)
  rcases s9 hTzz ezs with ⟨u1zz, u2zz⟩ | ⟨u1zz, -⟩
  · exact absurd q2zz u2zz
  · obtain ⟨z9, ez9, hr2⟩ := z_bd (z_f hr2 u1zz)
    have ezr : zr = (0, z9) := (Option.some.inj hr2).symm
    rw [ezr] at hy
    unfold f_X9_openBracket at ez9
    obtain ⟨azz, bb, ea, ebb, hab, hbb, hx⟩ := hTzz.2.2.2.2
    have hbb' : bb = azz + 1 := by
      rcases hx with ⟨uzz, -⟩ | ⟨uzz, -⟩ | ⟨uzz, -⟩ | ⟨-, uzz, -⟩
      · exact absurd (uzz.symm.trans q2zz.1) (by decide)
      · exact absurd (uzz.symm.trans q2zz.1) (by decide)
      · exact absurd (uzz.symm.trans q2zz.1) (by decide)
      · exact uzz
    have h400 := hTzz.1.2.2.2
    rw [h30] at ez9
    by_cases c8zz : p0zz < (8 : Int32)
    · have d8zz := cv_lt (a := p0zz.toInt) (b := 8) rfl (by decide) c8zz
      have h1 := z_t h1 c8zz
      obtain ⟨zA, ezA, h1⟩ := z_bd h1
      obtain ⟨z3, ez3, h1⟩ := z_bd h1
      have ez9 := z_f ez9 (fun czz => by have czz := cv_le (a := 8) (b := p0zz.toInt) (by decide) rfl czz; omega)
      unfold bk_X9_openBracket_15 at ez9
      obtain ⟨w1zz, ew1, ez9⟩ := z_bd ez9
      have ew1 := mu_ok h19 (by decide) ew1
      obtain ⟨T1, T2, T3, T4⟩ := tk_eq hTzz.1 hTzz.2.2.2.1 (by omega) (by omega) ezA ew1
      have k19 : gI w1zz 19 = 0 := (T3.1 19 (by decide) (by decide) (by decide)).trans h19
      have ez9 := z_t ez9 k19
      obtain ⟨w2zz, ew2, ez9⟩ := z_lt ez9
      obtain ⟨w3zz, ew3, ez9⟩ := z_bd ez9
      have e9zz : z9 = w3zz := (Option.some.inj ez9).symm
      rw [e9zz] at hy
      obtain ⟨p1zz, p2zz, p3zz, p4zz, p5zz, p6zz, p7zz, p8zz, p9zz⟩ := push9 (bzz := bzz) (by rw [ew2]; exact (congrArg Int32.toInt (T3.1 29 (by decide) (by decide) (by decide))).trans eb) hbzz ew3
      have k30 : gI w2zz 30 = p0zz + 1 := by rw [ew2]; show gI w1zz 30 + 1 = _; rw [T3.1 30 (by decide) (by decide) (by decide), h30]
      have t30 : (p0zz + 1).toInt = p0zz.toInt + 1 := i32_add rfl (by decide) (by omega) (by omega)
      have i3zz : ∀ izz, izz ≠ 14 → izz ≠ 15 → izz ≠ 16 → izz ≠ 29 → izz ≠ 30 → gI w3zz izz = gI o izz := fun izz x1zz x2zz x3 x4zz x5zz => by
        rw [p6zz izz x4zz, ew2]; exact (fset_ne x5zz).trans (T3.1 izz x1zz x2zz x3)
      have jA : ∀ izz, izz ≠ 27 → izz ≠ 28 → gA w3zz izz = gA o izz := fun izz x1zz x2zz => by
        rw [p7zz izz x1zz x2zz, ew2]; exact T3.gA izz
      have jM : w3zz.2.2.2 = o.2.2.2 := by rw [p9zz, ew2]; exact congrArg Prod.snd T3.2.2
      have rr : RF o w3zz := ⟨fun izz x1zz x2zz x3 _ _ _ _ x4zz x5zz => i3zz izz x1zz x2zz x3 x4zz x5zz, fun izz _ _ x1zz x2zz => jA izz x1zz x2zz, jM⟩
      have TT3 : TT zA w3zz := T1.cg rfl rfl rfl rfl rfl rfl (by rw [p6zz 13 (by decide), ew2]; rfl) (by rw [p7zz 12 (by decide) (by decide), ew2]; rfl) (by rw [p6zz 14 (by decide), ew2]; rfl) (by rw [p6zz 15 (by decide), ew2]; rfl) (by rw [p6zz 16 (by decide), ew2]; rfl) ((congrFun p8zz 17).trans (by rw [ew2]; rfl))
      have k14 : gI w3zz 14 = gI w1zz 14 := by rw [p6zz 14 (by decide), ew2]; rfl
      have cfA : CF rd oc zA oc := T2.cc
      have hPS : PSt od zA oc w3zz k1zz k2zz (pzz + 1) (bzz + 1) := ⟨TT3, by rw [i3zz 19 (by decide) (by decide) (by decide) (by decide) (by decide)]; exact h19, by rw [T2.1 5 (by decide) (by decide) (by decide) (by decide), i3zz 26 (by decide) (by decide) (by decide) (by decide) (by decide)]; exact e5zz, by rw [i3zz 26 (by decide) (by decide) (by decide) (by decide) (by decide)]; exact hr, ek1, by rw [i3zz 23 (by decide) (by decide) (by decide) (by decide) (by decide)]; exact ek2, by rw [k14]; omega, by omega, by omega, hk2, hMzz.fr (oc := oc) (oc' := oc) cfA rr⟩
      have ck0 : ckp k2zz o w3zz := fun jzz hj => by rw [jA 24 (by decide) (by decide), jA 25 (by decide) (by decide)]; exact ⟨rfl, rfl⟩
      rcases hR od zA oc w3zz yzz k1zz k2zz (pzz + 1) (bzz + 1) N1 tst (p0zz + 1) z3 hPS (by rw [p6zz 30 (by decide)]; exact k30) (by omega) (by omega) ht (Or.inr (by rw [Nat.add_sub_cancel]; exact p3zz)) ez3 hy with gzz | ⟨g1, N2, o4zz, n, k1', hy4, gzz, gno⟩
      · have hz0 : z3.1 = 0 := gzz.1
        have ez : zzz = z3 := by rw [← Option.some.inj (z_t h1 hz0), ← hz0]
        rw [ez]; exact Or.inl (gzz.tr rr cfA)
      · have h1 := z_f h1 (by rw [g1]; decide)
        obtain ⟨k2', b', s0zz, s1zz, s2zz, s3zz, s4zz, s5, s6zz, s7, s8', s9', s10, s11⟩ := gzz
        obtain ⟨zT, z19, ze5, zr', zk1, zk2, zp, zb, zb', zk, zM⟩ := s1zz
        obtain ⟨N3, zb3, hbs, hy4⟩ := ex_test z19 hy4
        unfold f_X9_behindTest at hbs
        obtain ⟨zw1, ew1', hbs⟩ := z_bd hbs
        have ua : zw1 = 0 := by
          rcases w9 (R := [4, 14, 1]) zT (all_dig (by decide)) (by decide) (by decide) ew1' with ⟨uzz, -⟩ | ⟨-, uzz⟩
          · exact uzz
          · exact absurd uzz gno.1
        obtain ⟨zw2, ew2', hbs⟩ := z_bd (z_t hbs ua)
        have ubzz : zw2 = 0 := by
          rcases w9 (R := [18, 15]) zT (all_dig (by decide)) (by decide) (by decide) ew2' with ⟨uzz, -⟩ | ⟨-, uzz⟩
          · exact uzz
          · exact absurd uzz gno.2
        obtain ⟨z6, ez6, hb71⟩ := z_bd (z_t hbs ubzz)
        have e31zz : gA o4zz 27 bzz = 31 := by rw [(s5 bzz (by omega)).1]; exact p3zz
        have hz6 := inn_top (bzz := bzz) zb zb' (by omega) (by rw [e31zz]; decide) (fun jzz x1zz x2zz => by have := s6zz jzz (by omega) x2zz; omega) ez6
        have hb71 := z_f hb71 (by rw [hz6, e31zz]; decide)
        obtain ⟨z14zz, ez14, hb71⟩ := z_bd hb71
        obtain ⟨z15, ez15, hb71⟩ := z_bd hb71
        obtain ⟨zs5, ezs5, h1⟩ := z_bd h1
        have cf4 : CF rd oc z3.2.1 z3.2.2 := cfA.tr s4zz
        have rr4 : RF o o4zz := rr.tr s3zz
        rcases s8 zT ezs5 with ⟨v1zz, v2⟩ | ⟨v1zz, v2⟩ <;> rcases s9 zT ez14 with ⟨w1', w2'⟩ | ⟨w1', w2'⟩
        · rw [w1'] at ez15
          have e15zz := mu_no z19 ez15
          have k19' : gI z15 19 = 1 := by rw [e15zz]; rfl
          have hb71 := Option.some.inj (z_f hb71 (by rw [k19']; decide))
          rw [← hb71] at hy4
          obtain ⟨z6', ez6', h1⟩ := z_bd (z_t h1 v1zz)
          obtain ⟨-, h1⟩ := z_gd h1
          obtain ⟨x1zz, x2zz⟩ := stop8 ez6'
          rw [← Option.some.inj h1, x1zz, x2zz]
          exact Or.inl ((bad_no (oc := z3.2.2) zT e15zz hy4 CF.stop).tr rr4 cf4)
        · exact absurd w2' v2
        · exact absurd v2 w2'
        · have ez15 := mu_ok z19 w1' ez15
          obtain ⟨zBzz, ezB, h1⟩ := z_bd (z_f h1 v1zz)
          obtain ⟨a5, bb5, ea5, ebb5, hab5, hbb5, hx5⟩ := zT.2.2.2.2
          obtain ⟨U1zz, U2, U3, U4⟩ := tk_eq zT.1 zT.2.2.2.1 (by omega) (by omega) ezB ez15
          have k19' : gI z15 19 = 0 := (U3.1 19 (by decide) (by decide) (by decide)).trans z19
          obtain ⟨z16, ez16, hb71⟩ := z_bd (z_t hb71 k19')
          obtain ⟨o17, g17, hb71⟩ := z_lt hb71
          obtain ⟨o18, g18, hb71⟩ := z_lt hb71
          have ezb3 : zb3 = (2, o18) := (Option.some.inj hb71).symm
          rw [ezb3] at hy4
          obtain ⟨y1', y2', k3zz, y3, y4, y5, y6⟩ := s11.done U3 (by omega) (by decide) (by decide) (Or.inr (by rw [Nat.add_sub_cancel, e31zz]; decide)) ez16
          have i18 : ∀ izz, izz ≠ 29 → izz ≠ 30 → gI o18 izz = gI z16 izz := fun izz x1zz x2zz => by rw [g18, g17]; exact (fset_ne x2zz).trans (fset_ne x1zz)
          have A18 : ∀ izz, gA o18 izz = gA z16 izz := fun izz => by rw [g18, g17]; rfl
          have r18 : RF z16 o18 := ⟨fun izz _ _ _ _ _ _ _ x1zz x2zz => i18 izz x1zz x2zz, fun izz _ _ _ _ => A18 izz, by rw [g18, g17]; rfl⟩
          have rr18 : RF o o18 := rr4.tr (U3.rr.tr (y2'.rr.tr r18))
          have cfB : CF rd oc zBzz z3.2.2 := cf4.tr U2.cc
          have k29 : (gI o18 29).toInt = (bzz : Int) := by
            have : gI o18 29 = gI z16 29 - 1 := by rw [g18, g17]; rfl
            rw [this]
            have := i32_sub (x := gI z16 29) (y := 1) (b := 1) y1' (by decide) (by omega) (by omega)
            omega
          have k30' : gI o18 30 = gI o 30 := by
            have e1zz : gI o18 30 = gI z16 30 - 1 := by rw [g18, g17]; rfl
            have e2zz : gI z16 30 = p0zz + 1 := by rw [y2'.1 30 (by decide) (by decide), U3.1 30 (by decide) (by decide) (by decide), s7, p6zz 30 (by decide)]; exact k30
            rw [e1zz, e2zz, h30]
            exact Int32.toInt_inj.mp (by have := i32_sub (x := p0zz + 1) (y := 1) (b := 1) t30 (by decide) (by omega) (by omega); omega)
          have i26 : gI o18 26 = gI o4zz 26 := (i18 26 (by decide) (by decide)).trans ((y2'.1 26 (by decide) (by decide)).trans (U3.1 26 (by decide) (by decide) (by decide)))
          have T18 : TT zBzz o18 := U1zz.cg rfl rfl rfl rfl rfl rfl ((i18 13 (by decide) (by decide)).trans (y2'.1 13 (by decide) (by decide))) ((A18 12).trans (y2'.2.2.1 12 (by decide) (by decide))) ((i18 14 (by decide) (by decide)).trans (y2'.1 14 (by decide) (by decide))) ((i18 15 (by decide) (by decide)).trans (y2'.1 15 (by decide) (by decide))) ((i18 16 (by decide) (by decide)).trans (y2'.1 16 (by decide) (by decide))) (by rw [g18, g17]; exact congrFun y2'.2.1 17)
          have k14' : gI o18 14 = gI z15 14 := (i18 14 (by decide) (by decide)).trans (y2'.1 14 (by decide) (by decide))
          have y6' : Sx od (gA z3.2.2 5) (gA z3.2.2 6) (gA o18 24) (gA o18 25) true k1zz k1' k2zz k3zz n := by rw [A18 24, A18 25]; exact y6
          have ck18 : ckp k2zz o o18 := fun jzz hj => by rw [A18 24, A18 25, (y5 jzz hj).1, (y5 jzz hj).2]; exact ck0 jzz hj
          have k23 : (gI o18 23).toInt = (k3zz : Int) := by rw [i18 23 (by decide) (by decide)]; exact y3
          have ylt := y6'.lt
          refine Or.inr ⟨zBzz, z3.2.2, o18, n, k1', N3, h1, hy4, k3zz, bzz, by omega, ⟨T18, ?_, ?_, ?_, zk1, k23, ?_, k29, hbzz, y4, hMzz.fr cfB rr18⟩, Nat.le_refl _, rr18, cfB, fun jzz hj => ?_, fun jzz azz czz => by omega, k30', fun jzz hj => s8' jzz hj, ck18, ?_, PEs.none k29 (fun o'' fzz => ⟨k3zz, by rw [fzz.1 23 (by decide) (by decide) (by decide)]; exact k23, y4, fun jzz hj => by rw [fzz.gA 24, fzz.gA 25]; exact ck18 jzz hj, by rw [fzz.gA 24, fzz.gA 25]; exact y6'⟩)⟩
          · rw [i18 19 (by decide) (by decide), y2'.1 19 (by decide) (by decide)]; exact k19'
          · rw [U2.1 5 (by decide) (by decide) (by decide) (by decide), i26]; exact ze5
          · rw [i26]; exact zr'
          · rw [k14']; omega
          · rw [A18 27, A18 28, y2'.2.2.1 27 (by decide) (by decide), y2'.2.2.1 28 (by decide) (by decide), U3.gA 27, U3.gA 28, (s5 jzz (by omega)).1, (s5 jzz (by omega)).2]
            have u27 : gA w2zz 27 = gA o 27 := by rw [ew2]; exact T3.gA 27
            have u28 : gA w2zz 28 = gA o 28 := by rw [ew2]; exact T3.gA 28
            have u5 := p5zz jzz (by omega)
            rw [u27, u28] at u5; exact u5
          · rw [i26, s10, i3zz 26 (by decide) (by decide) (by decide) (by decide) (by decide)]
    · have d8zz := cv_nlt (a := p0zz.toInt) (b := 8) rfl (by decide) c8zz
      have ez9 := z_t ez9 (Int32.le_iff_toInt_le.mpr (by have : (8 : Int32).toInt = 8 := (by decide); omega))
      unfold bk_X9_openBracket_15 at ez9
      obtain ⟨w1zz, ew1, ez9⟩ := z_bd ez9
      have e1zz := mu_no h19 ew1
      have k19 : gI w1zz 19 = 1 := by rw [e1zz]; rfl
      have e9zz : z9 = w1zz := (Option.some.inj (z_f ez9 (by rw [k19]; decide))).symm
      obtain ⟨z8', ez8, h1⟩ := z_bd (z_f h1 c8zz)
      obtain ⟨-, h1⟩ := z_gd h1
      obtain ⟨x1zz, x2zz⟩ := stop8 ez8
      rw [← Option.some.inj h1, x1zz, x2zz]
      exact Or.inl (bad_no hTzz (e9zz.trans e1zz) hy CF.stop)
