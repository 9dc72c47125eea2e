-- brackets, parts, terms, sums
set_option maxHeartbeats 200000 in
theorem inn_lp {o : Ob} {bzz Bzz : Nat} {zzz : Int32} (eB : (gI o 29).toInt = (Bzz : Int)) (hBzz : Bzz ≤ 400) (hbzz : bzz < Bzz) (h31 : 31 ≤ (gA o 27 bzz).toInt) (hl : ∀ jzz, bzz < jzz → jzz < Bzz → (gA o 27 jzz).toInt < 31) : ∀ (Nzz : Nat) (v1zz v2 : Int32) (izz : Nat), v2.toInt = (izz : Int) → izz ≤ Bzz → (bzz < izz → v1zz = gA o 27 bzz) → lp_X9_inner_4 o Nzz (v1zz, v2) = some zzz → zzz = gA o 27 bzz := by
  intro Nzz
  induction Nzz with
  | zero => intro v1zz v2 izz _ _ _ hzz; cases hzz
  | succ Nzz ihzz =>
    intro v1zz v2 izz e2zz hizz hv hzz
    have hzz : lb_X9_inner_4 o (lp_X9_inner_4 o Nzz) v1zz v2 = some zzz := hzz
    unfold lb_X9_inner_4 at hzz
    by_cases czz : gI o 29 ≤ v2
    · have d := cv_le (a := (Bzz : Int)) (b := (izz : Int)) eB e2zz czz
      rw [← Option.some.inj (z_t hzz czz)]; exact hv (by omega)
    · have d := cv_nle (a := (Bzz : Int)) (b := (izz : Int)) eB e2zz czz
      obtain ⟨-, hzz⟩ := z_gd (z_f hzz czz)
      have i2zz : v2.toNatClampNeg = izz := tnc_eq e2zz
      rw [i2zz] at hzz
      have hst : ∀ s0zz : Int32, bk_X9_inner_33 o (lp_X9_inner_4 o Nzz) v2 s0zz = some zzz → (bzz < izz + 1 → s0zz = gA o 27 bzz) → zzz = gA o 27 bzz := by
        intro s0zz kzz hs
        unfold bk_X9_inner_33 at kzz
        obtain ⟨x2zz, ezz, kzz⟩ := z_lt kzz
        have t : x2zz.toInt = (izz : Int) + 1 := by rw [ezz]; exact i32_add e2zz (by decide) (by omega) (by omega)
        exact ihzz s0zz x2zz (izz + 1) (by omega) (by omega) hs kzz
      by_cases gzz : gA o 27 izz < (31 : Int32)
      · have g' := cv_lt (a := (gA o 27 izz).toInt) (b := 31) rfl (by decide) gzz
        refine hst v1zz (z_t hzz gzz) (fun qzz => hv ?_)
        rcases (show bzz < izz ∨ bzz = izz by omega) with uzz | uzz
        · exact uzz
        · rw [← uzz] at g'; omega
      · have g' := cv_nlt (a := (gA o 27 izz).toInt) (b := 31) rfl (by decide) gzz
        obtain ⟨-, hzz⟩ := z_gd (z_f hzz gzz)
        refine hst _ hzz (fun qzz => ?_)
        rcases (show bzz < izz ∨ bzz = izz by omega) with uzz | uzz
        · have := hl izz uzz (by omega); omega
        · rw [uzz]
set_option maxHeartbeats 200000 in
theorem inn_top {o : Ob} {bzz Bzz : Nat} {zzz : Int32} (eB : (gI o 29).toInt = (Bzz : Int)) (hBzz : Bzz ≤ 400) (hbzz : bzz < Bzz) (h31 : 31 ≤ (gA o 27 bzz).toInt) (hl : ∀ jzz, bzz < jzz → jzz < Bzz → (gA o 27 jzz).toInt < 31) (hzz : f_X9_inner o = some zzz) : zzz = gA o 27 bzz := inn_lp eB hBzz hbzz h31 hl zfu (-1) 0 0 (by decide) (Nat.zero_le _) (fun qzz => absurd qzz (Nat.not_lt_zero _)) hzz
def NoOp (o : Ob) : Prop := ¬ IsS o 43 ∧ ¬ IsS o 45 ∧ ¬ IsS o 42 ∧ ¬ IsS o 47 ∧ ¬ IsS o 37
set_option maxHeartbeats 200000 in
/-- the reference behind a part of a sum: a sign of a sum, or none -/
theorem bs_norm {rd o : Ob} {tst : Int32} {zzz : Int32 × Ob} (hTzz : TT rd o) (hzz : f_X9_behindSum o tst = some zzz) : ∃ op : Int32, bk_X9_behindSum_71 tst op o = some zzz ∧ ((IsS o 43 ∧ op = 20) ∨ (IsS o 45 ∧ op = 21) ∨ (IsS o 42 ∧ op = 22) ∨ (IsS o 47 ∧ op = 23) ∨ (IsS o 37 ∧ op = 24) ∨ (NoOp o ∧ op = -1)) := by
  unfold f_X9_behindSum at hzz
  obtain ⟨z1, e1zz, hzz⟩ := z_bd hzz
  rcases s9 hTzz e1zz with ⟨a1zz, b1⟩ | ⟨a1zz, b1⟩
  · obtain ⟨z2, e2zz, hzz⟩ := z_bd (z_t hzz a1zz)
    rcases s9 hTzz e2zz with ⟨a2, b2⟩ | ⟨a2, b2⟩
    · obtain ⟨z3, e3zz, hzz⟩ := z_bd (z_t hzz a2)
      rcases s9 hTzz e3zz with ⟨a3, b3⟩ | ⟨a3, b3⟩
      · obtain ⟨z4, e4zz, hzz⟩ := z_bd (z_t hzz a3)
        rcases s9 hTzz e4zz with ⟨a4, b4⟩ | ⟨a4, b4⟩
        · obtain ⟨z5, e5zz, hzz⟩ := z_bd (z_t hzz a4)
          rcases s9 hTzz e5zz with ⟨a5, b5⟩ | ⟨a5, b5⟩
          · exact ⟨-1, z_t hzz a5, Or.inr (Or.inr (Or.inr (Or.inr (Or.inr ⟨⟨b1, b2, b3, b4, b5⟩, rfl⟩))))⟩
          · exact ⟨24, z_f hzz a5, Or.inr (Or.inr (Or.inr (Or.inr (Or.inl ⟨b5, rfl⟩))))⟩
        · exact ⟨23, z_f hzz a4, Or.inr (Or.inr (Or.inr (Or.inl ⟨b4, rfl⟩)))⟩
      · exact ⟨22, z_f hzz a3, Or.inr (Or.inr (Or.inl ⟨b3, rfl⟩))⟩
    · exact ⟨21, z_f hzz a2, Or.inr (Or.inl ⟨b2, rfl⟩)⟩
  · exact ⟨20, z_f hzz a1zz, Or.inl ⟨b1, rfl⟩⟩
set_option maxHeartbeats 200000 in
theorem bs_op {o : Ob} {tst op : Int32} {zzz : Int32 × Ob} (hn : ¬ op = -1) (hzz : bk_X9_behindSum_71 tst op o = some zzz) : ∃ z20 z21 z22 : Ob, f_X9_settle o (bnd op) = some z20 ∧ f_X9_push z20 op 0 = some z21 ∧ f_X9_next z21 = some z22 ∧ zzz = (1, z22) := by
  unfold bk_X9_behindSum_71 at hzz
  obtain ⟨z19, e19zz, hzz⟩ := z_bd (z_f hzz hn)
  obtain ⟨z20, e20, hzz⟩ := z_bd hzz
  obtain ⟨z21, e21zz, hzz⟩ := z_bd hzz
  obtain ⟨z22, e22zz, hzz⟩ := z_bd hzz
  rw [bnd_eq e19zz] at e20
  exact ⟨z20, z21, z22, e20, e21zz, e22zz, (Option.some.inj hzz).symm⟩
/-- a sum read by both: the class's result z, the reference's loop -/
def SumOut (L : Int) (od : Bool) (rd oc o : Ob) (zzz : Int32 × Ob × Ob) (yzz : Ob) (tst : Int32) (k1zz k2zz pzz bzz : Nat) (Ezz : Ob → Prop) : Prop := Bad rd oc o zzz yzz ∨ (zzz.1 = 1 ∧ ∃ (Nzz : Nat) (o' : Ob) (n k1' : Nat), lp_X9_readExpression_20 Nzz (tst, 3, o') = some yzz ∧ GoodT L od rd oc o zzz.2.1 zzz.2.2 o' k1zz k2zz pzz bzz n k1' ∧ Ezz o')
def SumH (rS : Ob → Ob → Int32 → Option (Int32 × Ob × Ob)) : Prop := ∀ (od : Bool) (rd oc o yzz : Ob) (k1zz k2zz pzz bzz Nzz : Nat) (tst p0zz : Int32) (zzz : Int32 × Ob × Ob), PSt od rd oc o k1zz k2zz pzz bzz → gI o 30 = p0zz → 0 ≤ p0zz.toInt → p0zz.toInt ≤ 8 → (bzz = 0 ∨ (bnd (gA o 27 (bzz - 1))).toInt < 5) → rS rd oc p0zz = some zzz → lp_X9_readExpression_20 Nzz (tst, 1, o) = some yzz → SumOut 5 od rd oc o zzz yzz tst k1zz k2zz pzz bzz NoOp
set_option maxHeartbeats 200000 in
theorem part_eq {rS : Ob → Ob → Int32 → Option (Int32 × Ob × Ob)} (hSzz : SumH rS) {od : Bool} {rd oc o yzz : Ob} {k1zz k2zz pzz bzz Nzz : Nat} {tst p0zz : Int32} {zzz : Int32 × Ob × Ob} (hzz : PSt od rd oc o k1zz k2zz pzz bzz) (h30 : gI o 30 = p0zz) (hp0 : 0 ≤ p0zz.toInt) (hp8 : p0zz.toInt ≤ 8) (h1 : f_X6_readPart rS 12 400 rd oc p0zz = some zzz) (hy : lp_X9_readExpression_20 Nzz (tst, 1, o) = some yzz) : SumOut 6 od rd oc o zzz yzz tst k1zz k2zz pzz bzz (fun _ => True) := by
  have hP := hzz
  obtain ⟨hTzz, h19, e5zz, hr, ek1, ek2, hp, eb, hbzz, hk2, hMzz⟩ := hzz
  obtain ⟨N1, zr, hr2, hy⟩ := ex_part h19 hy
  unfold f_X6_readPart at h1
  obtain ⟨zc, ezc, h1⟩ := z_bd h1
  rcases s8 hTzz ezc with ⟨q1zz, q2zz⟩ | ⟨q1zz, q2zz⟩
  · obtain ⟨z10, ez10, h1⟩ := z_bd (z_t h1 q1zz)
    obtain ⟨-, h1⟩ := z_gd h1
    have ez : zzz = z10 := (Option.some.inj h1).symm
    rw [ez]
    rcases single_eq hP q2zz ez10 hr2 hy with gzz | ⟨g1, g2, g3zz⟩
    · exact Or.inl gzz
    · rw [g2] at hy
      exact Or.inr ⟨g1, N1, zr.2, 1, k1zz + 1, hy, g3zz.t, trivial⟩
  · have h1 := z_f h1 q1zz
    unfold f_X9_readPart at hr2
    obtain ⟨zs, ezs, hr2⟩ := z_bd hr2
    rcases s9 hTzz ezs with ⟨u1zz, u2zz⟩ | ⟨u1zz, -⟩
    · exact absurd q2zz u2zz
    · obtain ⟨z9, ez9, hr2⟩ := z_bd (z_f hr2 u1zz)
      have ezr : zr = (1, z9) := (Option.some.inj hr2).symm
      rw [ezr] at hy
      unfold f_X9_openBracket at ez9
      obtain ⟨azz, bb, ea, ebb, hab, hbb, hx⟩ := hTzz.2.2.2.2
      have hbb' : bb = azz + 1 := by
        rcases hx with ⟨uzz, -⟩ | ⟨uzz, -⟩ | ⟨uzz, -⟩ | ⟨-, uzz, -⟩
        · exact absurd (uzz.symm.trans q2zz.1) (by decide)
        · exact absurd (uzz.symm.trans q2zz.1) (by decide)
        · exact absurd (uzz.symm.trans q2zz.1) (by decide)
        · exact uzz
      have h400 := hTzz.1.2.2.2
      rw [h30] at ez9
      by_cases c8zz : p0zz < (8 : Int32)
      · have d8zz := cv_lt (a := p0zz.toInt) (b := 8) rfl (by decide) c8zz
        have h1 := z_t h1 c8zz
        obtain ⟨zA, ezA, h1⟩ := z_bd h1
        obtain ⟨z3, ez3, h1⟩ := z_bd h1
        have ez9 := z_f ez9 (fun czz => by have czz := cv_le (a := 8) (b := p0zz.toInt) (by decide) rfl czz; omega)
        unfold bk_X9_openBracket_15 at ez9
        obtain ⟨w1zz, ew1, ez9⟩ := z_bd ez9
        have ew1 := mu_ok h19 (by decide) ew1
        obtain ⟨T1, T2, T3, T4⟩ := tk_eq hTzz.1 hTzz.2.2.2.1 (by omega) (by omega) ezA ew1
        have k19 : gI w1zz 19 = 0 := (T3.1 19 (by decide) (by decide) (by decide)).trans h19
        have ez9 := z_t ez9 k19
        obtain ⟨w2zz, ew2, ez9⟩ := z_lt ez9
        obtain ⟨w3zz, ew3, ez9⟩ := z_bd ez9
        have e9zz : z9 = w3zz := (Option.some.inj ez9).symm
        rw [e9zz] at hy
        obtain ⟨p1zz, p2zz, p3zz, p4zz, p5zz, p6zz, p7zz, p8zz, p9zz⟩ := push9 (bzz := bzz) (by rw [ew2]; exact (congrArg Int32.toInt (T3.1 29 (by decide) (by decide) (by decide))).trans eb) hbzz ew3
        have k30 : gI w2zz 30 = p0zz + 1 := by rw [ew2]; show gI w1zz 30 + 1 = _; rw [T3.1 30 (by decide) (by decide) (by decide), h30]
        have t30 : (p0zz + 1).toInt = p0zz.toInt + 1 := i32_add rfl (by decide) (by omega) (by omega)
        have i3zz : ∀ izz, izz ≠ 14 → izz ≠ 15 → izz ≠ 16 → izz ≠ 29 → izz ≠ 30 → gI w3zz izz = gI o izz := fun izz x1zz x2zz x3 x4zz x5zz => by
          rw [p6zz izz x4zz, ew2]; exact (fset_ne x5zz).trans (T3.1 izz x1zz x2zz x3)
        have jA : ∀ izz, izz ≠ 27 → izz ≠ 28 → gA w3zz izz = gA o izz := fun izz x1zz x2zz => by
          rw [p7zz izz x1zz x2zz, ew2]; exact T3.gA izz
        have jM : w3zz.2.2.2 = o.2.2.2 := by rw [p9zz, ew2]; exact congrArg Prod.snd T3.2.2
        have rr : RF o w3zz := ⟨fun izz x1zz x2zz x3 _ _ _ _ x4zz x5zz => i3zz izz x1zz x2zz x3 x4zz x5zz, fun izz _ _ x1zz x2zz => jA izz x1zz x2zz, jM⟩
        have TT3 : TT zA w3zz := T1.cg rfl rfl rfl rfl rfl rfl (by rw [p6zz 13 (by decide), ew2]; rfl) (by rw [p7zz 12 (by decide) (by decide), ew2]; rfl) (by rw [p6zz 14 (by decide), ew2]; rfl) (by rw [p6zz 15 (by decide), ew2]; rfl) (by rw [p6zz 16 (by decide), ew2]; rfl) ((congrFun p8zz 17).trans (by rw [ew2]; rfl))
        have k14 : gI w3zz 14 = gI w1zz 14 := by rw [p6zz 14 (by decide), ew2]; rfl
        have cfA : CF rd oc zA oc := T2.cc
        have hPS : PSt od zA oc w3zz k1zz k2zz (pzz + 1) (bzz + 1) := ⟨TT3, by rw [i3zz 19 (by decide) (by decide) (by decide) (by decide) (by decide)]; exact h19, by rw [T2.1 5 (by decide) (by decide) (by decide) (by decide), i3zz 26 (by decide) (by decide) (by decide) (by decide) (by decide)]; exact e5zz, by rw [i3zz 26 (by decide) (by decide) (by decide) (by decide) (by decide)]; exact hr, ek1, by rw [i3zz 23 (by decide) (by decide) (by decide) (by decide) (by decide)]; exact ek2, by rw [k14]; omega, by omega, by omega, hk2, hMzz.fr (oc := oc) (oc' := oc) cfA rr⟩
        have b32zz : (bnd (gA w3zz 27 bzz)).toInt = 0 := by rw [p3zz]; decide
        have ck0 : ckp k2zz o w3zz := fun jzz hj => by rw [jA 24 (by decide) (by decide), jA 25 (by decide) (by decide)]; exact ⟨rfl, rfl⟩
        rcases hSzz od zA oc w3zz yzz k1zz k2zz (pzz + 1) (bzz + 1) N1 tst (p0zz + 1) z3 hPS (by rw [p6zz 30 (by decide)]; exact k30) (by omega) (by omega) (Or.inr (by rw [Nat.add_sub_cancel, b32zz]; decide)) ez3 hy with gzz | ⟨g1, N2, o4zz, n, k1', hy4, gzz, gno⟩
        · have hz0 : z3.1 = 0 := gzz.1
          have ez : zzz = z3 := by rw [← Option.some.inj (z_t h1 hz0), ← hz0]
          rw [ez]; exact Or.inl (gzz.tr rr cfA)
        · have h1 := z_f h1 (by rw [g1]; decide)
          obtain ⟨k2', b', s0zz, s1zz, s2zz, s3zz, s4zz, s5, s6zz, s7, s8', s9', s10, s11⟩ := gzz
          obtain ⟨zT, z19, ze5, zr', zk1, zk2, zp, zb, zb', zk, zM⟩ := s1zz
          obtain ⟨N3, zb3, hbs, hy4⟩ := ex_sum z19 hy4
          obtain ⟨op, hb71, hop⟩ := bs_norm zT hbs
          have eop : op = -1 := by
            rcases hop with ⟨xzz, -⟩ | ⟨xzz, -⟩ | ⟨xzz, -⟩ | ⟨xzz, -⟩ | ⟨xzz, -⟩ | ⟨-, xzz⟩
            · exact absurd xzz gno.1
            · exact absurd xzz gno.2.1
            · exact absurd xzz gno.2.2.1
            · exact absurd xzz gno.2.2.2.1
            · exact absurd xzz gno.2.2.2.2
            · exact xzz
          rw [eop] at hb71
          unfold bk_X9_behindSum_71 at hb71
          obtain ⟨z6, ez6, hb71⟩ := z_bd (z_t hb71 rfl)
          have e32 : gA o4zz 27 bzz = 32 := by rw [(s5 bzz (by omega)).1]; exact p3zz
          have hz6 := inn_top (bzz := bzz) zb zb' (by omega) (by rw [e32]; decide) (fun jzz x1zz x2zz => by have := s6zz jzz (by omega) x2zz; omega) ez6
          have hb71 := z_t hb71 (by rw [hz6]; exact e32)
          obtain ⟨z14zz, ez14, hb71⟩ := z_bd hb71
          obtain ⟨z15, ez15, hb71⟩ := z_bd hb71
          obtain ⟨zs5, ezs5, h1⟩ := z_bd h1
          have cf4 : CF rd oc z3.2.1 z3.2.2 := cfA.tr s4zz
          have rr4 : RF o o4zz := rr.tr s3zz
          rcases s8 zT ezs5 with ⟨v1zz, v2⟩ | ⟨v1zz, v2⟩ <;> rcases s9 zT ez14 with ⟨w1', w2'⟩ | ⟨w1', w2'⟩
          · rw [w1'] at ez15
            have e15zz := mu_no z19 ez15
            have k19' : gI z15 19 = 1 := by rw [e15zz]; rfl
            have hb71 := Option.some.inj (z_f hb71 (by rw [k19']; decide))
            rw [← hb71] at hy4
            obtain ⟨z6', ez6', h1⟩ := z_bd (z_t h1 v1zz)
            obtain ⟨-, h1⟩ := z_gd h1
            obtain ⟨x1zz, x2zz⟩ := stop8 ez6'
            rw [← Option.some.inj h1, x1zz, x2zz]
            exact Or.inl ((bad_no (oc := z3.2.2) zT e15zz hy4 CF.stop).tr rr4 cf4)
          · exact absurd w2' v2
          · exact absurd v2 w2'
          · have ez15 := mu_ok z19 w1' ez15
            obtain ⟨zBzz, ezB, h1⟩ := z_bd (z_f h1 v1zz)
            obtain ⟨a5, bb5, ea5, ebb5, hab5, hbb5, hx5⟩ := zT.2.2.2.2
            obtain ⟨U1zz, U2, U3, U4⟩ := tk_eq zT.1 zT.2.2.2.1 (by omega) (by omega) ezB ez15
            have k19' : gI z15 19 = 0 := (U3.1 19 (by decide) (by decide) (by decide)).trans z19
            obtain ⟨z16, ez16, hb71⟩ := z_bd (z_t hb71 k19')
            obtain ⟨o17, g17, hb71⟩ := z_lt hb71
            obtain ⟨o18, g18, hb71⟩ := z_lt hb71
            have ezb3 : zb3 = (3, o18) := (Option.some.inj hb71).symm
            rw [ezb3] at hy4
            obtain ⟨y1', y2', k3zz, y3, y4, y5, y6⟩ := s11.done U3 (by omega) (by decide) (by decide) (Or.inr (by rw [Nat.add_sub_cancel, e32]; decide)) ez16
            have i18 : ∀ izz, izz ≠ 29 → izz ≠ 30 → gI o18 izz = gI z16 izz := fun izz x1zz x2zz => by rw [g18, g17]; exact (fset_ne x2zz).trans (fset_ne x1zz)
            have A18 : ∀ izz, gA o18 izz = gA z16 izz := fun izz => by rw [g18, g17]; rfl
            have r18 : RF z16 o18 := ⟨fun izz _ _ _ _ _ _ _ x1zz x2zz => i18 izz x1zz x2zz, fun izz _ _ _ _ => A18 izz, by rw [g18, g17]; rfl⟩
            have rr18 : RF o o18 := rr4.tr (U3.rr.tr (y2'.rr.tr r18))
            have cfB : CF rd oc zBzz z3.2.2 := cf4.tr U2.cc
            have k29 : (gI o18 29).toInt = (bzz : Int) := by
              have : gI o18 29 = gI z16 29 - 1 := by rw [g18, g17]; rfl
              rw [this]
              have := i32_sub (x := gI z16 29) (y := 1) (b := 1) y1' (by decide) (by omega) (by omega)
              omega
            have k30' : gI o18 30 = gI o 30 := by
              have e1zz : gI o18 30 = gI z16 30 - 1 := by rw [g18, g17]; rfl
              have e2zz : gI z16 30 = p0zz + 1 := by rw [y2'.1 30 (by decide) (by decide), U3.1 30 (by decide) (by decide) (by decide), s7, p6zz 30 (by decide)]; exact k30
              rw [e1zz, e2zz, h30]
              exact Int32.toInt_inj.mp (by have := i32_sub (x := p0zz + 1) (y := 1) (b := 1) t30 (by decide) (by omega) (by omega); omega)
            have i26 : gI o18 26 = gI o4zz 26 := (i18 26 (by decide) (by decide)).trans ((y2'.1 26 (by decide) (by decide)).trans (U3.1 26 (by decide) (by decide) (by decide)))
            have T18 : TT zBzz o18 := U1zz.cg rfl rfl rfl rfl rfl rfl ((i18 13 (by decide) (by decide)).trans (y2'.1 13 (by decide) (by decide))) ((A18 12).trans (y2'.2.2.1 12 (by decide) (by decide))) ((i18 14 (by decide) (by decide)).trans (y2'.1 14 (by decide) (by decide))) ((i18 15 (by decide) (by decide)).trans (y2'.1 15 (by decide) (by decide))) ((i18 16 (by decide) (by decide)).trans (y2'.1 16 (by decide) (by decide))) (by rw [g18, g17]; exact congrFun y2'.2.1 17)
            have k14' : gI o18 14 = gI z15 14 := (i18 14 (by decide) (by decide)).trans (y2'.1 14 (by decide) (by decide))
            refine Or.inr ⟨by rw [← Option.some.inj h1], N3, o18, n, k1', hy4, ?_, trivial⟩
            rw [← Option.some.inj h1]
            refine Good1.t (k2' := k3zz) ⟨⟨T18, ?_, ?_, ?_, zk1, ?_, ?_, k29, hbzz, y4, hMzz.fr cfB rr18⟩, rr18, cfB, fun jzz hj => ?_, k30', fun jzz hj => s8' jzz hj, fun jzz hj => ?_, ?_, ?_⟩
            · rw [i18 19 (by decide) (by decide), y2'.1 19 (by decide) (by decide)]; exact k19'
            · rw [U2.1 5 (by decide) (by decide) (by decide) (by decide), i26]; exact ze5
            · rw [i26]; exact zr'
            · rw [i18 23 (by decide) (by decide)]; exact y3
            · rw [k14']; omega
            · rw [A18 27, A18 28, y2'.2.2.1 27 (by decide) (by decide), y2'.2.2.1 28 (by decide) (by decide), U3.gA 27, U3.gA 28, (s5 jzz (by omega)).1, (s5 jzz (by omega)).2]
              have u27 : gA w2zz 27 = gA o 27 := by rw [ew2]; exact T3.gA 27
              have u28 : gA w2zz 28 = gA o 28 := by rw [ew2]; exact T3.gA 28
              have u5 := p5zz jzz (by omega)
              rw [u27, u28] at u5; exact u5
            · rw [A18 24, A18 25, (y5 jzz hj).1, (y5 jzz hj).2]; exact ck0 jzz hj
            · rw [i26, s10, i3zz 26 (by decide) (by decide) (by decide) (by decide) (by decide)]
            · rw [A18 24, A18 25]; exact y6
      · have d8zz := cv_nlt (a := p0zz.toInt) (b := 8) rfl (by decide) c8zz
        have ez9 := z_t ez9 (Int32.le_iff_toInt_le.mpr (by have : (8 : Int32).toInt = 8 := (by decide); omega))
        unfold bk_X9_openBracket_15 at ez9
        obtain ⟨w1zz, ew1, ez9⟩ := z_bd ez9
        have e1zz := mu_no h19 ew1
        have k19 : gI w1zz 19 = 1 := by rw [e1zz]; rfl
        have e9zz : z9 = w1zz := (Option.some.inj (z_f ez9 (by rw [k19]; decide))).symm
        obtain ⟨z8', ez8, h1⟩ := z_bd (z_f h1 c8zz)
        obtain ⟨-, h1⟩ := z_gd h1
        obtain ⟨x1zz, x2zz⟩ := stop8 ez8
        rw [← Option.some.inj h1, x1zz, x2zz]
        exact Or.inl (bad_no hTzz (e9zz.trans e1zz) hy CF.stop)
