-- terms and sums, sign by sign
def NoMul (o : Ob) : Prop := ¬ IsS o 42 ∧ ¬ IsS o 47 ∧ ¬ IsS o 37
set_option maxHeartbeats 200000 in
theorem IsS.lt {rd o : Ob} {czz : Int32} (hzz : TT rd o) (wzz : IsS o czz) : (gI o 14).toInt < 400 := by
  obtain ⟨azz, bzz, ea, eb, hab, hbzz, hx⟩ := hzz.2.2.2.2
  have h4 := hzz.1.2.2.2
  rcases hx with ⟨uzz, -⟩ | ⟨uzz, -⟩ | ⟨uzz, -⟩ | ⟨-, uzz, -⟩
  · exact absurd (uzz.symm.trans wzz.1) (by decide)
  · exact absurd (uzz.symm.trans wzz.1) (by decide)
  · exact absurd (uzz.symm.trans wzz.1) (by decide)
  · omega
set_option maxHeartbeats 200000 in
theorem GoodT.tt {L : Int} {od : Bool} {rd oc o rd' oc' o' : Ob} {k1zz k2zz pzz bzz n k1' : Nat} (hzz : GoodT L od rd oc o rd' oc' o' k1zz k2zz pzz bzz n k1') : TT rd' o' ∧ gI o' 19 = 0 ∧ ((k1' + pzz : Nat) : Int) ≤ (gI o' 14).toInt ∧ (∀ jzz, jzz < k1zz → gA oc' 5 jzz = gA oc 5 jzz ∧ gA oc' 6 jzz = gA oc 6 jzz) ∧ k1zz ≤ k1' := by
  obtain ⟨k2', b', h0, h1, h2, h3, h4, h5, h6, h7, h8, -⟩ := hzz
  exact ⟨h1.1, h1.2.1, h1.2.2.2.2.2.2.1, h8, h0⟩
set_option maxHeartbeats 200000 in
theorem bn22 : (bnd 22).toInt = 6 ∧ (bnd 23).toInt = 6 ∧ (bnd 24).toInt = 6 ∧ (bnd 20).toInt = 5 ∧ (bnd 21).toInt = 5 := by decide
set_option maxHeartbeats 200000 in
theorem term_lp {rS : Ob → Ob → Int32 → Option (Int32 × Ob × Ob)} (hSzz : SumH rS) {od : Bool} {rd oc o yzz : Ob} {k1zz k2zz pzz bzz : Nat} {tst p0zz : Int32} {zzz : Int32 × Ob × Ob} (h30 : gI o 30 = p0zz) (hp0 : 0 ≤ p0zz.toInt) (hp8 : p0zz.toInt ≤ 8) (hbzz : bzz ≤ 400) (hbase : bzz = 0 ∨ (bnd (gA o 27 (bzz - 1))).toInt < 6) :
    ∀ (Nzz N2 : Nat) (v2 : Int32) (rd1 oc1 o1 : Ob) (n k1' : Nat), GoodT 6 od rd oc o rd1 oc1 o1 k1zz k2zz pzz bzz n k1' → 0 ≤ v2.toInt → v2.toInt ≤ (k1' : Int) → lp_X6_readTerm_12 rS 12 400 Nzz (p0zz, v2, rd1, oc1) = some zzz → lp_X9_readExpression_20 N2 (tst, 3, o1) = some yzz → SumOut 6 od rd oc o zzz yzz tst k1zz k2zz pzz bzz NoMul := by
  intro Nzz
  induction Nzz with
  | zero => intro N2 v2 rd1 oc1 o1 n k1' _ _ _ hzz; cases hzz
  | succ Nzz ihzz =>
    intro N2 v2 rd1 oc1 o1 n k1' gzz hv0 hv h1 hy
    obtain ⟨hTzz, h19, hpos, hk13, hk11⟩ := gzz.tt
    have h1 : lb_X6_readTerm_12 rS 12 400 (lp_X6_readTerm_12 rS 12 400 Nzz) p0zz v2 rd1 oc1 = some zzz := h1
    unfold lb_X6_readTerm_12 at h1
    have hend : NoMul o1 → zzz = (1, rd1, oc1) → SumOut 6 od rd oc o zzz yzz tst k1zz k2zz pzz bzz NoMul := fun qzz ezz => by rw [ezz]; exact Or.inr ⟨rfl, N2, o1, n, k1', hy, gzz, qzz⟩
    by_cases c4zz : (400 : Int32) ≤ v2
    · have d4zz := cv_le (a := 400) (b := v2.toInt) (by decide) rfl c4zz
      refine hend ⟨fun wzz => ?_, fun wzz => ?_, fun wzz => ?_⟩ (Option.some.inj (z_t h1 c4zz)).symm <;> (have := IsS.lt hTzz wzz; omega)
    · have h1 := z_f h1 c4zz
      have hgo : ∀ s op : Int32, opB s op → (op = 22 ∨ op = 23 ∨ op = 24) → gI o1 16 = 3 → (∃ z3 : Int32 × Ob, f_X9_behindSum o1 tst = some z3 ∧ bk_X9_behindSum_71 tst op o1 = some z3 ∧ ∃ N3, lp_X9_readExpression_20 N3 (tst, z3.1, z3.2) = some yzz) → bk_X6_readTerm_76 rS 12 400 (lp_X6_readTerm_12 rS 12 400 Nzz) p0zz v2 s rd1 oc1 = some zzz → SumOut 6 od rd oc o zzz yzz tst k1zz k2zz pzz bzz NoMul := by
        intro s op hso hop h16zz hz3 kzz
        obtain ⟨z3, -, hb71, N3, hy3⟩ := hz3
        have hbn : (bnd op).toInt = 6 := by rcases hop with ezz | ezz | ezz <;> rw [ezz] <;> decide
        have hopr : 20 ≤ op.toInt ∧ op.toInt ≤ 24 := by rcases hop with ezz | ezz | ezz <;> rw [ezz] <;> decide
        have hn1 : ¬ op = -1 := by rcases hop with ezz | ezz | ezz <;> rw [ezz] <;> decide
        obtain ⟨z20, z21, z22, e20, e21zz, e22zz, e3zz⟩ := bs_op hn1 hb71
        rw [e3zz] at hy3
        unfold bk_X6_readTerm_76 at kzz
        obtain ⟨z5, ez5, kzz⟩ := z_bd kzz
        obtain ⟨z6, ez6, kzz⟩ := z_bd kzz
        obtain ⟨k3zz, i1zz, i2zz, i3zz, i4zz, i5zz, i6zz, i7zz, i8zz, i9zz, i10zz⟩ := op_in gzz hbzz hopr ⟨by omega, by omega⟩ (by rw [hbn]; exact hbase) h16zz e20 e21zz e22zz ez5
        rcases part_eq hSzz i1zz (i6zz.trans h30) hp0 hp8 ez6 hy3 with gb | ⟨g1, N4zz, o4zz, n', k1'', hy4, g4, -⟩
        · have ezz : zzz = z6 := by rw [← Option.some.inj (z_t kzz gb.1), ← gb.1]
          rw [ezz]; exact Or.inl (gb.tr i2zz i3zz)
        · have kzz := z_f kzz (by rw [g1]; decide)
          obtain ⟨z7, ez7, kzz⟩ := z_bd kzz
          obtain ⟨x8, e8, kzz⟩ := z_lt kzz
          have g5zz := op_out (L := 6) i9zz i2zz i3zz i4zz i5zz i6zz i7zz i8zz i10zz hk13 g4 (by omega) (by omega) hopr hso ez7 rfl
          have kk := g4.tt.2.2.2.2
          have h400 := hTzz.1.2.2.2
          obtain ⟨aT, bT, xT1, xT2, xT3, xT4, -⟩ := hTzz.2.2.2.2
          have t8 : x8.toInt = v2.toInt + 1 := by rw [e8]; exact i32_add rfl (by decide) (by omega) (by omega)
          exact ihzz N4zz x8 z6.2.1 z7.2 o4zz (n + n') (k1'' + 1) g5zz (by omega) (by omega) kzz hy4
      obtain ⟨N3, z3, hbs, hy3⟩ := ex_sum h19 hy
      obtain ⟨op, hb71, hop⟩ := bs_norm hTzz hbs
      obtain ⟨z2, e2zz, h1⟩ := z_bd h1
      have h46 : ∀ czz : Int32, IsS o1 czz → czz = 42 ∨ czz = 47 ∨ czz = 37 → bk_X6_readTerm_46 rS 12 400 (lp_X6_readTerm_12 rS 12 400 Nzz) p0zz v2 rd1 oc1 = some zzz → SumOut 6 od rd oc o zzz yzz tst k1zz k2zz pzz bzz NoMul := by
        intro czz hczz hcc kzz
        unfold bk_X6_readTerm_46 at kzz
        obtain ⟨za, ea, kzz⟩ := z_bd kzz
        have hop' : (czz = 42 ∧ op = 22) ∨ (czz = 47 ∧ op = 23) ∨ (czz = 37 ∧ op = 24) := by
          have no : ∀ d : Int32, ¬ czz = d → ¬ IsS o1 d := fun d hdzz => hczz.ne hdzz
          rcases hcc with ezz | ezz | ezz <;> subst ezz
          · rcases hop with ⟨xzz, -⟩ | ⟨xzz, -⟩ | ⟨-, xzz⟩ | ⟨xzz, -⟩ | ⟨xzz, -⟩ | ⟨xzz, -⟩
            · exact absurd xzz (no _ (by decide))
            · exact absurd xzz (no _ (by decide))
            · exact Or.inl ⟨rfl, xzz⟩
            · exact absurd xzz (no _ (by decide))
            · exact absurd xzz (no _ (by decide))
            · exact absurd hczz xzz.2.2.1
          · rcases hop with ⟨xzz, -⟩ | ⟨xzz, -⟩ | ⟨xzz, -⟩ | ⟨-, xzz⟩ | ⟨xzz, -⟩ | ⟨xzz, -⟩
            · exact absurd xzz (no _ (by decide))
            · exact absurd xzz (no _ (by decide))
            · exact absurd xzz (no _ (by decide))
            · exact Or.inr (Or.inl ⟨rfl, xzz⟩)
            · exact absurd xzz (no _ (by decide))
            · exact absurd hczz xzz.2.2.2.1
          · rcases hop with ⟨xzz, -⟩ | ⟨xzz, -⟩ | ⟨xzz, -⟩ | ⟨xzz, -⟩ | ⟨-, xzz⟩ | ⟨xzz, -⟩
            · exact absurd xzz (no _ (by decide))
            · exact absurd xzz (no _ (by decide))
            · exact absurd xzz (no _ (by decide))
            · exact absurd xzz (no _ (by decide))
            · exact Or.inr (Or.inr ⟨rfl, xzz⟩)
            · exact absurd hczz xzz.2.2.2.2
        rcases s8 hTzz ea with ⟨q1zz, q2zz⟩ | ⟨q1zz, q2zz⟩
        · obtain ⟨zb, eb', kzz⟩ := z_bd (z_t kzz q1zz)
          rcases s8 hTzz eb' with ⟨r1zz, r2⟩ | ⟨r1zz, r2⟩
          · have ezz : op = 24 := by
              rcases hop' with ⟨xzz, -⟩ | ⟨xzz, -⟩ | ⟨-, xzz⟩
              · rw [xzz] at hczz; exact absurd hczz q2zz
              · rw [xzz] at hczz; exact absurd hczz r2
              · exact xzz
            exact hgo 9 op (Or.inr (Or.inr (Or.inr (Or.inr ⟨rfl, ezz⟩)))) (Or.inr (Or.inr ezz)) hczz.1 ⟨z3, hbs, hb71, N3, hy3⟩ (z_t kzz r1zz)
          · have ezz : op = 23 := by
              rcases hop' with ⟨xzz, -⟩ | ⟨-, xzz⟩ | ⟨xzz, -⟩
              · rw [xzz] at hczz; exact absurd hczz q2zz
              · exact xzz
              · rw [xzz] at hczz; exact absurd r2 (hczz.ne (by decide))
            exact hgo 8 op (Or.inr (Or.inr (Or.inr (Or.inl ⟨rfl, ezz⟩)))) (Or.inr (Or.inl ezz)) hczz.1 ⟨z3, hbs, hb71, N3, hy3⟩ (z_f kzz r1zz)
        · have ezz : op = 22 := by
            rcases hop' with ⟨-, xzz⟩ | ⟨xzz, -⟩ | ⟨xzz, -⟩
            · exact xzz
            · rw [xzz] at hczz; exact absurd q2zz (hczz.ne (by decide))
            · rw [xzz] at hczz; exact absurd q2zz (hczz.ne (by decide))
          exact hgo 7 op (Or.inr (Or.inr (Or.inl ⟨rfl, ezz⟩))) (Or.inl ezz) hczz.1 ⟨z3, hbs, hb71, N3, hy3⟩ (z_f kzz q1zz)
      rcases s8 hTzz e2zz with ⟨q1zz, q2zz⟩ | ⟨q1zz, q2zz⟩
      · obtain ⟨z9, e9zz, h1⟩ := z_bd (z_t h1 q1zz)
        rcases s8 hTzz e9zz with ⟨r1zz, r2⟩ | ⟨r1zz, r2⟩
        · obtain ⟨z10, e10zz, h1⟩ := z_bd (z_t h1 r1zz)
          rcases s8 hTzz e10zz with ⟨u1zz, u2zz⟩ | ⟨u1zz, u2zz⟩
          · exact hend ⟨q2zz, r2, u2zz⟩ (Option.some.inj (z_t h1 u1zz)).symm
          · exact h46 37 u2zz (Or.inr (Or.inr rfl)) (z_f h1 u1zz)
        · exact h46 47 r2 (Or.inr (Or.inl rfl)) (z_f h1 r1zz)
      · exact h46 42 q2zz (Or.inl rfl) (z_f h1 q1zz)
set_option maxHeartbeats 200000 in
theorem term_eq {rS : Ob → Ob → Int32 → Option (Int32 × Ob × Ob)} (hSzz : SumH rS) {od : Bool} {rd oc o yzz : Ob} {k1zz k2zz pzz bzz Nzz : Nat} {tst p0zz : Int32} {zzz : Int32 × Ob × Ob} (hzz : PSt od rd oc o k1zz k2zz pzz bzz) (h30 : gI o 30 = p0zz) (hp0 : 0 ≤ p0zz.toInt) (hp8 : p0zz.toInt ≤ 8) (hbase : bzz = 0 ∨ (bnd (gA o 27 (bzz - 1))).toInt < 6) (h1 : f_X6_readTerm rS 12 400 rd oc p0zz = some zzz) (hy : lp_X9_readExpression_20 Nzz (tst, 1, o) = some yzz) : SumOut 6 od rd oc o zzz yzz tst k1zz k2zz pzz bzz NoMul := by
  unfold f_X6_readTerm at h1
  obtain ⟨z1, ez1, h1⟩ := z_bd h1
  rcases part_eq hSzz hzz h30 hp0 hp8 ez1 hy with gzz | ⟨g1, N4zz, o4zz, n, k1', hy4, g4, -⟩
  · have ezz : zzz = z1 := by rw [← Option.some.inj (z_t h1 gzz.1), ← gzz.1]
    rw [ezz]; exact Or.inl gzz
  · exact term_lp hSzz h30 hp0 hp8 hzz.2.2.2.2.2.2.2.2.1 hbase zfu N4zz 0 _ _ o4zz n k1' g4 (by decide) (by have : (0 : Int32).toInt = 0 := (by decide); omega) (z_f h1 (by rw [g1]; decide)) hy4
set_option maxHeartbeats 200000 in
theorem sum_lp {rS : Ob → Ob → Int32 → Option (Int32 × Ob × Ob)} (hSzz : SumH rS) {od : Bool} {rd oc o yzz : Ob} {k1zz k2zz pzz bzz : Nat} {tst p0zz : Int32} {zzz : Int32 × Ob × Ob} (h30 : gI o 30 = p0zz) (hp0 : 0 ≤ p0zz.toInt) (hp8 : p0zz.toInt ≤ 8) (hbzz : bzz ≤ 400) (hbase : bzz = 0 ∨ (bnd (gA o 27 (bzz - 1))).toInt < 5) :
    ∀ (Nzz N2 : Nat) (v2 : Int32) (rd1 oc1 o1 : Ob) (n k1' : Nat), GoodT 5 od rd oc o rd1 oc1 o1 k1zz k2zz pzz bzz n k1' → NoMul o1 → 0 ≤ v2.toInt → v2.toInt ≤ (k1' : Int) → lp_X6_readSum_12 rS 12 400 Nzz (p0zz, v2, rd1, oc1) = some zzz → lp_X9_readExpression_20 N2 (tst, 3, o1) = some yzz → SumOut 5 od rd oc o zzz yzz tst k1zz k2zz pzz bzz NoOp := by
  intro Nzz
  induction Nzz with
  | zero => intro N2 v2 rd1 oc1 o1 n k1' _ _ _ _ hzz; cases hzz
  | succ Nzz ihzz =>
    intro N2 v2 rd1 oc1 o1 n k1' gzz hnm hv0 hv h1 hy
    obtain ⟨hTzz, h19, hpos, hk13, hk11⟩ := gzz.tt
    have h1 : lb_X6_readSum_12 rS 12 400 (lp_X6_readSum_12 rS 12 400 Nzz) p0zz v2 rd1 oc1 = some zzz := h1
    unfold lb_X6_readSum_12 at h1
    have hend : ¬ IsS o1 43 → ¬ IsS o1 45 → zzz = (1, rd1, oc1) → SumOut 5 od rd oc o zzz yzz tst k1zz k2zz pzz bzz NoOp := fun qzz q' ezz => by rw [ezz]; exact Or.inr ⟨rfl, N2, o1, n, k1', hy, gzz, qzz, q', hnm⟩
    by_cases c4zz : (400 : Int32) ≤ v2
    · have d4zz := cv_le (a := 400) (b := v2.toInt) (by decide) rfl c4zz
      refine hend (fun wzz => ?_) (fun wzz => ?_) (Option.some.inj (z_t h1 c4zz)).symm <;> (have := IsS.lt hTzz wzz; omega)
    · have h1 := z_f h1 c4zz
      obtain ⟨N3, z3, hbs, hy3⟩ := ex_sum h19 hy
      obtain ⟨op, hb71, hop⟩ := bs_norm hTzz hbs
      have hgo : ∀ s : Int32, opB s op → (op = 20 ∨ op = 21) → gI o1 16 = 3 → bk_X6_readSum_52 rS 12 400 (lp_X6_readSum_12 rS 12 400 Nzz) p0zz v2 s rd1 oc1 = some zzz → SumOut 5 od rd oc o zzz yzz tst k1zz k2zz pzz bzz NoOp := by
        intro s hso hop h16zz kzz
        have hbn : (bnd op).toInt = 5 := by rcases hop with ezz | ezz <;> rw [ezz] <;> decide
        have hopr : 20 ≤ op.toInt ∧ op.toInt ≤ 24 := by rcases hop with ezz | ezz <;> rw [ezz] <;> decide
        have hn1 : ¬ op = -1 := by rcases hop with ezz | ezz <;> rw [ezz] <;> decide
        obtain ⟨z20, z21, z22, e20, e21zz, e22zz, e3zz⟩ := bs_op hn1 hb71
        have hy3 := hy3
        rw [e3zz] at hy3
        unfold bk_X6_readSum_52 at kzz
        obtain ⟨z4, ez4, kzz⟩ := z_bd kzz
        obtain ⟨z5, ez5, kzz⟩ := z_bd kzz
        obtain ⟨k3zz, i1zz, i2zz, i3zz, i4zz, i5zz, i6zz, i7zz, i8zz, i9zz, i10zz⟩ := op_in gzz hbzz hopr ⟨by omega, by omega⟩ (by rw [hbn]; exact hbase) h16zz e20 e21zz e22zz ez4
        rcases term_eq hSzz i1zz (i6zz.trans h30) hp0 hp8 (Or.inr (by rw [Nat.add_sub_cancel, i5zz, hbn]; decide)) ez5 hy3 with gb | ⟨g1, N4zz, o4zz, n', k1'', hy4, g4, gmzz⟩
        · have ezz : zzz = z5 := by rw [← Option.some.inj (z_t kzz gb.1), ← gb.1]
          rw [ezz]; exact Or.inl (gb.tr i2zz i3zz)
        · have kzz := z_f kzz (by rw [g1]; decide)
          obtain ⟨z6, ez6, kzz⟩ := z_bd kzz
          obtain ⟨x7, e7zz, kzz⟩ := z_lt kzz
          have g5zz := op_out (L := 5) i9zz i2zz i3zz i4zz i5zz i6zz i7zz i8zz i10zz hk13 g4 (by omega) (by omega) hopr hso ez6 rfl
          have kk := g4.tt.2.2.2.2
          have h400 := hTzz.1.2.2.2
          obtain ⟨aT, bT, xT1, xT2, xT3, xT4, -⟩ := hTzz.2.2.2.2
          have t7 : x7.toInt = v2.toInt + 1 := by rw [e7zz]; exact i32_add rfl (by decide) (by omega) (by omega)
          exact ihzz N4zz x7 z5.2.1 z6.2 o4zz (n + n') (k1'' + 1) g5zz gmzz (by omega) (by omega) kzz hy4
      have h37 : ∀ czz : Int32, IsS o1 czz → czz = 43 ∨ czz = 45 → bk_X6_readSum_37 rS 12 400 (lp_X6_readSum_12 rS 12 400 Nzz) p0zz v2 rd1 oc1 = some zzz → SumOut 5 od rd oc o zzz yzz tst k1zz k2zz pzz bzz NoOp := by
        intro czz hczz hcc kzz
        have hop' : (czz = 43 ∧ op = 20) ∨ (czz = 45 ∧ op = 21) := by
          have no : ∀ d : Int32, ¬ czz = d → ¬ IsS o1 d := fun d hdzz => hczz.ne hdzz
          rcases hcc with ezz | ezz <;> subst ezz
          · rcases hop with ⟨-, xzz⟩ | ⟨xzz, -⟩ | ⟨xzz, -⟩ | ⟨xzz, -⟩ | ⟨xzz, -⟩ | ⟨xzz, -⟩
            · exact Or.inl ⟨rfl, xzz⟩
            · exact absurd xzz (no _ (by decide))
            · exact absurd xzz (no _ (by decide))
            · exact absurd xzz (no _ (by decide))
            · exact absurd xzz (no _ (by decide))
            · exact absurd hczz xzz.1
          · rcases hop with ⟨xzz, -⟩ | ⟨-, xzz⟩ | ⟨xzz, -⟩ | ⟨xzz, -⟩ | ⟨xzz, -⟩ | ⟨xzz, -⟩
            · exact absurd xzz (no _ (by decide))
            · exact Or.inr ⟨rfl, xzz⟩
            · exact absurd xzz (no _ (by decide))
            · exact absurd xzz (no _ (by decide))
            · exact absurd xzz (no _ (by decide))
            · exact absurd hczz xzz.2.1
        unfold bk_X6_readSum_37 at kzz
        obtain ⟨za, ea, kzz⟩ := z_bd kzz
        rcases s8 hTzz ea with ⟨q1zz, q2zz⟩ | ⟨q1zz, q2zz⟩
        · have ezz : op = 21 := by
            rcases hop' with ⟨xzz, -⟩ | ⟨-, xzz⟩
            · rw [xzz] at hczz; exact absurd hczz q2zz
            · exact xzz
          exact hgo 6 (Or.inr (Or.inl ⟨rfl, ezz⟩)) (Or.inr ezz) hczz.1 (z_t kzz q1zz)
        · have ezz : op = 20 := by
            rcases hop' with ⟨-, xzz⟩ | ⟨xzz, -⟩
            · exact xzz
            · rw [xzz] at hczz; exact absurd q2zz (hczz.ne (by decide))
          exact hgo 5 (Or.inl ⟨rfl, ezz⟩) (Or.inl ezz) hczz.1 (z_f kzz q1zz)
      obtain ⟨z2, e2zz, h1⟩ := z_bd h1
      rcases s8 hTzz e2zz with ⟨q1zz, q2zz⟩ | ⟨q1zz, q2zz⟩
      · obtain ⟨z8, e8, h1⟩ := z_bd (z_t h1 q1zz)
        rcases s8 hTzz e8 with ⟨r1zz, r2⟩ | ⟨r1zz, r2⟩
        · exact hend q2zz r2 (Option.some.inj (z_t h1 r1zz)).symm
        · exact h37 45 r2 (Or.inr rfl) (z_f h1 r1zz)
      · exact h37 43 q2zz (Or.inl rfl) (z_f h1 q1zz)
set_option maxHeartbeats 200000 in
theorem sum_eq {rS : Ob → Ob → Int32 → Option (Int32 × Ob × Ob)} (hSzz : SumH rS) : SumH (fun rd oc p0zz => f_X6_readSum rS 12 400 rd oc p0zz) := by
  intro od rd oc o yzz k1zz k2zz pzz bzz Nzz tst p0zz zzz hzz h30 hp0 hp8 hbase h1 hy
  have h1 : f_X6_readSum rS 12 400 rd oc p0zz = some zzz := h1
  unfold f_X6_readSum at h1
  obtain ⟨z1, ez1, h1⟩ := z_bd h1
  rcases term_eq hSzz hzz h30 hp0 hp8 (by rcases hbase with qzz | qzz; exact Or.inl qzz; exact Or.inr (by omega)) ez1 hy with gzz | ⟨g1, N4zz, o4zz, n, k1', hy4, g4, gmzz⟩
  · have ezz : zzz = z1 := by rw [← Option.some.inj (z_t h1 gzz.1), ← gzz.1]
    rw [ezz]; exact Or.inl gzz
  · exact sum_lp hSzz h30 hp0 hp8 hzz.2.2.2.2.2.2.2.2.1 hbase zfu N4zz 0 _ _ o4zz n k1' (g4.le (by decide)) gmzz (by decide) (by have : (0 : Int32).toInt = 0 := (by decide); omega) (z_f h1 (by rw [g1]; decide)) hy4
set_option maxHeartbeats 200000 in
theorem sums_all : ∀ d : Nat, SumH (fx_X6_readSum 12 400 d) := by
  intro d
  induction d with
  | zero => intro od rd oc o yzz k1zz k2zz pzz bzz Nzz tst p0zz zzz _ _ _ _ _ hzz; cases hzz
  | succ d ihzz =>
    have hzz := sum_eq ihzz
    exact hzz
