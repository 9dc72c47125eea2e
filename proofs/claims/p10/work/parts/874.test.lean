-- a comparison of two sums, in lockstep
set_option maxHeartbeats 200000 in
theorem bnd_ge {xzz : Int32} (hzz : 28 ≤ xzz.toInt) : (bnd xzz).toInt < 4 := by
  unfold bnd
  by_cases c1zz : xzz < (31 : Int32)
  · have d1zz := cv_lt (a := xzz.toInt) (b := 31) rfl (by decide) c1zz
    rw [if_pos c1zz]
    by_cases c2zz : xzz = (30 : Int32)
    · rw [if_pos c2zz]; decide
    · rw [if_neg c2zz]
      by_cases c3zz : xzz = (29 : Int32)
      · rw [if_pos c3zz]; decide
      · rw [if_neg c3zz]
        by_cases c4zz : xzz = (28 : Int32)
        · rw [if_pos c4zz]; decide
        · have n2zz : ¬ xzz.toInt = 30 := fun ezz => c2zz (Int32.toInt_inj.mp (ezz.trans (by decide)))
          have n3zz : ¬ xzz.toInt = 29 := fun ezz => c3zz (Int32.toInt_inj.mp (ezz.trans (by decide)))
          have n4zz : ¬ xzz.toInt = 28 := fun ezz => c4zz (Int32.toInt_inj.mp (ezz.trans (by decide)))
          omega
  · rw [if_neg c1zz]; decide
set_option maxHeartbeats 200000 in
theorem bs_none {o : Ob} {Bzz : Nat} {tst : Int32} {zzz : Int32 × Ob} (hI : InT o Bzz) (eB : (gI o 29).toInt = (Bzz : Int)) (hBzz : Bzz ≤ 400) (ht : ¬ tst = 0) (hzz : bk_X9_behindSum_71 tst (-1) o = some zzz) : bk_X9_behindSum_163 o = some zzz := by
  unfold bk_X9_behindSum_71 at hzz
  obtain ⟨z6, e6zz, hzz⟩ := z_bd (z_t hzz rfl)
  rcases hI.inner eB hBzz e6zz with qzz | qzz
  · have hzz := z_f hzz (by rw [qzz]; decide)
    exact z_f (z_t hzz qzz) ht
  · have hzz := z_f hzz (by rw [qzz]; decide)
    exact z_f hzz (by rw [qzz]; decide)
set_option maxHeartbeats 200000 in
theorem bs_224 {o : Ob} {op : Int32} {zzz : Int32 × Ob} (h19 : gI o 19 = 0) (hk : ∀ z10, f_X9_next o = some z10 → gI z10 19 = 0) (hzz : bk_X9_behindSum_224 op 1 o = some zzz) : ∃ z10 z11 z12 : Ob, f_X9_next o = some z10 ∧ f_X9_settle z10 5 = some z11 ∧ f_X9_push z11 op 0 = some z12 ∧ zzz = (1, z12) := by
  unfold bk_X9_behindSum_224 at hzz
  obtain ⟨z10, e10zz, hzz⟩ := z_bd hzz
  have e10zz := mu_ok h19 (by decide) e10zz
  have hzz := z_t hzz (hk z10 e10zz)
  obtain ⟨z11, e11zz, hzz⟩ := z_bd hzz
  obtain ⟨z12, e12zz, hzz⟩ := z_bd hzz
  exact ⟨z10, z11, z12, e10zz, e11zz, e12zz, (Option.some.inj hzz).symm⟩
set_option maxHeartbeats 200000 in
theorem bs_cmp {rd o : Ob} {op : Int32} {zzz : Int32 × Ob} (hTzz : TT rd o) (h19 : gI o 19 = 0) (hk : ∀ z10, f_X9_next o = some z10 → gI z10 19 = 0) (hczz : ∀ z7, f_X9_isCompared o = some z7 → z7 = 0) (hs : (IsS o 60 ∧ op = 25) ∨ (IsS o 62 ∧ op = 26) ∨ (IsS o 61 ∧ op = 27)) (hzz : bk_X9_behindSum_163 o = some zzz) : ∃ z10 z11 z12 : Ob, f_X9_next o = some z10 ∧ f_X9_settle z10 5 = some z11 ∧ f_X9_push z11 op 0 = some z12 ∧ zzz = (1, z12) := by
  unfold bk_X9_behindSum_163 at hzz
  obtain ⟨z7, e7zz, hzz⟩ := z_bd hzz
  obtain ⟨z8, e8, hzz⟩ := z_bd (z_t hzz (hczz z7 e7zz))
  rcases s9 hTzz e8 with ⟨a1zz, a2⟩ | ⟨a1zz, a2⟩
  · obtain ⟨z9, e9zz, hzz⟩ := z_bd (z_t hzz a1zz)
    rcases s9 hTzz e9zz with ⟨b1, b2⟩ | ⟨b1, b2⟩
    · have hzz := z_t hzz b1
      have ezz : IsS o 61 ∧ op = 27 := by
        rcases hs with ⟨xzz, -⟩ | ⟨xzz, -⟩ | xzz
        · exact absurd xzz a2
        · exact absurd xzz b2
        · exact xzz
      unfold bk_X9_behindSum_202 at hzz
      obtain ⟨z13zz, e13zz, hzz⟩ := z_bd (z_t hzz rfl)
      rcases s9 hTzz e13zz with ⟨c1zz, c2zz⟩ | ⟨c1zz, -⟩
      · exact absurd ezz.1 c2zz
      · have hzz := z_f hzz c1zz
        unfold bk_X9_behindSum_219 at hzz
        rw [ezz.2]; exact bs_224 h19 hk hzz
    · have hzz := z_f hzz b1
      have ezz : op = 26 := by
        rcases hs with ⟨xzz, -⟩ | ⟨-, xzz⟩ | ⟨xzz, -⟩
        · exact absurd xzz a2
        · exact xzz
        · exact absurd b2 (xzz.ne (by decide))
      unfold bk_X9_behindSum_202 at hzz
      have hzz := z_f hzz (by decide)
      unfold bk_X9_behindSum_219 at hzz
      rw [ezz]; exact bs_224 h19 hk hzz
  · have hzz := z_f hzz a1zz
    have ezz : op = 25 := by
      rcases hs with ⟨-, xzz⟩ | ⟨xzz, -⟩ | ⟨xzz, -⟩
      · exact xzz
      · exact absurd a2 (xzz.ne (by decide))
      · exact absurd a2 (xzz.ne (by decide))
    unfold bk_X9_behindSum_202 at hzz
    have hzz := z_f hzz (by decide)
    unfold bk_X9_behindSum_219 at hzz
    rw [ezz]; exact bs_224 h19 hk hzz
set_option maxHeartbeats 200000 in
theorem bs_nocmp {rd o : Ob} {zzz : Int32 × Ob} (hTzz : TT rd o) (h19 : gI o 19 = 0) (hczz : ∀ z7, f_X9_isCompared o = some z7 → z7 = 0) (n1zz : ¬ IsS o 60) (n2zz : ¬ IsS o 62) (n3zz : ¬ IsS o 61) (hzz : bk_X9_behindSum_163 o = some zzz) : zzz = (1, sI (sI o 19 1) 18 (gI o 14)) := by
  unfold bk_X9_behindSum_163 at hzz
  obtain ⟨z7, e7zz, hzz⟩ := z_bd hzz
  obtain ⟨z8, e8, hzz⟩ := z_bd (z_t hzz (hczz z7 e7zz))
  rcases s9 hTzz e8 with ⟨a1zz, -⟩ | ⟨-, a2⟩
  · obtain ⟨z9, e9zz, hzz⟩ := z_bd (z_t hzz a1zz)
    rcases s9 hTzz e9zz with ⟨b1, -⟩ | ⟨-, b2⟩
    · have hzz := z_t hzz b1
      unfold bk_X9_behindSum_202 at hzz
      obtain ⟨z13zz, e13zz, hzz⟩ := z_bd (z_t hzz rfl)
      rcases s9 hTzz e13zz with ⟨c1zz, -⟩ | ⟨-, c2zz⟩
      · have hzz := z_t hzz c1zz
        unfold bk_X9_behindSum_224 at hzz
        obtain ⟨z10, e10zz, hzz⟩ := z_bd hzz
        have ezz := mu_no h19 e10zz
        have k19 : gI z10 19 = 1 := by rw [ezz]; rfl
        have hzz := z_f hzz (by rw [k19]; decide)
        rw [← Option.some.inj hzz, ezz]
      · exact absurd c2zz n3zz
    · exact absurd b2 n2zz
  · exact absurd a2 n1zz
set_option maxHeartbeats 200000 in
theorem NoOp.op {o : Ob} {op : Int32} (gno : NoOp o) (hop : (IsS o 43 ∧ op = 20) ∨ (IsS o 45 ∧ op = 21) ∨ (IsS o 42 ∧ op = 22) ∨ (IsS o 47 ∧ op = 23) ∨ (IsS o 37 ∧ op = 24) ∨ (NoOp o ∧ op = -1)) : op = -1 := by
  rcases hop with ⟨xzz, -⟩ | ⟨xzz, -⟩ | ⟨xzz, -⟩ | ⟨xzz, -⟩ | ⟨xzz, -⟩ | ⟨-, xzz⟩
  · exact absurd xzz gno.1
  · exact absurd xzz gno.2.1
  · exact absurd xzz gno.2.2.1
  · exact absurd xzz gno.2.2.2.1
  · exact absurd xzz gno.2.2.2.2
  · exact xzz
set_option maxHeartbeats 200000 in
/-- what reading a plain test comes to, up to the class's nots -/
def PlOut (rT : Ob → Ob → Int32 → Option (Int32 × Ob × Ob)) (od : Bool) (rd oc o : Ob) (zzz : Int32 × Ob × Ob) (yzz : Ob) (tst v2 : Int32) (k1zz k2zz pzz bzz : Nat) : Prop := Bad rd oc o zzz yzz ∨ ∃ (rd3 oc3 o3zz : Ob) (n k1' N' : Nat), bk_X6_readPlain_185 rT 12 400 v2 rd3 oc3 = some zzz ∧ lp_X9_readExpression_20 N' (tst, 2, o3zz) = some yzz ∧ GoodC 3 od rd oc o rd3 oc3 o3zz k1zz k2zz pzz bzz n k1'
set_option maxHeartbeats 200000 in
theorem cmp_eq {rT : Ob → Ob → Int32 → Option (Int32 × Ob × Ob)} {od : Bool} {rd oc o yzz : Ob} {k1zz k2zz pzz bzz Nzz : Nat} {tst p0zz v2 s0zz czz op : Int32} {rd1 oc1 o1 : Ob} {zzz : Int32 × Ob × Ob} {n k1' : Nat} (h30 : gI o 30 = p0zz) (hp0 : 0 ≤ p0zz.toInt) (hp8 : p0zz.toInt ≤ 8) (hbzz : bzz ≤ 400) (hbase : bzz = 0 ∨ 28 ≤ (gA o 27 (bzz - 1)).toInt) (hI : InT o bzz) (ht : ¬ tst = 0)
    (gzz : GoodT 5 od rd oc o rd1 oc1 o1 k1zz k2zz pzz bzz n k1') (h163 : ∃ z3 : Int32 × Ob, bk_X9_behindSum_163 o1 = some z3 ∧ lp_X9_readExpression_20 Nzz (tst, z3.1, z3.2) = some yzz) (hcp : ∀ z7, f_X9_isCompared o1 = some z7 → z7 = 0) (hsc : IsS o1 czz) (hs : (czz = 60 ∧ s0zz = 10 ∧ op = 25) ∨ (czz = 62 ∧ s0zz = 11 ∧ op = 26) ∨ (czz = 61 ∧ s0zz = 12 ∧ op = 27)) (kzz : bk_X6_readPlain_150 rT 12 400 p0zz v2 s0zz rd1 oc1 = some zzz) : PlOut rT od rd oc o zzz yzz tst v2 k1zz k2zz pzz bzz := by
  obtain ⟨z3, h163, hy⟩ := h163
  obtain ⟨hTzz, h19, hpos, hk13, hk11⟩ := gzz.tt
  have hb5 : bzz = 0 ∨ (bnd (gA o 27 (bzz - 1))).toInt < 5 := by
    rcases hbase with qzz | qzz
    · exact Or.inl qzz
    · have := bnd_ge qzz; exact Or.inr (by omega)
  have hCO : opC s0zz op := by
    rcases hs with ⟨-, e1zz, e2zz⟩ | ⟨-, e1zz, e2zz⟩ | ⟨-, e1zz, e2zz⟩
    · exact Or.inl ⟨e1zz, e2zz⟩
    · exact Or.inr (Or.inl ⟨e1zz, e2zz⟩)
    · exact Or.inr (Or.inr ⟨e1zz, e2zz⟩)
  have hopr : (25 ≤ op.toInt ∧ op.toInt ≤ 27) ∧ (bnd op).toInt = 4 ∧ ¬ s0zz = -1 := by
    rcases hs with ⟨-, e1zz, e2zz⟩ | ⟨-, e1zz, e2zz⟩ | ⟨-, e1zz, e2zz⟩ <;> rw [e1zz, e2zz] <;> decide
  have hs' : (IsS o1 60 ∧ op = 25) ∨ (IsS o1 62 ∧ op = 26) ∨ (IsS o1 61 ∧ op = 27) := by
    rcases hs with ⟨ezz, -, e2zz⟩ | ⟨ezz, -, e2zz⟩ | ⟨ezz, -, e2zz⟩ <;> rw [ezz] at hsc
    · exact Or.inl ⟨hsc, e2zz⟩
    · exact Or.inr (Or.inl ⟨hsc, e2zz⟩)
    · exact Or.inr (Or.inr ⟨hsc, e2zz⟩)
  unfold bk_X6_readPlain_150 at kzz
  obtain ⟨z6, es, kzz⟩ := z_bd (z_f kzz hopr.2.2)
  obtain ⟨z7, ez7, kzz⟩ := z_bd kzz
  obtain ⟨azz, bb, ea, ebb, hab, hbb, -⟩ := hTzz.2.2.2.2
  have hk : ∀ z10, f_X9_next o1 = some z10 → gI z10 19 = 0 := fun z10 e10zz => ((tk_eq hTzz.1 hTzz.2.2.2.1 (by omega) (by omega) es e10zz).2.2.1.1 19 (by decide) (by decide) (by decide)).trans h19
  obtain ⟨z10, z11, z12, e10zz, e11zz, e12zz, ez3⟩ := bs_cmp hTzz h19 hk hcp hs' h163
  rw [ez3] at hy
  obtain ⟨k3zz, i1zz, i2zz, i3zz, i4zz, i5zz, i6zz, i7zz, i8zz, i9zz, i10zz⟩ := cmp_in gzz hbzz hb5 hsc.1 e10zz e11zz e12zz es
  rcases sums_all 10 od z6 oc1 z12 yzz k1' k3zz (pzz + 1) (bzz + 1) Nzz tst p0zz z7 i1zz (i6zz.trans h30) hp0 hp8 (Or.inr (by rw [Nat.add_sub_cancel, i5zz, hopr.2.1]; decide)) ez7 hy with gb | ⟨g1, N4zz, o4zz, n', k1'', hy4, g4, gno⟩
  · have ezz : zzz = z7 := by rw [← Option.some.inj (z_t kzz gb.1), ← gb.1]
    rw [ezz]; exact Or.inl (gb.tr i2zz i3zz)
  · have kzz := z_f kzz (by rw [g1]; decide)
    obtain ⟨z8, e8, kzz⟩ := z_bd kzz
    have gC := cmp_out (L := 3) i9zz i2zz i3zz i4zz i5zz i6zz i7zz i8zz i10zz hk13 g4 (by decide) (by rw [hopr.2.1]; decide) hopr.1 hCO e8 rfl
    have q4zz := g4.tt
    obtain ⟨N5, z5, hbs, hy5⟩ := ex_sum q4zz.2.1 hy4
    obtain ⟨op', hb71, hop'⟩ := bs_norm q4zz.1 hbs
    rw [gno.op hop'] at hb71
    obtain ⟨k2', b', w0zz, w1zz, w2zz, w3zz, w4zz, w5, w6zz, -⟩ := g4
    have eB := w1zz.2.2.2.2.2.2.2.1
    have hBzz := w1zz.2.2.2.2.2.2.2.2.1
    have e27zz : gA o4zz 27 bzz = op := (w5 bzz (by omega)).1.trans i5zz
    have hI4 : InT o4zz b' := hI.ext (by omega) (fun jzz hj => (w5 jzz (by omega)).1.trans (i4zz jzz hj).1) (fun jzz x1zz x2zz => by
      rcases (show jzz = bzz ∨ bzz + 1 ≤ jzz by omega) with qzz | qzz
      · rw [qzz, e27zz]; omega
      · have := w6zz jzz qzz x2zz; omega)
    have h163 := bs_none hI4 eB hBzz ht hb71
    unfold bk_X9_behindSum_163 at h163
    obtain ⟨z7', e7', h163⟩ := z_bd h163
    have ic := (ic_of (bzz := bzz + 1) eB w2zz hBzz w6zz (Or.inr (by rw [Nat.add_sub_cancel, e27zz]; exact hopr.1.1)) e7').2 (by omega) (by rw [Nat.add_sub_cancel, e27zz]; exact hopr.1.2)
    have ez5 := Option.some.inj (z_f h163 ic)
    rw [← ez5] at hy5
    exact Or.inr ⟨z7.2.1, z8.2, o4zz, n + n', k1'' + 1, N5, kzz, hy5, gC⟩
/-- a plain test that begins with no bracket -/
theorem sums_eq {rT : Ob → Ob → Int32 → Option (Int32 × Ob × Ob)} {od : Bool} {rd oc o yzz : Ob} {k1zz k2zz pzz bzz Nzz : Nat} {tst p0zz v2 : Int32} {zzz z2 : Int32 × Ob × Ob} (hzz : PSt od rd oc o k1zz k2zz pzz bzz) (h30 : gI o 30 = p0zz) (hp0 : 0 ≤ p0zz.toInt) (hp8 : p0zz.toInt ≤ 8) (hbase : bzz = 0 ∨ 28 ≤ (gA o 27 (bzz - 1)).toInt) (hI : InT o bzz) (ht : ¬ tst = 0) (hy : lp_X9_readExpression_20 Nzz (tst, 1, o) = some yzz) (ez2 : fx_X6_readSum 12 400 10 rd oc p0zz = some z2)
    (h1 : (if z2.1 = (0 : Int32) then (some ((0 : Int32), z2.2.1, z2.2.2)) else ((f_X6_isSign z2.2.1 (60 : Int32)).bind fun z3 => if z3 = (0 : Int32) then ((f_X6_isSign z2.2.1 (62 : Int32)).bind fun z4 => if z4 = (0 : Int32) then ((f_X6_isSign z2.2.1 (61 : Int32)).bind fun z5 => if z5 = (0 : Int32) then (bk_X6_readPlain_150 rT 12 400 p0zz v2 (-1 : Int32) z2.2.1 z2.2.2) else (bk_X6_readPlain_150 rT 12 400 p0zz v2 (12 : Int32) z2.2.1 z2.2.2)) else (bk_X6_readPlain_150 rT 12 400 p0zz v2 (11 : Int32) z2.2.1 z2.2.2)) else (bk_X6_readPlain_150 rT 12 400 p0zz v2 (10 : Int32) z2.2.1 z2.2.2))) = some zzz) : PlOut rT od rd oc o zzz yzz tst v2 k1zz k2zz pzz bzz := by
  have hb5 : bzz = 0 ∨ (bnd (gA o 27 (bzz - 1))).toInt < 5 := by
    rcases hbase with qzz | qzz
    · exact Or.inl qzz
    · have := bnd_ge qzz; exact Or.inr (by omega)
  have hbzz := hzz.2.2.2.2.2.2.2.2.1
  rcases sums_all 10 od rd oc o yzz k1zz k2zz pzz bzz Nzz tst p0zz z2 hzz h30 hp0 hp8 hb5 ez2 hy with gb | ⟨g1, N4zz, o1, n, k1', hy4, gzz, gno⟩
  · have ezz : zzz = z2 := by rw [← Option.some.inj (z_t h1 gb.1), ← gb.1]
    rw [ezz]; exact Or.inl gb
  · have h1 := z_f h1 (by rw [g1]; decide)
    have gt := gzz.tt
    obtain ⟨N5, z5, hbs, hy5⟩ := ex_sum gt.2.1 hy4
    obtain ⟨op', hb71, hop'⟩ := bs_norm gt.1 hbs
    rw [gno.op hop'] at hb71
    have gg := gzz
    obtain ⟨k2', b', w0zz, w1zz, w2zz, w3zz, w4zz, w5, w6zz, -⟩ := gg
    have eB := w1zz.2.2.2.2.2.2.2.1
    have hBzz := w1zz.2.2.2.2.2.2.2.2.1
    have hI4 : InT o1 b' := hI.ext w2zz (fun jzz hj => (w5 jzz hj).1) (fun jzz x1zz x2zz => by have := w6zz jzz x1zz x2zz; omega)
    have h163 := bs_none hI4 eB hBzz ht hb71
    have hbase1 : bzz = 0 ∨ 28 ≤ (gA o1 27 (bzz - 1)).toInt := by
      rcases (show bzz = 0 ∨ 0 < bzz by omega) with uzz | uzz
      · exact Or.inl uzz
      · rcases hbase with qzz | qzz
        · exact Or.inl qzz
        · exact Or.inr (by rw [(w5 (bzz - 1) (by omega)).1]; exact qzz)
    have hcp : ∀ z7, f_X9_isCompared o1 = some z7 → z7 = 0 := fun z7 e7zz => (ic_of eB w2zz hBzz w6zz (by rcases hbase1 with qzz | qzz; exact Or.inl qzz; exact Or.inr (by omega)) e7zz).1 hbase1
    obtain ⟨z3, e3zz, h1⟩ := z_bd h1
    rcases s8 gt.1 e3zz with ⟨a1zz, a2⟩ | ⟨a1zz, a2⟩
    · obtain ⟨z4, e4zz, h1⟩ := z_bd (z_t h1 a1zz)
      rcases s8 gt.1 e4zz with ⟨b1, b2⟩ | ⟨b1, b2⟩
      · obtain ⟨z6, e6zz, h1⟩ := z_bd (z_t h1 b1)
        rcases s8 gt.1 e6zz with ⟨c1zz, c2zz⟩ | ⟨c1zz, c2zz⟩
        · have h1 := z_t h1 c1zz
          unfold bk_X6_readPlain_150 at h1
          obtain ⟨z9, e9zz, h1⟩ := z_bd (z_t h1 rfl)
          obtain ⟨-, h1⟩ := z_gd h1
          obtain ⟨x1zz, x2zz⟩ := stop8 e9zz
          rw [bs_nocmp gt.1 gt.2.1 hcp a2 b2 c2zz h163] at hy5
          rw [← Option.some.inj h1, x1zz, x2zz]
          exact Or.inl ((bad_no (oc := z2.2.2) gt.1 rfl hy5 CF.stop).tr w3zz w4zz)
        · exact cmp_eq h30 hp0 hp8 hbzz hbase hI ht gzz ⟨z5, h163, hy5⟩ hcp c2zz (Or.inr (Or.inr ⟨rfl, rfl, rfl⟩)) (z_f h1 c1zz)
      · exact cmp_eq h30 hp0 hp8 hbzz hbase hI ht gzz ⟨z5, h163, hy5⟩ hcp b2 (Or.inr (Or.inl ⟨rfl, rfl, rfl⟩)) (z_f h1 b1)
    · exact cmp_eq h30 hp0 hp8 hbzz hbase hI ht gzz ⟨z5, h163, hy5⟩ hcp a2 (Or.inl ⟨rfl, rfl, rfl⟩) (z_f h1 a1zz)
