-- signs
def IsS (o : Ob) (czz : Int32) : Prop := gI o 16 = 3 ∧ ∃ azz : Nat, (gI o 14).toInt = (azz : Int) ∧ gA o 12 azz = czz
set_option maxHeartbeats 200000 in
theorem s8 {rd o : Ob} {czz zzz : Int32} (hzz : TT rd o) (hz : f_X6_isSign rd czz = some zzz) : (zzz = 0 ∧ ¬ IsS o czz) ∨ (¬ zzz = 0 ∧ IsS o czz) := by
  obtain ⟨hz0, e6zz, e7zz, e8, azz, bzz, ea, eb, hab, hbzz, hx⟩ := hzz
  unfold f_X6_isSign at hz
  rw [e6zz, e7zz] at hz
  by_cases gzz : gI o 16 = 3
  · obtain ⟨z1, ez1, hz⟩ := z_bd (z_t hz gzz)
    have hlt : (azz : Int) < (gI o 13).toInt := by
      rcases hx with ⟨qzz, -⟩ | ⟨qzz, -⟩ | ⟨qzz, -⟩ | ⟨-, qzz, -⟩
      · exact absurd (qzz.symm.trans gzz) (by decide)
      · exact absurd (qzz.symm.trans gzz) (by decide)
      · exact absurd (qzz.symm.trans gzz) (by decide)
      · omega
    rw [byteT hz0 ea hlt ez1] at hz
    by_cases kzz : gA o 12 azz = czz
    · exact Or.inr ⟨by rw [← Option.some.inj (z_t hz kzz)]; decide, gzz, azz, ea, kzz⟩
    · refine Or.inl ⟨(Option.some.inj (z_f hz kzz)).symm, fun wzz => ?_⟩
      obtain ⟨-, a', ea', k'⟩ := wzz
      have ezz : a' = azz := by omega
      rw [ezz] at k'; exact kzz k'
  · exact Or.inl ⟨(Option.some.inj (z_f hz gzz)).symm, fun wzz => gzz wzz.1⟩
set_option maxHeartbeats 200000 in
theorem s9 {rd o : Ob} {czz zzz : Int32} (hzz : TT rd o) (hz : f_X9_isSign o czz = some zzz) : (zzz = 0 ∧ ¬ IsS o czz) ∨ (¬ zzz = 0 ∧ IsS o czz) := by
  obtain ⟨hz0, e6zz, e7zz, e8, azz, bzz, ea, eb, hab, hbzz, hx⟩ := hzz
  unfold f_X9_isSign at hz
  by_cases gzz : gI o 16 = 3
  · have hz := z_t hz gzz
    have hw : gL o 17 = (gA o 12 azz).toInt64 := by
      rcases hx with ⟨qzz, -⟩ | ⟨qzz, -⟩ | ⟨qzz, -⟩ | ⟨-, -, qzz⟩
      · exact absurd (qzz.symm.trans gzz) (by decide)
      · exact absurd (qzz.symm.trans gzz) (by decide)
      · exact absurd (qzz.symm.trans gzz) (by decide)
      · exact qzz
    have t1zz : (gL o 17).toInt = (gA o 12 azz).toInt := by rw [hw]; exact Int32.toInt_toInt64 _
    by_cases kzz : lg_cmp (gL o 17) czz.toInt64 = 0
    · have ezz := cvl_eq (a := (gA o 12 azz).toInt) (b := czz.toInt) t1zz (Int32.toInt_toInt64 _) kzz
      exact Or.inr ⟨by rw [← Option.some.inj (z_t hz kzz)]; decide, gzz, azz, ea, Int32.toInt_inj.mp ezz⟩
    · have ezz := cvl_ne (a := (gA o 12 azz).toInt) (b := czz.toInt) t1zz (Int32.toInt_toInt64 _) kzz
      refine Or.inl ⟨(Option.some.inj (z_f hz kzz)).symm, fun wzz => ?_⟩
      obtain ⟨-, a', ea', k'⟩ := wzz
      have e' : a' = azz := by omega
      rw [e'] at k'; exact ezz (by rw [k'])
  · exact Or.inl ⟨(Option.some.inj (z_f hz gzz)).symm, fun wzz => gzz wzz.1⟩
set_option maxHeartbeats 200000 in
theorem IsS.ne {o : Ob} {czz c' : Int32} (hzz : IsS o czz) (hn : ¬ czz = c') : ¬ IsS o c' := by
  intro wzz
  obtain ⟨-, azz, ea, ezz⟩ := hzz
  obtain ⟨-, a', ea', e'⟩ := wzz
  have qzz : a' = azz := by omega
  rw [qzz] at e'
  exact hn (ezz.symm.trans e')
set_option maxHeartbeats 200000 in
theorem IsS.nw {o : Ob} {czz : Int32} {R : List Int} (hzz : IsS o czz) : ¬ IsW o R := fun wzz => absurd (hzz.1.symm.trans wzz.1) (by decide)
-- must
set_option maxHeartbeats 200000 in
theorem mu_ok {o o' : Ob} {vzz : Int32} (h19 : gI o 19 = 0) (hv : ¬ vzz = 0) (hzz : f_X9_must o vzz = some o') : f_X9_next o = some o' := by
  unfold f_X9_must at hzz
  have hzz := z_f (z_t hzz h19) hv
  unfold bk_X9_must_24 at hzz
  obtain ⟨z1, ez, hzz⟩ := z_bd (z_t hzz h19)
  rw [← Option.some.inj hzz]; exact ez
set_option maxHeartbeats 200000 in
theorem mu_no {o o' : Ob} (h19 : gI o 19 = 0) (hzz : f_X9_must o 0 = some o') : o' = sI (sI o 19 1) 18 (gI o 14) := by
  unfold f_X9_must at hzz
  obtain ⟨o2, e2zz, hzz⟩ := z_lt (z_t (z_t hzz h19) rfl)
  obtain ⟨o3zz, e3zz, hzz⟩ := z_lt hzz
  unfold bk_X9_must_24 at hzz
  have k19 : gI o3zz 19 = 1 := by rw [e3zz, e2zz]; rfl
  have hzz := z_f hzz (by rw [k19]; decide)
  rw [← Option.some.inj hzz, e3zz, e2zz]; rfl
-- settling leaves fault and bad
set_option maxHeartbeats 200000 in
theorem emit_FP {o o' : Ob} {p0zz p1zz : Int32} (hzz : f_X9_emit o p0zz p1zz = some o') : FP o o' := by
  unfold f_X9_emit at hzz
  obtain ⟨-, hzz⟩ := z_gd hzz
  obtain ⟨o2, e2zz, hzz⟩ := z_lt hzz
  obtain ⟨-, hzz⟩ := z_gd hzz
  obtain ⟨o4zz, e4zz, hzz⟩ := z_lt hzz
  obtain ⟨o5zz, e5zz, hzz⟩ := z_lt hzz
  rw [← Option.some.inj hzz]
  refine ⟨fun izz azz bzz => ?_, by rw [e5zz, e4zz, e2zz]; rfl, fun izz azz bzz => ?_, by rw [e5zz, e4zz, e2zz]; rfl⟩
  · rw [e5zz]; exact (fset_ne azz).trans (by rw [e4zz, e2zz]; rfl)
  · have w0zz : gA o5zz izz = gA o4zz izz := by rw [e5zz]; rfl
    have w1zz : gA o4zz izz = gA o2 izz := by rw [e4zz]; exact fset_ne (f := fun izz => gA o2 izz) bzz
    have w2zz : gA o2 izz = gA o izz := by rw [e2zz]; exact fset_ne (f := fun izz => gA o izz) azz
    exact w0zz.trans (w1zz.trans w2zz)
set_option maxHeartbeats 200000 in
theorem st_FP {yzz : Ob} {lv : Int32} : ∀ (Nzz : Nat) (o : Ob), lp_X9_settle_0 Nzz (lv, o) = some yzz → FP o yzz := by
  intro Nzz
  induction Nzz with
  | zero => intro o hzz; cases hzz
  | succ Nzz ihzz =>
    intro o hzz
    have hzz : lb_X9_settle_0 (lp_X9_settle_0 Nzz) lv o = some yzz := hzz
    unfold lb_X9_settle_0 at hzz
    by_cases czz : gI o 29 ≤ (0 : Int32)
    · rw [← Option.some.inj (z_t hzz czz)]; exact FP.rf
    · obtain ⟨-, hzz⟩ := z_gd (z_f hzz czz)
      obtain ⟨z2, -, hzz⟩ := z_bd hzz
      by_cases c2zz : z2 < lv
      · rw [← Option.some.inj (z_t hzz c2zz)]; exact FP.rf
      · obtain ⟨o3zz, e3zz, hzz⟩ := z_lt (z_f hzz c2zz)
        have f3zz : FP o o3zz := by rw [e3zz]; exact ⟨fun izz azz bzz => fset_ne bzz, rfl, fun _ _ _ => rfl, rfl⟩
        have h63 : bk_X9_settle_63 (lp_X9_settle_0 Nzz) lv o3zz = some yzz → FP o yzz := by
          intro hzz
          unfold bk_X9_settle_63 at hzz
          obtain ⟨-, hzz⟩ := z_gd hzz
          obtain ⟨-, hzz⟩ := z_gd hzz
          obtain ⟨o7, e7zz, hzz⟩ := z_lt hzz
          have f7zz : FP o3zz o7 := by rw [e7zz]; exact ⟨fun _ _ _ => rfl, rfl, fun izz _ bzz => fset_ne (f := fun izz => gA o3zz izz) bzz, rfl⟩
          exact f3zz.tr (f7zz.tr (ihzz o7 hzz))
        obtain ⟨-, hzz⟩ := z_gd hzz
        by_cases c3zz : gA o3zz 27 (gI o3zz 29).toNatClampNeg = 29
        · exact h63 (z_t hzz c3zz)
        · obtain ⟨-, hzz⟩ := z_gd (z_f hzz c3zz)
          by_cases c4zz : gA o3zz 27 (gI o3zz 29).toNatClampNeg = 30
          · exact h63 (z_t hzz c4zz)
          · obtain ⟨-, hzz⟩ := z_gd (z_f hzz c4zz)
            obtain ⟨z10, ez, hzz⟩ := z_bd hzz
            exact f3zz.tr ((emit_FP ez).tr (ihzz z10 hzz))
-- the reference's loop over an expression
set_option maxHeartbeats 200000 in
theorem ex_bad {Nzz : Nat} {v1zz v2 : Int32} {o yzz : Ob} (h19 : ¬ gI o 19 = 0) (hzz : lp_X9_readExpression_20 Nzz (v1zz, v2, o) = some yzz) : FP o yzz := by
  cases Nzz with
  | zero => cases hzz
  | succ Nzz =>
  have hzz : lb_X9_readExpression_20 (lp_X9_readExpression_20 Nzz) v1zz v2 o = some yzz := hzz
  unfold lb_X9_readExpression_20 at hzz
  have hzz := z_f hzz h19
  unfold bk_X9_readExpression_76 at hzz
  obtain ⟨z3, ez, hzz⟩ := z_bd hzz
  rw [← Option.some.inj hzz]
  exact st_FP _ _ ez
set_option maxHeartbeats 200000 in
theorem ex_part {Nzz : Nat} {v1zz : Int32} {o yzz : Ob} (h19 : gI o 19 = 0) (hzz : lp_X9_readExpression_20 Nzz (v1zz, 1, o) = some yzz) : ∃ (N' : Nat) (zzz : Int32 × Ob), f_X9_readPart o = some zzz ∧ lp_X9_readExpression_20 N' (v1zz, zzz.1, zzz.2) = some yzz := by
  cases Nzz with
  | zero => cases hzz
  | succ Nzz =>
  have hzz : lb_X9_readExpression_20 (lp_X9_readExpression_20 Nzz) v1zz 1 o = some yzz := hzz
  unfold lb_X9_readExpression_20 at hzz
  obtain ⟨zzz, ez, hzz⟩ := z_bd (z_t (z_f (z_f (z_t hzz h19) (by decide)) (by decide)) rfl)
  exact ⟨Nzz, zzz, ez, hzz⟩
set_option maxHeartbeats 200000 in
theorem ex_plain {Nzz : Nat} {v1zz : Int32} {o yzz : Ob} (h19 : gI o 19 = 0) (hzz : lp_X9_readExpression_20 Nzz (v1zz, 0, o) = some yzz) : ∃ (N' : Nat) (zzz : Int32 × Ob), f_X9_readPlain o = some zzz ∧ lp_X9_readExpression_20 N' (v1zz, zzz.1, zzz.2) = some yzz := by
  cases Nzz with
  | zero => cases hzz
  | succ Nzz =>
  have hzz : lb_X9_readExpression_20 (lp_X9_readExpression_20 Nzz) v1zz 0 o = some yzz := hzz
  unfold lb_X9_readExpression_20 at hzz
  obtain ⟨zzz, ez, hzz⟩ := z_bd (z_t (z_f (z_t hzz h19) (by decide)) rfl)
  exact ⟨Nzz, zzz, ez, hzz⟩
set_option maxHeartbeats 200000 in
theorem ex_sum {Nzz : Nat} {v1zz : Int32} {o yzz : Ob} (h19 : gI o 19 = 0) (hzz : lp_X9_readExpression_20 Nzz (v1zz, 3, o) = some yzz) : ∃ (N' : Nat) (zzz : Int32 × Ob), f_X9_behindSum o v1zz = some zzz ∧ lp_X9_readExpression_20 N' (v1zz, zzz.1, zzz.2) = some yzz := by
  cases Nzz with
  | zero => cases hzz
  | succ Nzz =>
  have hzz : lb_X9_readExpression_20 (lp_X9_readExpression_20 Nzz) v1zz 3 o = some yzz := hzz
  unfold lb_X9_readExpression_20 at hzz
  obtain ⟨zzz, ez, hzz⟩ := z_bd (z_t (z_f (z_f (z_f (z_t hzz h19) (by decide)) (by decide)) (by decide)) rfl)
  exact ⟨Nzz, zzz, ez, hzz⟩
set_option maxHeartbeats 200000 in
theorem ex_test {Nzz : Nat} {v1zz : Int32} {o yzz : Ob} (h19 : gI o 19 = 0) (hzz : lp_X9_readExpression_20 Nzz (v1zz, 2, o) = some yzz) : ∃ (N' : Nat) (zzz : Int32 × Ob), f_X9_behindTest o = some zzz ∧ lp_X9_readExpression_20 N' (v1zz, zzz.1, zzz.2) = some yzz := by
  cases Nzz with
  | zero => cases hzz
  | succ Nzz =>
  have hzz : lb_X9_readExpression_20 (lp_X9_readExpression_20 Nzz) v1zz 2 o = some yzz := hzz
  unfold lb_X9_readExpression_20 at hzz
  obtain ⟨zzz, ez, hzz⟩ := z_bd (z_f (z_f (z_f (z_f (z_t hzz h19) (by decide)) (by decide)) (by decide)) (by decide))
  exact ⟨Nzz, zzz, ez, hzz⟩
set_option maxHeartbeats 200000 in
theorem ex_over {Nzz : Nat} {v1zz : Int32} {o yzz : Ob} (h19 : gI o 19 = 0) (hzz : lp_X9_readExpression_20 Nzz (v1zz, 4, o) = some yzz) : f_X9_settle o 1 = some yzz := by
  cases Nzz with
  | zero => cases hzz
  | succ Nzz =>
  have hzz : lb_X9_readExpression_20 (lp_X9_readExpression_20 Nzz) v1zz 4 o = some yzz := hzz
  unfold lb_X9_readExpression_20 at hzz
  have hzz := z_t (z_t hzz h19) rfl
  unfold bk_X9_readExpression_76 at hzz
  obtain ⟨z3, ez, hzz⟩ := z_bd hzz
  rw [← Option.some.inj hzz]; exact ez
-- the class's code
set_option maxHeartbeats 200000 in
theorem add8 {oc : Ob} {s wzz : Int32} {zzz : Int32 × Ob} {kzz : Nat} (ek : (gI oc 8).toInt = (kzz : Int)) (hk : kzz < 400) (hzz : f_X0_add 12 400 oc s wzz = some zzz) : zzz.1.toInt = (kzz : Int) ∧ (gI zzz.2 8).toInt = (kzz : Int) + 1 ∧ gA zzz.2 5 kzz = s ∧ gA zzz.2 6 kzz = wzz ∧ (∀ jzz, jzz ≠ kzz → gA zzz.2 5 jzz = gA oc 5 jzz ∧ gA zzz.2 6 jzz = gA oc 6 jzz) ∧ (∀ izz, izz ≠ 8 → gI zzz.2 izz = gI oc izz) ∧ (∀ izz, izz ≠ 5 → izz ≠ 6 → gA zzz.2 izz = gA oc izz) := by
  unfold f_X0_add at hzz
  have hzz := z_t hzz (Int32.lt_iff_toInt_lt.mpr (by have : (Int32.ofNat 400).toInt = 400 := (by decide); omega))
  obtain ⟨-, hzz⟩ := z_gd hzz
  obtain ⟨o2, e2zz, hzz⟩ := z_lt hzz
  obtain ⟨-, hzz⟩ := z_gd hzz
  obtain ⟨o4zz, e4zz, hzz⟩ := z_lt hzz
  obtain ⟨o5zz, e5zz, hzz⟩ := z_lt hzz
  have ik : (gI oc 8).toNatClampNeg = kzz := tnc_eq ek
  have k2zz : gI o2 8 = gI oc 8 := by rw [e2zz]; rfl
  rw [ik] at e2zz
  rw [k2zz, ik] at e4zz
  have k8zz : gI o5zz 8 = gI oc 8 + 1 := by rw [e5zz, e4zz, e2zz]; rfl
  have t8 : (gI o5zz 8).toInt = (kzz : Int) + 1 := by rw [k8zz]; exact i32_add ek (by decide) (by omega) (by omega)
  rw [← Option.some.inj hzz]
  refine ⟨?_, t8, ?_, ?_, fun jzz hj => ⟨?_, ?_⟩, fun izz hizz => ?_, fun izz azz bzz => ?_⟩
  · have : (gI o5zz 8 - (1 : Int32)).toInt = (kzz : Int) + 1 - 1 := i32_sub t8 (by decide) (by omega) (by omega)
    show (gI o5zz 8 - (1 : Int32)).toInt = _
    omega
  · show gA o5zz 5 kzz = _
    rw [e5zz, e4zz, e2zz]; exact if_pos rfl
  · show gA o5zz 6 kzz = _
    rw [e5zz, e4zz]; exact if_pos rfl
  · show gA o5zz 5 jzz = _
    rw [e5zz, e4zz, e2zz]; exact if_neg hj
  · show gA o5zz 6 jzz = _
    rw [e5zz, e4zz, e2zz]; exact if_neg hj
  · show gI o5zz izz = _
    rw [e5zz]; exact (fset_ne hizz).trans (by rw [e4zz, e2zz]; rfl)
  · show gA o5zz izz = _
    have w0zz : gA o5zz izz = gA o4zz izz := by rw [e5zz]; rfl
    have w1zz : gA o4zz izz = gA o2 izz := by rw [e4zz]; exact fset_ne (f := fun izz => gA o2 izz) bzz
    have w2zz : gA o2 izz = gA oc izz := by rw [e2zz]; exact fset_ne (f := fun izz => gA oc izz) azz
    exact w0zz.trans (w1zz.trans w2zz)
set_option maxHeartbeats 200000 in
theorem stop8 {rd : Ob} {zzz : Int32 × Ob} (hzz : f_X6_stop rd = some zzz) : zzz.1 = 0 ∧ zzz.2 = sI rd 3 (gI rd 7) := by
  unfold f_X6_stop at hzz
  obtain ⟨o1, e1zz, hzz⟩ := z_lt hzz
  rw [← Option.some.inj hzz]; exact ⟨rfl, e1zz⟩
