-- ladders: both count alike
def sm (g : Nat → Int64) (r : Nat) : Nat → Int64
  | 0 => 0
  | s + 1 => sm g r s + g (r - (s + 1))
theorem sm_eq {g g' : Nat → Int64} {r : Nat} (h : ∀ j, j < r → g' j = g j) : ∀ s, s ≤ r → sm g' r s = sm g r s := by
  intro s
  induction s with
  | zero => intro _; rfl
  | succ s ih =>
    intro hs
    show sm g' r s + g' (r - (s + 1)) = sm g r s + g (r - (s + 1))
    rw [ih (by omega), h _ (by omega)]
def mst (k r : Nat) : Nat := if r = 2 then 0 else min k r
def tw (k : Nat) : Nat → Nat → Int64
  | 0 => fun _ => 1
  | r + 1 => fun j => if j = r + 1 then sm (tw k r) (r + 1) (mst k (r + 1)) else tw k r j
theorem updM_at {o : Ob} {k j i : Nat} {v : Int64} : gM (tM o k j v) k i = if i = j then v else gM o k i := by
  have e : gM (tM o k j v) k = vp_updL (gM o k) j v := by
    show cond (Nat.beq k k) _ _ = _
    rw [Nat.beq_refl]; rfl
  rw [e]; rfl
theorem mst_le {k r : Nat} : mst k r ≤ r ∧ mst k r ≤ k := by
  unfold mst
  split
  · exact ⟨Nat.zero_le _, Nat.zero_le _⟩
  · exact ⟨Nat.min_le_right _ _, Nat.min_le_left _ _⟩
theorem u26 (rec9 : Int32 × Int32 × Int32 × Ob → Option (Int64 × Ob)) (v1 v2 v3 : Int32) (k r : Nat) (e2 : v2.toInt = (k : Int)) (e3 : v3.toInt = (r : Int)) (hk : k ≤ 5) (hr1 : 1 ≤ r) (hr : r ≤ 60) (o : Ob) (y : Int64 × Ob) :
    ∀ (N : Nat) (v4 : Int64) (v6 : Int32) (s : Nat), lp_X7_waysUp_26 rec9 N (v1, v2, v3, v4, v6, o) = some y → v6.toInt = (s : Int) + 1 → s ≤ mst k r → v4 = sm (gM o 7) r s → rec9 (v1, v2, v3 + 1, tM o 7 r (sm (gM o 7) r (mst k r))) = some y := by
  have n3 : v3.toNatClampNeg = r := tnc_eq e3
  have ml := mst_le (k := k) (r := r)
  intro N
  induction N with
  | zero => intro v4 v6 s h; cases h
  | succ N ih =>
    intro v4 v6 s h e6 hs e4
    have h : lb_X7_waysUp_26 rec9 (lp_X7_waysUp_26 rec9 N) v1 v2 v3 v4 v6 o = some y := h
    unfold lb_X7_waysUp_26 at h
    have h63 : s = mst k r → bk_X7_waysUp_63 rec9 v1 v2 v3 v4 o = some y → rec9 (v1, v2, v3 + 1, tM o 7 r (sm (gM o 7) r (mst k r))) = some y := by
      intro es h
      unfold bk_X7_waysUp_63 at h
      obtain ⟨-, h⟩ := z_gd h
      rw [n3, e4, es] at h
      exact h
    by_cases c1 : v2 < v6
    · have h := z_t h c1
      have c1 := cv_lt (a := v2.toInt) (b := v6.toInt) rfl rfl c1
      exact h63 (by omega) h
    · have h := z_f h c1
      have c1 := cv_nlt (a := v2.toInt) (b := v6.toInt) rfl rfl c1
      by_cases c2 : v3 < v6
      · have h := z_t h c2
        have c2 := cv_lt (a := v3.toInt) (b := v6.toInt) rfl rfl c2
        exact h63 (by omega) h
      · have h := z_f h c2
        have c2 := cv_nlt (a := v3.toInt) (b := v6.toInt) rfl rfl c2
        by_cases c3 : v3 = (2 : Int32)
        · have h := z_t h c3
          have c3 := cv_eq (a := v3.toInt) (b := 2) rfl (by decide) c3
          have em : mst k r = 0 := by unfold mst; rw [if_pos (by omega)]
          exact h63 (by omega) h
        · have h := z_f h c3
          have c3 := cv_ne (a := v3.toInt) (b := 2) rfl (by decide) c3
          obtain ⟨-, h⟩ := z_gd h
          have em : s + 1 ≤ mst k r := by unfold mst; rw [if_neg (by omega)]; exact Nat.le_min.mpr ⟨by omega, by omega⟩
          have t1 : (v3 - v6).toInt = ((r - (s + 1) : Nat) : Int) := by
            have t : (v3 - v6).toInt = (r : Int) - ((s : Int) + 1) := i32_sub e3 e6 (by omega) (by omega)
            omega
          have n1 := tnc_eq t1
          have t2 : (v6 + (1 : Int32)).toInt = ((s + 1 : Nat) : Int) + 1 := by
            have t : (v6 + (1 : Int32)).toInt = (s : Int) + 1 + 1 := i32_add e6 (by decide) (by omega) (by omega)
            omega
          have h : lp_X7_waysUp_26 rec9 N (v1, v2, v3, v4 + gM o 7 (v3 - v6).toNatClampNeg, v6 + 1, o) = some y := h
          rw [n1] at h
          exact ih _ _ (s + 1) h t2 em (by rw [e4]; rfl)
theorem u9 (v1 v2 : Int32) (n k : Nat) (e1 : v1.toInt = (n : Int)) (hn : n ≤ 60) (e2 : v2.toInt = (k : Int)) (hk : k ≤ 5) (y : Int64 × Ob) :
    ∀ (N : Nat) (v3 : Int32) (o : Ob) (r : Nat), lp_X7_waysUp_9 N (v1, v2, v3, o) = some y → v3.toInt = ((r + 1 : Nat) : Int) → r ≤ n → (∀ j, j ≤ r → gM o 7 j = tw k r j) → y.1 = tw k n n := by
  have n1 : v1.toNatClampNeg = n := tnc_eq e1
  intro N
  induction N with
  | zero => intro v3 o r h; cases h
  | succ N ih =>
    intro v3 o r h e3 hr hg
    have h : lb_X7_waysUp_9 (lp_X7_waysUp_9 N) v1 v2 v3 o = some y := h
    unfold lb_X7_waysUp_9 at h
    by_cases c1 : v1 < v3
    · have h := z_t h c1
      have c1 := cv_lt (a := v1.toInt) (b := v3.toInt) rfl rfl c1
      have er : r = n := by omega
      subst er
      unfold bk_X7_waysUp_77 at h
      have c2 : ¬ v1 < (0 : Int32) := fun c => by have c := cv_lt (a := v1.toInt) (b := 0) rfl (by decide) c; omega
      have c3 : ¬ (60 : Int32) < v1 := fun c => by have c := cv_lt (a := 60) (b := v1.toInt) (by decide) rfl c; omega
      obtain ⟨-, h⟩ := z_gd (z_f (z_f h c2) c3)
      rw [← Option.some.inj h, n1]
      exact hg r (Nat.le_refl _)
    · have h := z_f h c1
      have c1 := cv_nlt (a := v1.toInt) (b := v3.toInt) rfl rfl c1
      have c2 : ¬ (60 : Int32) < v3 := fun c => by have c := cv_lt (a := 60) (b := v3.toInt) (by decide) rfl c; omega
      have h := z_f h c2
      have h2 := u26 (lp_X7_waysUp_9 N) v1 v2 v3 k (r + 1) e2 e3 hk (by omega) (by omega) o y zfu 0 1 0 h (by decide) (Nat.zero_le _) rfl
      have t3 : (v3 + (1 : Int32)).toInt = ((r + 1 + 1 : Nat) : Int) := by
        have t : (v3 + (1 : Int32)).toInt = ((r + 1 : Nat) : Int) + 1 := i32_add e3 (by decide) (by omega) (by omega)
        omega
      refine ih _ _ (r + 1) h2 t3 (by omega) (fun j hj => ?_)
      rw [updM_at]
      show _ = if j = r + 1 then sm (tw k r) (r + 1) (mst k (r + 1)) else tw k r j
      by_cases e : j = r + 1
      · rw [if_pos e, if_pos e]
        exact sm_eq (fun i hi => hg i (by omega)) _ mst_le.1
      · rw [if_neg e, if_neg e]; exact hg j (by omega)
theorem u57 (rec42 : Int32 × Int32 × Int32 × Ob → Option (Int64 × Ob)) (v1 v2 v3 : Int32) (k r : Nat) (e2 : v2.toInt = (k : Int)) (e3 : v3.toInt = (r : Int)) (hk : k ≤ 5) (hr1 : 1 ≤ r) (hr : r ≤ 60) (g : Nat → Int64) (P : Ob → Prop) (y : Int64 × Ob) :
    ∀ (N : Nat) (v4 : Int32) (o : Ob) (s : Nat), lp_X9_ladder_57 rec42 N (v1, v2, v3, v4, o) = some y → v4.toInt = (s : Int) + 1 → s ≤ mst k r → gM o 52 r = sm g r s → (∀ j, j < r → gM o 52 j = g j) → ∃ o', rec42 (v1, v2, v3 + 1, o') = some y ∧ gM o' 52 r = sm g r (mst k r) ∧ ∀ j, j < r → gM o' 52 j = g j := by
  have n3 : v3.toNatClampNeg = r := tnc_eq e3
  have ml := mst_le (k := k) (r := r)
  intro N
  induction N with
  | zero => intro v4 o s h; cases h
  | succ N ih =>
    intro v4 o s h e4 hs hg hl
    have h : lb_X9_ladder_57 rec42 (lp_X9_ladder_57 rec42 N) v1 v2 v3 v4 o = some y := h
    unfold lb_X9_ladder_57 at h
    have h98 : s = mst k r → bk_X9_ladder_98 rec42 v1 v2 v3 o = some y → ∃ o', rec42 (v1, v2, v3 + 1, o') = some y ∧ gM o' 52 r = sm g r (mst k r) ∧ ∀ j, j < r → gM o' 52 j = g j := by
      intro es h
      exact ⟨o, h, by rw [← es]; exact hg, hl⟩
    by_cases c1 : v2 < v4
    · have h := z_t h c1
      have c1 := cv_lt (a := v2.toInt) (b := v4.toInt) rfl rfl c1
      exact h98 (by omega) h
    · have h := z_f h c1
      have c1 := cv_nlt (a := v2.toInt) (b := v4.toInt) rfl rfl c1
      by_cases c2 : v3 < v4
      · have h := z_t h c2
        have c2 := cv_lt (a := v3.toInt) (b := v4.toInt) rfl rfl c2
        exact h98 (by omega) h
      · have h := z_f h c2
        have c2 := cv_nlt (a := v3.toInt) (b := v4.toInt) rfl rfl c2
        by_cases c3 : v3 = (2 : Int32)
        · have h := z_t h c3
          have c3 := cv_eq (a := v3.toInt) (b := 2) rfl (by decide) c3
          have em : mst k r = 0 := by unfold mst; rw [if_pos (by omega)]
          exact h98 (by omega) h
        · have h := z_f h c3
          have c3 := cv_ne (a := v3.toInt) (b := 2) rfl (by decide) c3
          obtain ⟨-, h⟩ := z_gd h
          obtain ⟨-, h⟩ := z_gd h
          obtain ⟨-, h⟩ := z_gd h
          have em : s + 1 ≤ mst k r := by unfold mst; rw [if_neg (by omega)]; exact Nat.le_min.mpr ⟨by omega, by omega⟩
          have t1 : (v3 - v4).toInt = ((r - (s + 1) : Nat) : Int) := by
            have t : (v3 - v4).toInt = (r : Int) - ((s : Int) + 1) := i32_sub e3 e4 (by omega) (by omega)
            omega
          have n1 := tnc_eq t1
          have t2 : (v4 + (1 : Int32)).toInt = ((s + 1 : Nat) : Int) + 1 := by
            have t : (v4 + (1 : Int32)).toInt = (s : Int) + 1 + 1 := i32_add e4 (by decide) (by omega) (by omega)
            omega
          have h : lp_X9_ladder_57 rec42 N (v1, v2, v3, v4 + 1, tM o 52 v3.toNatClampNeg ((gM o 52 v3.toNatClampNeg) + (gM o 52 (v3 - v4).toNatClampNeg))) = some y := h
          rw [n1, n3] at h
          refine ih _ _ (s + 1) h t2 em ?_ (fun j hj => ?_)
          · rw [updM_at, if_pos rfl, hg, hl _ (by omega)]; rfl
          · rw [updM_at, if_neg (by omega)]; exact hl j hj
theorem u42 (v1 v2 : Int32) (n k : Nat) (e1 : v1.toInt = (n : Int)) (hn : n ≤ 60) (e2 : v2.toInt = (k : Int)) (hk : k ≤ 5) (y : Int64 × Ob) :
    ∀ (N : Nat) (v3 : Int32) (o : Ob) (r : Nat), lp_X9_ladder_42 N (v1, v2, v3, o) = some y → v3.toInt = ((r + 1 : Nat) : Int) → r ≤ n → (∀ j, j ≤ r → gM o 52 j = tw k r j) → y.1 = tw k n n := by
  have n1 : v1.toNatClampNeg = n := tnc_eq e1
  intro N
  induction N with
  | zero => intro v3 o r h; cases h
  | succ N ih =>
    intro v3 o r h e3 hr hg
    have h : lb_X9_ladder_42 (lp_X9_ladder_42 N) v1 v2 v3 o = some y := h
    unfold lb_X9_ladder_42 at h
    have n3 : v3.toNatClampNeg = r + 1 := tnc_eq e3
    by_cases c1 : v1 < v3
    · obtain ⟨-, h⟩ := z_gd (z_t h c1)
      have c1 := cv_lt (a := v1.toInt) (b := v3.toInt) rfl rfl c1
      have er : r = n := by omega
      subst er
      rw [← Option.some.inj h, n1]
      exact hg r (Nat.le_refl _)
    · obtain ⟨-, h⟩ := z_gd (z_f h c1)
      have c1 := cv_nlt (a := v1.toInt) (b := v3.toInt) rfl rfl c1
      have h : lp_X9_ladder_57 (lp_X9_ladder_42 N) zfu (v1, v2, v3, 1, tM o 52 v3.toNatClampNeg 0) = some y := h
      rw [n3] at h
      obtain ⟨o', h2, g1, g2⟩ := u57 (lp_X9_ladder_42 N) v1 v2 v3 k (r + 1) e2 e3 hk (by omega) (by omega) (tw k r) (fun _ => True) y zfu 1 _ 0 h (by decide) (Nat.zero_le _) (by rw [updM_at, if_pos rfl]; rfl) (fun j hj => by rw [updM_at, if_neg (by omega)]; exact hg j (by omega))
      have t3 : (v3 + (1 : Int32)).toInt = ((r + 1 + 1 : Nat) : Int) := by
        have t : (v3 + (1 : Int32)).toInt = ((r + 1 : Nat) : Int) + 1 := i32_add e3 (by decide) (by omega) (by omega)
        omega
      refine ih _ _ (r + 1) h2 t3 (by omega) (fun j hj => ?_)
      show _ = if j = r + 1 then sm (tw k r) (r + 1) (mst k (r + 1)) else tw k r j
      by_cases e : j = r + 1
      · rw [if_pos e, e]; exact g1
      · rw [if_neg e]; exact g2 j (by omega)
theorem ladder_eq (o9 o8 o7 : Ob) (p0 p1 : Int32) (y2 y1 : Int64 × Ob) (h9 : f_X9_ladder o9 p0 p1 = some y2) (h8 : f_X8_ladder o8 o7 p0 p1 = some y1) : y1.1 = y2.1 := by
  have ep := Int32.toInt_toInt64 p0
  have eq := Int32.toInt_toInt64 p1
  have l1 : (1 : Int64).toInt = 1 := by decide
  have l60 : (60 : Int64).toInt = 60 := by decide
  have l5 : (5 : Int64).toInt = 5 := by decide
  have n0 : (0 : Int32).toNatClampNeg = 0 := by decide
  have r1 := i32_rg p0
  have r2 := i32_rg p1
  unfold f_X9_ladder at h9
  obtain ⟨o1, eo1, h9⟩ := z_lt h9
  obtain ⟨z2, ez2, h9⟩ := z_bd h9
  have in_iff : ∀ (x a b : Int64) (z : Int32), f_X9_in x a b = some z → (z = 0 ∧ ¬ (a.toInt ≤ x.toInt ∧ x.toInt ≤ b.toInt)) ∨ (¬ z = 0 ∧ a.toInt ≤ x.toInt ∧ x.toInt ≤ b.toInt) := by
    intro x a b z h
    unfold f_X9_in at h
    by_cases c1 : (lg_cmp x a) < (0 : Int32)
    · have h := z_t h c1
      have c1 := cvl_lt (a := x.toInt) (b := a.toInt) rfl rfl c1
      exact Or.inl ⟨(Option.some.inj h).symm, by omega⟩
    · have h := z_f h c1
      have c1 := cvl_nlt (a := x.toInt) (b := a.toInt) rfl rfl c1
      by_cases c2 : (0 : Int32) < (lg_cmp x b)
      · have h := z_t h c2
        have c2 := cvl_gt (a := x.toInt) (b := b.toInt) rfl rfl c2
        exact Or.inl ⟨(Option.some.inj h).symm, by omega⟩
      · have h := z_f h c2
        have c2 := cvl_ngt (a := x.toInt) (b := b.toInt) rfl rfl c2
        exact Or.inr ⟨by rw [← Option.some.inj h]; decide, c1, c2⟩
  unfold f_X8_ladder at h8
  have none8 : (¬ (1 ≤ p0.toInt ∧ p0.toInt ≤ 60 ∧ 1 ≤ p1.toInt ∧ p1.toInt ≤ 5)) → y1.1 = -1 := by
    intro hn
    by_cases c1 : p0 < (1 : Int32)
    · rw [← Option.some.inj (z_t h8 c1)]
    · have h8 := z_f h8 c1
      have c1 := cv_nlt (a := p0.toInt) (b := 1) rfl (by decide) c1
      by_cases c2 : (60 : Int32) < p0
      · rw [← Option.some.inj (z_t h8 c2)]
      · have h8 := z_f h8 c2
        have c2 := cv_nlt (a := 60) (b := p0.toInt) (by decide) rfl c2
        by_cases c3 : p1 < (1 : Int32)
        · rw [← Option.some.inj (z_t h8 c3)]
        · have h8 := z_f h8 c3
          have c3 := cv_nlt (a := p1.toInt) (b := 1) rfl (by decide) c3
          by_cases c4 : p1 ≤ (5 : Int32)
          · have c4 := cv_le (a := p1.toInt) (b := 5) rfl (by decide) c4
            exact absurd ⟨c1, c2, c3, c4⟩ hn
          · rw [← Option.some.inj (z_f h8 c4)]
  rcases in_iff _ _ _ _ ez2 with ⟨a1, a2⟩ | ⟨a1, a2, a3⟩
  · have h9 := z_t h9 a1
    rw [← Option.some.inj h9]
    exact none8 (by omega)
  · have h9 := z_f h9 a1
    obtain ⟨z3, ez3, h9⟩ := z_bd h9
    rcases in_iff _ _ _ _ ez3 with ⟨b1, b2⟩ | ⟨b1, b2, b3⟩
    · have h9 := z_t h9 b1
      rw [← Option.some.inj h9]
      exact none8 (by omega)
    · have h9 := z_f h9 b1
      have c1 : ¬ p0 < (1 : Int32) := fun c => by have c := cv_lt (a := p0.toInt) (b := 1) rfl (by decide) c; omega
      have c2 : ¬ (60 : Int32) < p0 := fun c => by have c := cv_lt (a := 60) (b := p0.toInt) (by decide) rfl c; omega
      have c3 : ¬ p1 < (1 : Int32) := fun c => by have c := cv_lt (a := p1.toInt) (b := 1) rfl (by decide) c; omega
      have c4 : p1 ≤ (5 : Int32) := Int32.le_iff_toInt_le.mpr (by have e : (5 : Int32).toInt = 5 := (by decide); omega)
      have h8 := z_t (z_f (z_f (z_f h8 c1) c2) c3) c4
      obtain ⟨z, ez, h8⟩ := z_bd h8
      rw [← Option.some.inj h8]
      show z.1 = y2.1
      have hz : lp_X7_waysUp_9 zfu (p0, p1, 1, tM o7 7 (0 : Int32).toNatClampNeg 1) = some z := ez
      have hy : lp_X9_ladder_42 zfu (p0, p1, 1, tM o1 52 (0 : Int32).toNatClampNeg 1) = some y2 := h9
      rw [n0] at hz hy
      have q8 := u9 p0 p1 p0.toInt.toNat p1.toInt.toNat (by omega) (by omega) (by omega) (by omega) z zfu 1 _ 0 hz (by decide) (Nat.zero_le _) (fun j hj => by rw [updM_at, if_pos (by omega)]; rfl)
      have q9 := u42 p0 p1 p0.toInt.toNat p1.toInt.toNat (by omega) (by omega) (by omega) (by omega) y2 zfu 1 _ 0 hy (by decide) (Nat.zero_le _) (fun j hj => by rw [updM_at, if_pos (by omega)]; rfl)
      rw [q8, q9]
-- images, laws that come
def IK (rI : Nat → Option Nat) (im0 im1 : Option IR) : Prop :=
  (∀ j, 2 ≤ j → rI j = none) ∧ (∀ j, j < 2 → rI j = none ∨ (∃ r : IR, im0 = some r ∧ rI j = some r.1) ∨ (∃ r : IR, im1 = some r ∧ rI j = some r.1)) ∧
  ((∀ j, j < 2 → rI j = none) → im0 = none ∧ im1 = none) ∧ ((∃ j, j < 2 ∧ rI j = none) → im0 = none ∨ im1 = none)
theorem IK.eq {rI rI' : Nat → Option Nat} {im0 im1 : Option IR} (e : rI' = rI) (h : IK rI im0 im1) : IK rI' im0 im1 := by rw [e]; exact h
theorem IK.new0 {rI : Nat → Option Nat} {im1 : Option IR} {n : Nat} {r : IR} (h : IK rI none im1) (hn : n < 2) (e : rI n = none) : IK (va_up rI n (some r.1)) (some r) im1 := by
  have ea : ∀ j, va_up rI n (some r.1) j = if j = n then some r.1 else rI j := fun _ => rfl
  refine ⟨fun j hj => ?_, fun j hj => ?_, fun hh => ?_, fun ⟨j, hj, ej⟩ => ?_⟩
  · rw [ea, if_neg (by omega)]; exact h.1 j hj
  · rw [ea]
    by_cases c : j = n
    · rw [if_pos c]; exact Or.inr (Or.inl ⟨r, rfl, rfl⟩)
    · rw [if_neg c]
      rcases h.2.1 j hj with q | ⟨r', q, -⟩ | q
      · exact Or.inl q
      · cases q
      · exact Or.inr (Or.inr q)
  · have := hh n hn
    rw [ea, if_pos rfl] at this; cases this
  · rw [ea] at ej
    by_cases c : j = n
    · rw [if_pos c] at ej; cases ej
    · rw [if_neg c] at ej
      exact Or.inr (h.2.2.1 (fun i hi => by
        rcases (show i = n ∨ i = j by omega) with q | q
        · rw [q]; exact e
        · rw [q]; exact ej)).2
theorem IK.new1 {rI : Nat → Option Nat} {im0 : Option IR} {n : Nat} {r : IR} (h : IK rI im0 none) (hn : n < 2) (e : rI n = none) : IK (va_up rI n (some r.1)) im0 (some r) := by
  have ea : ∀ j, va_up rI n (some r.1) j = if j = n then some r.1 else rI j := fun _ => rfl
  refine ⟨fun j hj => ?_, fun j hj => ?_, fun hh => ?_, fun ⟨j, hj, ej⟩ => ?_⟩
  · rw [ea, if_neg (by omega)]; exact h.1 j hj
  · rw [ea]
    by_cases c : j = n
    · rw [if_pos c]; exact Or.inr (Or.inr ⟨r, rfl, rfl⟩)
    · rw [if_neg c]
      rcases h.2.1 j hj with q | q | ⟨r', q, -⟩
      · exact Or.inl q
      · exact Or.inr (Or.inl q)
      · cases q
  · have := hh n hn
    rw [ea, if_pos rfl] at this; cases this
  · rw [ea] at ej
    by_cases c : j = n
    · rw [if_pos c] at ej; cases ej
    · rw [if_neg c] at ej
      exact Or.inl (h.2.2.1 (fun i hi => by
        rcases (show i = n ∨ i = j by omega) with q | q
        · rw [q]; exact e
        · rw [q]; exact ej)).1
theorem IK.rep0 {rI : Nat → Option Nat} {im1 : Option IR} {r r' : IR} (h : IK rI (some r) im1) (e : r'.1 = r.1) : IK rI (some r') im1 := by
  refine ⟨h.1, fun j hj => ?_, fun hh => ?_, fun hh => ?_⟩
  · rcases h.2.1 j hj with q | ⟨s, q, w⟩ | q
    · exact Or.inl q
    · have es := Option.some.inj q
      subst es
      exact Or.inr (Or.inl ⟨r', rfl, by rw [e]; exact w⟩)
    · exact Or.inr (Or.inr q)
  · have := (h.2.2.1 hh).1; cases this
  · rcases h.2.2.2 hh with q | q
    · cases q
    · exact Or.inr q
theorem IK.rep1 {rI : Nat → Option Nat} {im0 : Option IR} {r r' : IR} (h : IK rI im0 (some r)) (e : r'.1 = r.1) : IK rI im0 (some r') := by
  refine ⟨h.1, fun j hj => ?_, fun hh => ?_, fun hh => ?_⟩
  · rcases h.2.1 j hj with q | q | ⟨s, q, w⟩
    · exact Or.inl q
    · exact Or.inr (Or.inl q)
    · have es := Option.some.inj q
      subst es
      exact Or.inr (Or.inr ⟨r', rfl, by rw [e]; exact w⟩)
  · have := (h.2.2.1 hh).2; cases this
  · rcases h.2.2.2 hh with q | q
    · exact Or.inl q
    · cases q
def JI (S : Nat → Ob) (pl : List CR) (im0 im1 : Option IR) : Prop :=
  (IvX9 (S 14) ∧ gI (S 14) 20 = 0) ∧ PLok pl ∧ IvX6 (S 1) ∧ IvX0 12 400 (S 2) ∧ IvX3 (S 3) ∧ IvX2 pl (S 4) ∧ IvX4 (S 5) ∧ IvX1 (S 6) ∧ IvX7 (S 7) ∧ IvX2 pl (S 8) ∧ IvX4 (S 9) ∧ IvX1 (S 10) ∧ IvX5 (S 11) ∧ IvX5 (S 12) ∧ IvX4 (S 13) ∧ IK (gR (S 0) 7) im0 im1 ∧
  (∀ r : IR, im0 = some r → IvX2 pl r.2.2.2.2.2.2.1 ∧ IvX4 r.2.2.2.2.2.2.2) ∧ (∀ r : IR, im1 = some r → IvX2 pl r.2.2.2.2.2.2.1 ∧ IvX4 r.2.2.2.2.2.2.2)
theorem zpo_app {pl l : List CR} {r : Option Nat} (h : zpo pl r = true) : zpo (pl ++ l) r = true := by
  cases r with
  | none => rfl
  | some a =>
    have h : (pfind pl a).isSome = true := h
    show (pfind (pl ++ l) a).isSome = true
    unfold pfind at h ⊢
    rw [List.find?_append]
    cases e : pl.find? (fun c => Nat.beq c.1 a) with
    | none => rw [e] at h; cases h
    | some c => rfl
theorem zpo_new {pl : List CR} {c : CR} : zpo (pl ++ [c]) (some c.1) = true := by
  show (pfind (pl ++ [c]) c.1).isSome = true
  unfold pfind
  rw [List.find?_append]
  cases e : pl.find? (fun c' => Nat.beq c'.1 c.1) with
  | none =>
    have q : [c].find? (fun c' => Nat.beq c'.1 c.1) = some c := List.find?_cons_of_pos (Nat.beq_refl c.1)
    rw [q]; rfl
  | some c' => rfl
theorem IvX2.app {pl l : List CR} {o : Ob} (h : IvX2 pl o) : IvX2 (pl ++ l) o := ⟨h.1, h.2.1, h.2.2.1, h.2.2.2.1, h.2.2.2.2.1, fun j hj => zpo_app (h.2.2.2.2.2 j hj)⟩
theorem PLok.app {pl : List CR} {c : CR} (h : PLok pl) (hc : IvX0 c.2.2.2.1 c.2.2.2.2.1 c.2.2.2.2.2) : PLok (pl ++ [c]) := by
  intro d hd
  rcases List.mem_append.mp hd with q | q
  · exact h d q
  · rw [List.mem_singleton.mp q]; exact hc
theorem h_kept (o : Ob) (h : IvX0 12 400 o) : ∃ oc, f_X0_kept 12 400 o = some oc ∧ IvX0 (gI o 7).toNatClampNeg (gI o 8).toNatClampNeg oc := by
  have h7 := h.1
  have h8 := h.2.1
  have e7 : (((gI o 7).toNatClampNeg : Nat) : Int) = (gI o 7).toInt := by
    have e : (gI o 7).toNatClampNeg = (gI o 7).toInt.toNat := rfl
    rw [e]; omega
  have e8 : (((gI o 8).toNatClampNeg : Nat) : Int) = (gI o 8).toInt := by
    have e : (gI o 8).toNatClampNeg = (gI o 8).toInt.toNat := rfl
    rw [e]; omega
  have z0 : (0 : Int32).toInt = 0 := by decide
  have g : wp (f_X0_kept 12 400 o) (fun oc => IvX0 (gI o 7).toNatClampNeg (gI o 8).toNatClampNeg oc) := by
    unfold f_X0_kept
    refine wp_gd (decide_eq_true ⟨by omega, by omega, by omega, by omega⟩) ?_
    unfold f_X0_kept2
    have c7 : zcp (0 : Int32) (0 : Int32) (gI o 7) 12 (gI o 7).toNatClampNeg = true := zcp_of (m0 := 12) (m1 := (gI o 7).toInt) rfl e7 (by omega) (by omega) (by omega) (by omega) (by omega)
    have c8 : zcp (0 : Int32) (0 : Int32) (gI o 8) 400 (gI o 8).toNatClampNeg = true := zcp_of (m0 := 400) (m1 := (gI o 8).toInt) rfl e8 (by omega) (by omega) (by omega) (by omega) (by omega)
    refine wp_gd c7 ?_
    refine wp_lt (fun o2 f2 => ?_)
    refine wp_gd c7 ?_
    refine wp_lt (fun o4 f4 => ?_)
    refine wp_gd c7 ?_
    refine wp_lt (fun o6 f6 => ?_)
    refine wp_gd c7 ?_
    refine wp_lt (fun o8 f8 => ?_)
    refine wp_gd c7 ?_
    refine wp_lt (fun o10 f10 => ?_)
    refine wp_gd c8 ?_
    refine wp_lt (fun o12 f12 => ?_)
    refine wp_gd c8 ?_
    refine wp_lt (fun o14 f14 => ?_)
    refine wp_lt (fun o15 f15 => ?_)
    refine wp_lt (fun o16 f16 => ?_)
    refine wp_some ?_
    have k7 : gI o16 7 = gI o 7 := by rw [f16, f15]; rfl
    have k8 : gI o16 8 = gI o 8 := by rw [f16]; rfl
    have k1 : gA o16 1 = va_cpy (gA o 1) (fun _ => 0) (0 : Int32).toNatClampNeg (0 : Int32).toNatClampNeg (gI o 7).toNatClampNeg := by rw [f16, f15, f14, f12, f10, f8, f6, f4, f2]; rfl
    refine ⟨by rw [k7]; omega, by rw [k8]; omega, fun j _ hj => ?_, trivial⟩
    rw [k1]
    unfold va_cpy
    have n0 : (0 : Int32).toNatClampNeg = 0 := by decide
    rw [n0]
    split
    · have e : 0 + (j - 0) = j := by omega
      rw [e]; exact h.2.2.1 j (Nat.zero_le _) hj
    · exact (show 0 ≤ (0 : Int32).toInt ∧ (0 : Int32).toInt ≤ 20 by decide)
  exact g
theorem h_lawb (pl : List CR) (c : CR) (hpl : PLok pl) (hc : IvX0 c.2.2.2.1 c.2.2.2.2.1 c.2.2.2.2.2) (o8 o4 : Ob) (h4 : IvX2 pl o4) : ∃ y, f_X8_law_b (pl ++ [c]) o8 o4 (some c.1) = some y ∧ IvX8 (gR o8 7) y.2.1 ∧ IvX2 (pl ++ [c]) y.2.2 := by
  obtain ⟨z3, e3, -, g, -⟩ := s_X2_addLaw_Q o4 (pl ++ [c]) (some c.1) h4.app (hpl.app hc) zpo_new
  obtain ⟨z4, e4, g4, -⟩ := s_X8_grant o8 z3.1 (rfl : IvX8 (gR o8 7) o8)
  refine ⟨(z4.1, z4.2, z3.2), ?_, g4, g⟩
  unfold f_X8_law_b
  rw [e3]
  show ((f_X8_grant o8 z3.1).bind fun z4 => some (z4.1, z4.2, z3.2)) = _
  rw [e4]; rfl
theorem iv2_0 (pl : List CR) : IvX2 pl ob2 := by
  have z : (0 : Int32).toInt = 0 := by decide
  refine ⟨⟨by decide, by decide⟩, ⟨by decide, by decide⟩, ⟨by decide, by decide⟩, ⟨by decide, by decide⟩, ⟨fun j _ _ => ?_, trivial⟩, fun j _ => rfl⟩
  show 0 ≤ (0 : Int32).toInt ∧ (0 : Int32).toInt ≤ 3
  decide
theorem iv4_0 : IvX4 ob0 := by
  refine ⟨⟨fun j _ _ => ?_, trivial⟩, trivial⟩
  show 0 ≤ (0 : Int32).toInt ∧ (0 : Int32).toInt ≤ 9
  decide
theorem h_imgb (pl : List CR) (hpl : PLok pl) (o4 o5 o8 oi on : Ob) (h4 : IvX2 pl o4) (h5 : IvX4 o5) (hi : IvX2 pl oi) (hn : IvX4 on) : ∃ y, f_X8_image_b o4 o5 pl o8 oi on = some y ∧ IvX8 (gR o8 7) y.2.1 ∧ IvX2 pl y.2.2.1 ∧ IvX4 y.2.2.2 := by
  obtain ⟨z2, e2, g1, -, g2, -⟩ := s_X2_set_O oi on pl o4 o5 hi hn hpl h4 h5
  obtain ⟨z3, e3, g3, -⟩ := s_X8_grant o8 0 (rfl : IvX8 (gR o8 7) o8)
  refine ⟨(z3.1, z3.2, z2.1, z2.2), ?_, g3, g1, g2⟩
  unfold f_X8_image_b
  rw [e2]
  show ((f_X8_grant o8 0).bind fun z3 => some (z3.1, z3.2, z2.1, z2.2)) = _
  rw [e3]; rfl
theorem okp_0 : ok_0 JI := by
  intro S pl im0 im1 a1 a2 hJ
  obtain ⟨⟨h14, h20⟩, hpl, h1, h2, h3, h4, h5, h6, h7, h8, h9, h10, h11, h12, h13, hik, hi0, hi1⟩ := hJ
  obtain ⟨y2, e2, p2⟩ := s_X9_person (S 14) a1 a2 h14 
  obtain ⟨y1, e1, p1⟩ := s_X8_person (S 0) (S 4) (S 5) (S 11) a1 a2 (rfl : IvX8 (gR (S 0) 7) (S 0)) h4 h5 h11
  exact ⟨y2, e2, y1, e1, ⟨⟨p2.2.1, ((p2.2.2.1 20 (by decide)).trans h20)⟩, hpl, h1, h2, h3, p1.2.2.1, p1.2.2.2.2.1, h6, h7, h8, h9, h10, p1.2.2.2.2.2.2.1, h12, h13, (IK.eq p1.1 hik), hi0, hi1⟩⟩
theorem okp_1 : ok_1 JI := by
  intro S pl im0 im1 a1 a2 hJ
  obtain ⟨⟨h14, h20⟩, hpl, h1, h2, h3, h4, h5, h6, h7, h8, h9, h10, h11, h12, h13, hik, hi0, hi1⟩ := hJ
  obtain ⟨y2, e2, p2⟩ := s_X9_of (S 14) a1 a2 h14 ⟨by rw [h20]; decide, by rw [h20]; decide⟩
  obtain ⟨y1, e1, p1⟩ := s_X8_of (S 0) (S 3) (S 4) (S 5) (S 6) pl a1 a2 (rfl : IvX8 (gR (S 0) 7) (S 0)) h3 h4 h5 h6 hpl
  exact ⟨y2, e2, y1, e1, ⟨⟨p2.1, ((p2.2.1 20 (by decide)).trans h20)⟩, hpl, h1, h2, p1.1, h4, h5, h6, h7, h8, h9, h10, h11, h12, h13, hik, hi0, hi1⟩⟩
theorem okp_2 : ok_2 JI := by
  intro S pl im0 im1 a1 a2 a3 hJ
  obtain ⟨⟨h14, h20⟩, hpl, h1, h2, h3, h4, h5, h6, h7, h8, h9, h10, h11, h12, h13, hik, hi0, hi1⟩ := hJ
  obtain ⟨y2, e2, p2⟩ := s_X9_strength (S 14) a1 a2 a3 h14 
  obtain ⟨y1, e1, p1⟩ := s_X8_strength (S 0) (S 4) a1 a2 a3 (rfl : IvX8 (gR (S 0) 7) (S 0)) h4
  exact ⟨y2, e2, y1, e1, ⟨⟨p2.1, ((p2.2.1 20 (by decide)).trans h20)⟩, hpl, h1, h2, h3, p1.2.2.1, h5, h6, h7, h8, h9, h10, h11, h12, h13, (IK.eq p1.1 hik), hi0, hi1⟩⟩
theorem okp_3 : ok_3 JI := by
  intro S pl im0 im1 a1 a2 a3 hJ
  obtain ⟨⟨h14, h20⟩, hpl, h1, h2, h3, h4, h5, h6, h7, h8, h9, h10, h11, h12, h13, hik, hi0, hi1⟩ := hJ
  obtain ⟨y2, e2, p2⟩ := s_X9_beats (S 14) a1 a2 a3 h14 
  obtain ⟨y1, e1, p1⟩ := s_X8_beats (S 0) (S 4) a1 a2 a3 (rfl : IvX8 (gR (S 0) 7) (S 0)) h4
  exact ⟨y2, e2, y1, e1, ⟨⟨p2.2.1, ((p2.2.2.1 20 (by decide)).trans h20)⟩, hpl, h1, h2, h3, p1.2.2.1, h5, h6, h7, h8, h9, h10, h11, h12, h13, (IK.eq p1.1 hik), hi0, hi1⟩⟩
theorem okp_4 : ok_4 JI := by
  intro S pl im0 im1 a1 a2 hJ
  obtain ⟨⟨h14, h20⟩, hpl, h1, h2, h3, h4, h5, h6, h7, h8, h9, h10, h11, h12, h13, hik, hi0, hi1⟩ := hJ
  obtain ⟨y2, e2, p2⟩ := s_X9_placed (S 14) a1 a2 h14 ⟨by rw [h20]; decide, by rw [h20]; decide⟩
  obtain ⟨y1, e1, p1⟩ := s_X8_placed (S 0) (S 3) (S 4) (S 5) (S 6) pl a1 a2 (rfl : IvX8 (gR (S 0) 7) (S 0)) h3 h4 h5 h6 hpl
  exact ⟨y2, e2, y1, e1, ⟨⟨p2.2.1, ((p2.2.2.1 20 (by decide)).trans h20)⟩, hpl, h1, h2, p1.2.1, h4, h5, p1.2.2.2.1, h7, h8, h9, h10, h11, h12, h13, hik, hi0, hi1⟩⟩
theorem okp_5 : ok_5 JI := by
  intro S pl im0 im1 a1 a2 hJ
  obtain ⟨⟨h14, h20⟩, hpl, h1, h2, h3, h4, h5, h6, h7, h8, h9, h10, h11, h12, h13, hik, hi0, hi1⟩ := hJ
  obtain ⟨y2, e2, p2⟩ := s_X9_terms (S 14) a1 a2 h14 
  obtain ⟨y1, e1, p1⟩ := s_X8_terms (S 0) (S 4) (S 5) (S 11) a1 a2 (rfl : IvX8 (gR (S 0) 7) (S 0)) h4 h5 h11
  exact ⟨y2, e2, y1, e1, ⟨⟨p2.1, ((p2.2.1 20 (by decide)).trans h20)⟩, hpl, h1, h2, h3, p1.2.2.1, p1.2.2.2.2.1, h6, h7, h8, h9, h10, p1.2.2.2.2.2.2.1, h12, h13, (IK.eq p1.1 hik), hi0, hi1⟩⟩
theorem okp_6 : ok_6 JI := by
  intro S pl im0 im1 a1 a2 a3 a4 a5 hJ
  obtain ⟨⟨h14, h20⟩, hpl, h1, h2, h3, h4, h5, h6, h7, h8, h9, h10, h11, h12, h13, hik, hi0, hi1⟩ := hJ
  obtain ⟨y2, e2, p2⟩ := s_X9_feed (S 14) a1 a2 a3 a4 a5 h14 
  obtain ⟨y1, e1, p1⟩ := s_X8_feed (S 0) (S 1) a1 a2 a3 a4 a5 (rfl : IvX8 (gR (S 0) 7) (S 0)) h1
  exact ⟨y2, e2, y1, e1, ⟨⟨p2.2.1, ((p2.2.2.1 20 (by decide)).trans h20)⟩, hpl, p1.2.1, h2, h3, h4, h5, h6, h7, h8, h9, h10, h11, h12, h13, hik, hi0, hi1⟩⟩
theorem okp_7 : ok_7 JI := by
  intro S pl im0 im1 a1 hJ
  obtain ⟨⟨h14, h20⟩, hpl, h1, h2, h3, h4, h5, h6, h7, h8, h9, h10, h11, h12, h13, hik, hi0, hi1⟩ := hJ
  obtain ⟨y2, e2, p2⟩ := s_X9_end (S 14) a1 h14 
  obtain ⟨y1, e1, p1⟩ := s_X8_end (S 0) (S 1) a1 (rfl : IvX8 (gR (S 0) 7) (S 0)) h1
  exact ⟨y2, e2, y1, e1, ⟨⟨p2.2.1, ((p2.2.2.1 20 (by decide)).trans h20)⟩, hpl, p1.2.1, h2, h3, h4, h5, h6, h7, h8, h9, h10, h11, h12, h13, hik, hi0, hi1⟩⟩
theorem okp_8 : ok_8 JI := by
  intro S pl im0 im1  hJ
  obtain ⟨⟨h14, h20⟩, hpl, h1, h2, h3, h4, h5, h6, h7, h8, h9, h10, h11, h12, h13, hik, hi0, hi1⟩ := hJ
  obtain ⟨y2, e2, p2⟩ := s_X9_row (S 14)  h14 
  obtain ⟨y1, e1, p1⟩ := s_X8_row (S 0) (S 1) (S 4)  (rfl : IvX8 (gR (S 0) 7) (S 0)) h1 h4
  exact ⟨y2, e2, y1, e1, ⟨⟨p2.1, ((p2.2.1 20 (by decide)).trans h20)⟩, hpl, p1.2.2.1, h2, h3, p1.2.2.2.2.1, h5, h6, h7, h8, h9, h10, h11, h12, h13, (IK.eq p1.1 hik), hi0, hi1⟩⟩
theorem okp_9 : ok_9 JI := by
  intro S pl im0 im1  hJ
  obtain ⟨⟨h14, h20⟩, hpl, h1, h2, h3, h4, h5, h6, h7, h8, h9, h10, h11, h12, h13, hik, hi0, hi1⟩ := hJ
  obtain ⟨y2, e2, p2⟩ := s_X9_blots (S 14)  h14 
  obtain ⟨y1, e1, p1⟩ := s_X8_blots (S 0)  (rfl : IvX8 (gR (S 0) 7) (S 0))
  exact ⟨y2, e2, y1, e1, ⟨⟨p2.1, ((p2.2.1 20 (by decide)).trans h20)⟩, hpl, h1, h2, h3, h4, h5, h6, h7, h8, h9, h10, h11, h12, h13, hik, hi0, hi1⟩⟩
theorem okp_10 : ok_10 JI := by
  intro S pl im0 im1 hJ
  obtain ⟨⟨h14, h20⟩, hpl, h1, h2, h3, h4, h5, h6, h7, h8, h9, h10, h11, h12, h13, hik, hi0, hi1⟩ := hJ
  obtain ⟨y2, e2, p2⟩ := s_X9_law (S 14)  h14 ⟨by rw [h20]; decide, by rw [h20]; decide⟩
  refine ⟨y2, e2, ?_⟩
  by_cases c1 : (gI (S 4) 9) < (6 : Int32)
  · obtain ⟨z1, ez1, -, g1, -, g2, -⟩ := s_X6_readText (S 1) (S 2) 1 h1 h2 ⟨by decide, by decide⟩
    have hI1 : IvX6 (sI z1.2.1 2 0) := ipX6_2 g1 ⟨by decide, by decide⟩
    by_cases c2 : z1.1 = 0
    · obtain ⟨z3, ez3, g3, -⟩ := s_X8_refuse (S 0) (-6) (rfl : IvX8 (gR (S 0) 7) (S 0))
      refine Or.inl ⟨(z3.1, z3.2, sI z1.2.1 2 0, z1.2.2), ?_, ⟨⟨p2.1, p2.2.2⟩, hpl, hI1, g2, h3, h4, h5, h6, h7, h8, h9, h10, h11, h12, h13, IK.eq g3 hik, hi0, hi1⟩⟩
      unfold f_X8_law_R
      rw [if_pos c1, ez1]
      show (if z1.1 = (0 : Int32) then ((f_X8_refuse (S 0) (-6 : Int32)).bind fun z3 => some (z3.1, z3.2, sI z1.2.1 2 0, z1.2.2)) else none) = _
      rw [if_pos c2, ez3]; rfl
    · obtain ⟨oc, eoc, hoc⟩ := h_kept z1.2.2 g2
      refine Or.inr ⟨(S 0, sI z1.2.1 2 0, z1.2.2, S 4), ?_, oc, eoc, fun a q k _ => ?_, fun x hx => ?_⟩
      · unfold f_X8_law_a
        rw [if_pos c1, ez1]
        show (if z1.1 = (0 : Int32) then none else some (S 0, sI z1.2.1 2 0, z1.2.2, S 4)) = _
        rw [if_neg c2]
      · obtain ⟨y, ey, -⟩ := h_lawb pl (a, q, k, (gI z1.2.2 7).toNatClampNeg, (gI z1.2.2 8).toNatClampNeg, oc) hpl hoc (S 0) (S 4) h4
        exact ⟨y, ey⟩
      · obtain ⟨y, ey, q1, q2⟩ := h_lawb pl (x.1, x.2.1, x.2.2.1, (gI z1.2.2 7).toNatClampNeg, (gI z1.2.2 8).toNatClampNeg, oc) hpl hoc (S 0) (S 4) h4
        have exy : y = x.2.2.2 := Option.some.inj (ey.symm.trans hx.2)
        rw [exy] at q1 q2
        exact ⟨⟨p2.1, p2.2.2⟩, hpl.app hoc, hI1, g2, h3, q2, h5, h6, h7, h8.app, h9, h10, h11, h12, h13, IK.eq q1 hik, fun r hr => ⟨(hi0 r hr).1.app, (hi0 r hr).2⟩, fun r hr => ⟨(hi1 r hr).1.app, (hi1 r hr).2⟩⟩
  · obtain ⟨z5, ez5, g5, -⟩ := s_X8_refuse (S 0) (-5) (rfl : IvX8 (gR (S 0) 7) (S 0))
    have hI1 : IvX6 (sI (S 1) 2 0) := ipX6_2 h1 ⟨by decide, by decide⟩
    refine Or.inl ⟨(z5.1, z5.2, sI (S 1) 2 0, S 2), ?_, ⟨⟨p2.1, p2.2.2⟩, hpl, hI1, h2, h3, h4, h5, h6, h7, h8, h9, h10, h11, h12, h13, IK.eq g5 hik, hi0, hi1⟩⟩
    unfold f_X8_law_R
    rw [if_neg c1]
    show ((f_X8_refuse (S 0) (-5 : Int32)).bind fun z5 => some (z5.1, z5.2, sI (S 1) 2 0, S 2)) = _
    rw [ez5]; rfl
theorem okp_11 : ok_11 JI := by
  intro S pl im0 im1  hJ
  obtain ⟨⟨h14, h20⟩, hpl, h1, h2, h3, h4, h5, h6, h7, h8, h9, h10, h11, h12, h13, hik, hi0, hi1⟩ := hJ
  obtain ⟨y2, e2, p2⟩ := s_X9_orders (S 14)  h14 ⟨by rw [h20]; decide, by rw [h20]; decide⟩
  obtain ⟨y1, e1, p1⟩ := s_X8_orders (S 0) (S 1) (S 2) (S 3) (S 4) (S 5) (S 6) (S 11) (S 12) (S 13) pl  (rfl : IvX8 (gR (S 0) 7) (S 0)) h1 h2 h3 h4 h5 h6 h11 h12 h13 hpl
  exact ⟨y2, e2, y1, e1, ⟨⟨p2.1, p2.2.2⟩, hpl, p1.2.2.1, p1.2.2.2.2.1, p1.2.2.2.2.2.2.1, h4, p1.2.2.2.2.2.2.2.2.1, p1.2.2.2.2.2.2.2.2.2.2.1, h7, h8, h9, h10, p1.2.2.2.2.2.2.2.2.2.2.2.2.1, p1.2.2.2.2.2.2.2.2.2.2.2.2.2.2.1, p1.2.2.2.2.2.2.2.2.2.2.2.2.2.2.2.2.1, (IK.eq p1.1 hik), hi0, hi1⟩⟩
theorem okp_12 : ok_12 JI := by
  intro S pl im0 im1  hJ
  obtain ⟨⟨h14, h20⟩, hpl, h1, h2, h3, h4, h5, h6, h7, h8, h9, h10, h11, h12, h13, hik, hi0, hi1⟩ := hJ
  obtain ⟨y2, e2, p2⟩ := s_X9_fault (S 14)  h14 
  obtain ⟨y1, e1, p1⟩ := s_X8_fault (S 0) (S 1)  (rfl : IvX8 (gR (S 0) 7) (S 0)) h1
  exact ⟨y2, e2, y1, e1, ⟨⟨p2.1, ((p2.2.1 20 (by decide)).trans h20)⟩, hpl, h1, h2, h3, h4, h5, h6, h7, h8, h9, h10, h11, h12, h13, hik, hi0, hi1⟩⟩
theorem okp_13 : ok_13 JI := by
  intro S pl im0 im1  hJ
  obtain ⟨⟨h14, h20⟩, hpl, h1, h2, h3, h4, h5, h6, h7, h8, h9, h10, h11, h12, h13, hik, hi0, hi1⟩ := hJ
  obtain ⟨y2, e2, p2⟩ := s_X9_stopped (S 14)  h14 
  obtain ⟨y1, e1, p1⟩ := s_X8_stopped (S 0)  (rfl : IvX8 (gR (S 0) 7) (S 0))
  exact ⟨y2, e2, y1, e1, ⟨⟨p2.1, ((p2.2.1 20 (by decide)).trans h20)⟩, hpl, h1, h2, h3, h4, h5, h6, h7, h8, h9, h10, h11, h12, h13, hik, hi0, hi1⟩⟩
theorem okp_14 : ok_14 JI := by
  intro S pl im0 im1 a1 hJ
  obtain ⟨⟨h14, h20⟩, hpl, h1, h2, h3, h4, h5, h6, h7, h8, h9, h10, h11, h12, h13, hik, hi0, hi1⟩ := hJ
  obtain ⟨y2, e2, p2⟩ := s_X9_force (S 14) a1 h14 
  obtain ⟨y1, e1, p1⟩ := s_X8_force (S 0) (S 4) a1 (rfl : IvX8 (gR (S 0) 7) (S 0)) h4
  exact ⟨y2, e2, y1, e1, ⟨⟨p2.2.1, ((p2.2.2.1 20 (by decide)).trans h20)⟩, hpl, h1, h2, h3, p1.2.2.1, h5, h6, h7, h8, h9, h10, h11, h12, h13, (IK.eq p1.1 hik), hi0, hi1⟩⟩
theorem okp_15 : ok_15 JI := by
  intro S pl im0 im1 a1 hJ
  obtain ⟨⟨h14, h20⟩, hpl, h1, h2, h3, h4, h5, h6, h7, h8, h9, h10, h11, h12, h13, hik, hi0, hi1⟩ := hJ
  obtain ⟨y2, e2, p2⟩ := s_X9_race (S 14) a1 h14 ⟨by rw [h20]; decide, by rw [h20]; decide⟩
  obtain ⟨y1, e1, p1⟩ := s_X8_race (S 0) (S 3) (S 4) (S 5) (S 6) (S 11) pl a1 (rfl : IvX8 (gR (S 0) 7) (S 0)) h3 h4 h5 h6 h11 hpl
  exact ⟨y2, e2, y1, e1, ⟨⟨p2.2.1, ((p2.2.2.1 20 (by decide)).trans h20)⟩, hpl, h1, h2, p1.2.2.1, h4, p1.2.2.2.2.1, p1.2.2.2.2.2.2.1, h7, h8, h9, h10, p1.2.2.2.2.2.2.2.2.1, h12, h13, (IK.eq p1.1 hik), hi0, hi1⟩⟩
theorem okp_16 : ok_16 JI := by
  intro S pl im0 im1 a1 hJ
  obtain ⟨⟨h14, h20⟩, hpl, h1, h2, h3, h4, h5, h6, h7, h8, h9, h10, h11, h12, h13, hik, hi0, hi1⟩ := hJ
  obtain ⟨y2, e2, p2⟩ := s_X9_enter (S 14) a1 h14 ⟨by rw [h20]; decide, by rw [h20]; decide⟩
  obtain ⟨y1, e1, p1⟩ := s_X8_enter (S 0) (S 3) (S 4) (S 5) (S 6) (S 11) pl a1 (rfl : IvX8 (gR (S 0) 7) (S 0)) h3 h4 h5 h6 h11 hpl
  exact ⟨y2, e2, y1, e1, ⟨⟨p2.2.1, ((p2.2.2.1 20 (by decide)).trans h20)⟩, hpl, h1, h2, p1.2.2.1, h4, p1.2.2.2.2.1, p1.2.2.2.2.2.2.1, h7, h8, h9, h10, p1.2.2.2.2.2.2.2.2.1, h12, h13, (IK.eq p1.1 hik), hi0, hi1⟩⟩
theorem okp_17 : ok_17 JI := by
  intro S pl im0 im1 a1 hJ
  obtain ⟨⟨h14, h20⟩, hpl, h1, h2, h3, h4, h5, h6, h7, h8, h9, h10, h11, h12, h13, hik, hi0, hi1⟩ := hJ
  obtain ⟨y2, e2, p2⟩ := s_X9_take (S 14) a1 h14 
  obtain ⟨y1, e1, p1⟩ := s_X8_take (S 0) (S 3) (S 4) (S 5) (S 6) (S 11) pl a1 (rfl : IvX8 (gR (S 0) 7) (S 0)) h3 h4 h5 h6 h11 hpl
  exact ⟨y2, e2, y1, e1, ⟨⟨p2.2.1, ((p2.2.2.1 20 (by decide)).trans h20)⟩, hpl, h1, h2, p1.2.2.1, h4, p1.2.2.2.2.1, p1.2.2.2.2.2.2.1, h7, h8, h9, h10, p1.2.2.2.2.2.2.2.2.1, h12, h13, (IK.eq p1.1 hik), hi0, hi1⟩⟩
theorem okp_18 : ok_18 JI := by
  intro S pl im0 im1  hJ
  obtain ⟨⟨h14, h20⟩, hpl, h1, h2, h3, h4, h5, h6, h7, h8, h9, h10, h11, h12, h13, hik, hi0, hi1⟩ := hJ
  obtain ⟨y2, e2, p2⟩ := s_X9_pass (S 14)  h14 ⟨by rw [h20]; decide, by rw [h20]; decide⟩
  obtain ⟨y1, e1, p1⟩ := s_X8_pass (S 0) (S 3) (S 4) (S 5) (S 6) (S 11) pl  (rfl : IvX8 (gR (S 0) 7) (S 0)) h3 h4 h5 h6 h11 hpl
  exact ⟨y2, e2, y1, e1, ⟨⟨p2.2.1, ((p2.2.2.1 20 (by decide)).trans h20)⟩, hpl, h1, h2, p1.2.2.1, h4, p1.2.2.2.2.1, p1.2.2.2.2.2.2.1, h7, h8, h9, h10, p1.2.2.2.2.2.2.2.2.1, h12, h13, (IK.eq p1.1 hik), hi0, hi1⟩⟩
theorem okp_19 : ok_19 JI := by
  intro S pl im0 im1  hJ
  obtain ⟨⟨h14, h20⟩, hpl, h1, h2, h3, h4, h5, h6, h7, h8, h9, h10, h11, h12, h13, hik, hi0, hi1⟩ := hJ
  obtain ⟨y2, e2, p2⟩ := s_X9_undo (S 14)  h14 
  obtain ⟨y1, e1, p1⟩ := s_X8_undo (S 0) (S 4) (S 5) (S 11)  (rfl : IvX8 (gR (S 0) 7) (S 0)) h4 h5 h11
  exact ⟨y2, e2, y1, e1, ⟨⟨p2.2.1, ((p2.2.2.1 20 (by decide)).trans h20)⟩, hpl, h1, h2, h3, h4, p1.2.2.1, h6, h7, h8, h9, h10, p1.2.2.2.2.1, h12, h13, (IK.eq p1.1 hik), hi0, hi1⟩⟩
theorem okp_20 : ok_20 JI := by
  intro S pl im0 im1 a1 a2 a3 a4 hJ
  obtain ⟨⟨h14, h20⟩, hpl, h1, h2, h3, h4, h5, h6, h7, h8, h9, h10, h11, h12, h13, hik, hi0, hi1⟩ := hJ
  obtain ⟨y2, e2, p2⟩ := s_X9_be (S 14) a1 a2 a3 a4 h14 ⟨by rw [h20]; decide, by rw [h20]; decide⟩
  obtain ⟨y1, e1, p1⟩ := s_X8_be (S 0) (S 3) (S 4) (S 5) (S 6) (S 7) pl a1 a2 a3 a4 (rfl : IvX8 (gR (S 0) 7) (S 0)) h3 h4 h5 h6 h7 hpl
  exact ⟨y2, e2, y1, e1, ⟨⟨p2.1, ((p2.2.1 20 (by decide)).trans h20)⟩, hpl, h1, h2, p1.1, h4, h5, h6, p1.2.2.1, h8, h9, h10, h11, h12, h13, hik, hi0, hi1⟩⟩
theorem okp_21 : ok_21 JI := by
  intro S pl im0 im1 a1 a2 hJ
  obtain ⟨⟨h14, h20⟩, hpl, h1, h2, h3, h4, h5, h6, h7, h8, h9, h10, h11, h12, h13, hik, hi0, hi1⟩ := hJ
  obtain ⟨y2, e2, p2⟩ := s_X9_seen (S 14) a1 a2 h14 
  obtain ⟨y1, e1, p1⟩ := s_X8_seen (S 0) (S 4) a1 a2 (rfl : IvX8 (gR (S 0) 7) (S 0)) h4
  exact ⟨y2, e2, y1, e1, ⟨⟨p2.2.1, ((p2.2.2.1 20 (by decide)).trans h20)⟩, hpl, h1, h2, h3, p1.2.2.1, h5, h6, h7, h8, h9, h10, h11, h12, h13, (IK.eq p1.1 hik), hi0, hi1⟩⟩
theorem okp_22 : ok_22 JI := by
  intro S pl im0 im1  hJ
  obtain ⟨⟨h14, h20⟩, hpl, h1, h2, h3, h4, h5, h6, h7, h8, h9, h10, h11, h12, h13, hik, hi0, hi1⟩ := hJ
  obtain ⟨y2, e2, p2⟩ := s_X9_forget (S 14)  h14 
  obtain ⟨y1, e1, p1⟩ := s_X8_forget (S 0) (S 4)  (rfl : IvX8 (gR (S 0) 7) (S 0)) h4
  exact ⟨y2, e2, y1, e1, ⟨⟨p2.2.1, ((p2.2.2.1 20 (by decide)).trans h20)⟩, hpl, h1, h2, h3, p1.2.1, h5, h6, h7, h8, h9, h10, h11, h12, h13, hik, hi0, hi1⟩⟩
theorem okp_23 : ok_23 JI := by
  intro S pl im0 im1  hJ
  obtain ⟨⟨h14, h20⟩, hpl, h1, h2, h3, h4, h5, h6, h7, h8, h9, h10, h11, h12, h13, hik, hi0, hi1⟩ := hJ
  obtain ⟨y2, e2, p2⟩ := s_X9_canBe (S 14)  h14 ⟨by rw [h20]; decide, by rw [h20]; decide⟩
  obtain ⟨y1, e1, p1⟩ := s_X8_canBe (S 0) (S 3) (S 4) (S 5) (S 6) (S 7) pl  (rfl : IvX8 (gR (S 0) 7) (S 0)) h3 h4 h5 h6 h7 hpl
  exact ⟨y2, e2, y1, e1, ⟨⟨p2.2.1, ((p2.2.2.1 20 (by decide)).trans h20)⟩, hpl, h1, h2, p1.2.1, h4, h5, h6, h7, h8, h9, h10, h11, h12, h13, hik, hi0, hi1⟩⟩
theorem okp_24 : ok_24 JI := by
  intro S pl im0 im1 a1 hJ
  obtain ⟨⟨h14, h20⟩, hpl, h1, h2, h3, h4, h5, h6, h7, h8, h9, h10, h11, h12, h13, hik, hi0, hi1⟩ := hJ
  obtain ⟨y2, e2, p2⟩ := s_X9_look (S 14) a1 h14 ⟨by rw [h20]; decide, by rw [h20]; decide⟩
  obtain ⟨y1, e1, p1⟩ := s_X8_look (S 0) (S 3) (S 4) (S 5) (S 6) (S 7) pl a1 (rfl : IvX8 (gR (S 0) 7) (S 0)) h3 h4 h5 h6 h7 hpl
  exact ⟨y2, e2, y1, e1, ⟨⟨p2.2.1, ((p2.2.2.1 20 (by decide)).trans h20)⟩, hpl, h1, h2, p1.1, h4, h5, h6, p1.2.2.1, h8, h9, h10, h11, h12, h13, hik, hi0, hi1⟩⟩
theorem okp_25 : ok_25 JI := by
  intro S pl im0 im1 a1 hJ
  obtain ⟨⟨h14, h20⟩, hpl, h1, h2, h3, h4, h5, h6, h7, h8, h9, h10, h11, h12, h13, hik, hi0, hi1⟩ := hJ
  obtain ⟨y2, e2, p2⟩ := s_X9_ranking (S 14) a1 h14 
  obtain ⟨y1, e1, p1⟩ := s_X8_ranking (S 0) (S 4) (S 7) a1 (rfl : IvX8 (gR (S 0) 7) (S 0)) h4 h7
  exact ⟨y2, e2, y1, e1, ⟨⟨p2.1, ((p2.2.1 20 (by decide)).trans h20)⟩, hpl, h1, h2, h3, h4, h5, h6, p1.1, h8, h9, h10, h11, h12, h13, hik, hi0, hi1⟩⟩
theorem okp_26 : ok_26 JI := by
  intro S pl im0 im1  hJ
  obtain ⟨⟨h14, h20⟩, hpl, h1, h2, h3, h4, h5, h6, h7, h8, h9, h10, h11, h12, h13, hik, hi0, hi1⟩ := hJ
  obtain ⟨y2, e2, p2⟩ := s_X9_circles (S 14)  h14 
  obtain ⟨y1, e1, p1⟩ := s_X8_circles (S 0) (S 4) (S 7)  (rfl : IvX8 (gR (S 0) 7) (S 0)) h4 h7
  exact ⟨y2, e2, y1, e1, ⟨⟨p2.1, ((p2.2.1 20 (by decide)).trans h20)⟩, hpl, h1, h2, h3, h4, h5, h6, h7, h8, h9, h10, h11, h12, h13, hik, hi0, hi1⟩⟩
theorem okp_27 : ok_27 JI := by
  intro S pl im0 im1 a1 hJ
  obtain ⟨⟨h14, h20⟩, hpl, h1, h2, h3, h4, h5, h6, h7, h8, h9, h10, h11, h12, h13, hik, hi0, hi1⟩ := hJ
  obtain ⟨y2, e2, p2⟩ := s_X9_crowned (S 14) a1 h14 ⟨by rw [h20]; decide, by rw [h20]; decide⟩
  obtain ⟨y1, e1, p1⟩ := s_X8_crowned (S 0) (S 3) (S 4) (S 5) (S 6) (S 7) pl a1 (rfl : IvX8 (gR (S 0) 7) (S 0)) h3 h4 h5 h6 h7 hpl
  exact ⟨y2, e2, y1, e1, ⟨⟨p2.1, ((p2.2.1 20 (by decide)).trans h20)⟩, hpl, h1, h2, p1.1, h4, h5, h6, p1.2.2.1, h8, h9, h10, h11, h12, h13, hik, hi0, hi1⟩⟩
theorem okp_28 : ok_28 JI := by
  intro S pl im0 im1 a1 hJ
  obtain ⟨⟨h14, h20⟩, hpl, h1, h2, h3, h4, h5, h6, h7, h8, h9, h10, h11, h12, h13, hik, hi0, hi1⟩ := hJ
  obtain ⟨y2, e2, p2⟩ := s_X9_heir (S 14) a1 h14 
  obtain ⟨y1, e1, p1⟩ := s_X8_heir (S 0) (S 4) (S 7) a1 (rfl : IvX8 (gR (S 0) 7) (S 0)) h4 h7
  exact ⟨y2, e2, y1, e1, ⟨⟨p2.2.1, ((p2.2.2.1 20 (by decide)).trans h20)⟩, hpl, h1, h2, h3, h4, h5, h6, p1.2.1, h8, h9, h10, h11, h12, h13, hik, hi0, hi1⟩⟩
theorem okp_29 : ok_29 JI := by
  intro S pl im0 im1 a1 a2 hJ
  obtain ⟨⟨h14, h20⟩, hpl, h1, h2, h3, h4, h5, h6, h7, h8, h9, h10, h11, h12, h13, hik, hi0, hi1⟩ := hJ
  obtain ⟨y2, e2, p2⟩ := s_X9_ladder (S 14) a1 a2 h14 
  obtain ⟨y1, e1, p1⟩ := s_X8_ladder (S 0) (S 7) a1 a2 (rfl : IvX8 (gR (S 0) 7) (S 0)) h7
  exact ⟨y2, e2, y1, e1, ladder_eq _ _ _ _ _ _ _ e2 e1, ⟨⟨p2.1, ((p2.2.1 20 (by decide)).trans h20)⟩, hpl, h1, h2, h3, h4, h5, h6, p1.1, h8, h9, h10, h11, h12, h13, hik, hi0, hi1⟩⟩
theorem okp_30 : ok_30 JI := by
  intro S pl im0 im1  hJ
  obtain ⟨⟨h14, h20⟩, hpl, h1, h2, h3, h4, h5, h6, h7, h8, h9, h10, h11, h12, h13, hik, hi0, hi1⟩ := hJ
  obtain ⟨y2, e2, p2⟩ := s_X9_never (S 14)  h14 ⟨by rw [h20]; decide, by rw [h20]; decide⟩
  obtain ⟨y1, e1, p1⟩ := s_X8_never (S 0) (S 3) (S 4) (S 5) (S 6) (S 7) pl  (rfl : IvX8 (gR (S 0) 7) (S 0)) h3 h4 h5 h6 h7 hpl
  exact ⟨y2, e2, y1, e1, ⟨⟨p2.1, ((p2.2.1 20 (by decide)).trans h20)⟩, hpl, h1, h2, p1.1, h4, h5, h6, p1.2.2.1, h8, h9, h10, h11, h12, h13, hik, hi0, hi1⟩⟩
theorem okp_31 : ok_31 JI := by
  intro S pl im0 im1 a1 a2 hJ
  obtain ⟨⟨h14, h20⟩, hpl, h1, h2, h3, h4, h5, h6, h7, h8, h9, h10, h11, h12, h13, hik, hi0, hi1⟩ := hJ
  obtain ⟨y2, e2, p2⟩ := s_X9_few (S 14) a1 a2 h14 
  obtain ⟨y1, e1, p1⟩ := s_X8_few (S 0) (S 4) (S 7) a1 a2 (rfl : IvX8 (gR (S 0) 7) (S 0)) h4 h7
  exact ⟨y2, e2, y1, e1, ⟨⟨p2.1, ((p2.2.1 20 (by decide)).trans h20)⟩, hpl, h1, h2, h3, h4, h5, h6, p1.1, h8, h9, h10, h11, h12, h13, hik, hi0, hi1⟩⟩
theorem okp_32 : ok_32 JI := by
  intro S pl im0 im1 a1 a2 hJ
  obtain ⟨⟨h14, h20⟩, hpl, h1, h2, h3, h4, h5, h6, h7, h8, h9, h10, h11, h12, h13, hik, hi0, hi1⟩ := hJ
  obtain ⟨y2, e2, p2⟩ := s_X9_compare (S 14) a1 a2 h14 ⟨by rw [h20]; decide, by rw [h20]; decide⟩
  obtain ⟨y1, e1, p1⟩ := s_X8_compare (S 0) (S 3) (S 4) (S 5) (S 6) pl a1 a2 (rfl : IvX8 (gR (S 0) 7) (S 0)) h3 h4 h5 h6 hpl
  exact ⟨y2, e2, y1, e1, ⟨⟨p2.2.1, ((p2.2.2.1 20 (by decide)).trans h20)⟩, hpl, h1, h2, p1.2.1, h4, h5, p1.2.2.2.1, h7, h8, h9, h10, h11, h12, h13, hik, hi0, hi1⟩⟩
theorem okp_33 : ok_33 JI := by
  intro S pl im0 im1 a1 a2 hJ
  obtain ⟨⟨h14, h20⟩, hpl, h1, h2, h3, h4, h5, h6, h7, h8, h9, h10, h11, h12, h13, hik, hi0, hi1⟩ := hJ
  obtain ⟨y2, e2, p2⟩ := s_X9_centuries (S 14) a1 a2 h14 ⟨by rw [h20]; decide, by rw [h20]; decide⟩
  obtain ⟨y1, e1, p1⟩ := s_X8_centuries (S 0) (S 3) (S 4) (S 5) (S 8) (S 9) (S 10) pl a1 a2 (rfl : IvX8 (gR (S 0) 7) (S 0)) h3 h4 h5 h8 h9 h10 hpl
  exact ⟨y2, e2, y1, e1, ⟨⟨p2.2.1, ((p2.2.2.1 20 (by decide)).trans h20)⟩, hpl, h1, h2, p1.2.2.1, h4, h5, h6, h7, p1.2.2.2.2.1, p1.2.2.2.2.2.2.1, p1.2.2.2.2.2.2.2.2.1, h11, h12, h13, (IK.eq p1.1 hik), hi0, hi1⟩⟩
theorem okp_34 : ok_34 JI := by
  intro S pl im0 im1 a1 a2 hJ
  obtain ⟨⟨h14, h20⟩, hpl, h1, h2, h3, h4, h5, h6, h7, h8, h9, h10, h11, h12, h13, hik, hi0, hi1⟩ := hJ
  obtain ⟨y2, e2, p2⟩ := s_X9_drawn (S 14) a1 a2 h14 
  obtain ⟨y1, e1, p1⟩ := s_X8_drawn (S 0) (S 8) (S 9) a1 a2 (rfl : IvX8 (gR (S 0) 7) (S 0)) h8 h9
  exact ⟨y2, e2, y1, e1, ⟨⟨p2.1, ((p2.2.1 20 (by decide)).trans h20)⟩, hpl, h1, h2, h3, h4, h5, h6, h7, h8, h9, h10, h11, h12, h13, hik, hi0, hi1⟩⟩
theorem okp_35 : ok_35 JI := by
  intro S pl im0 im1 a1 hJ
  obtain ⟨⟨h14, h20⟩, hpl, h1, h2, h3, h4, h5, h6, h7, h8, h9, h10, h11, h12, h13, hik, hi0, hi1⟩ := hJ
  obtain ⟨y2, e2, p2⟩ := s_X9_image (S 14) a1 h14 
  refine ⟨y2, e2, ?_⟩
  obtain ⟨z1, ez1, g1, -⟩ := s_X8_refuse (S 0) (-1) (rfl : IvX8 (gR (S 0) 7) (S 0))
  have href : ∀ q : Int32 × Ob, bk_X8_image_R_9 (S 0) = some (z1.1, z1.2) := by
    intro _
    unfold bk_X8_image_R_9
    rw [ez1]; rfl
  by_cases c1 : a1 < (0 : Int32)
  · refine Or.inl ⟨(z1.1, z1.2), ?_, ⟨⟨p2.1, ((p2.2.1 20 (by decide)).trans h20)⟩, hpl, h1, h2, h3, h4, h5, h6, h7, h8, h9, h10, h11, h12, h13, IK.eq g1 hik, hi0, hi1⟩⟩
    unfold f_X8_image_R
    rw [if_pos c1]; exact href z1
  by_cases c2 : a1 < (2 : Int32)
  rotate_left
  · refine Or.inl ⟨(z1.1, z1.2), ?_, ⟨⟨p2.1, ((p2.2.1 20 (by decide)).trans h20)⟩, hpl, h1, h2, h3, h4, h5, h6, h7, h8, h9, h10, h11, h12, h13, IK.eq g1 hik, hi0, hi1⟩⟩
    unfold f_X8_image_R
    rw [if_neg c1, if_neg c2]; exact href z1
  have d1 := cv_nlt (a := a1.toInt) (b := 0) rfl (by decide) c1
  have d2 := cv_lt (a := a1.toInt) (b := 2) rfl (by decide) c2
  have hz : zin a1 2 = true := zin_of (m := 2) rfl (by omega) (by omega)
  have hn : a1.toNatClampNeg < 2 := by
    have e : a1.toNatClampNeg = a1.toInt.toNat := rfl
    rw [e]; omega
  have himO : ∀ oi on : Ob, IvX2 pl oi → IvX4 on → ∃ y1 : Int32 × Ob × Ob × Ob, f_X8_image_O (S 0) (S 4) (S 5) pl oi on a1 = some y1 ∧ IvX8 (gR (S 0) 7) y1.2.1 ∧ IvX2 pl y1.2.2.1 ∧ IvX4 y1.2.2.2 := by
    intro oi on hoi hon
    obtain ⟨z4, e4, q1, -, q2, -⟩ := s_X2_set_O oi on pl (S 4) (S 5) hoi hon hpl h4 h5
    obtain ⟨z5, e5, q3, -⟩ := s_X8_grant (S 0) 0 (rfl : IvX8 (gR (S 0) 7) (S 0))
    refine ⟨(z5.1, z5.2, z4.1, z4.2), ?_, q3, q1, q2⟩
    unfold f_X8_image_O
    rw [if_neg c1, if_pos c2, hz, e4]
    show ((f_X8_grant (S 0) 0).bind fun z5 => some (z5.1, z5.2, z4.1, z4.2)) = _
    rw [e5]; rfl
  have hima : f_X8_image_a (S 0) a1 = some () := by
    unfold f_X8_image_a
    rw [if_neg c1, if_pos c2, hz]; rfl
  have himb : ∀ a : Nat, ∃ y, f_X8_image_b (S 4) (S 5) pl (tR (S 0) 7 a1.toNatClampNeg (some a)) ob2 ob0 = some y ∧ IvX8 (gR (tR (S 0) 7 a1.toNatClampNeg (some a)) 7) y.2.1 ∧ IvX2 pl y.2.2.1 ∧ IvX4 y.2.2.2 := fun a => h_imgb pl hpl (S 4) (S 5) _ ob2 ob0 h4 h5 (iv2_0 pl) iv4_0
  rcases hik.2.1 a1.toNatClampNeg hn with q | ⟨r, er, q⟩ | ⟨r, er, q⟩
  · rcases hik.2.2.2 ⟨_, hn, q⟩ with e | e
    · subst e
      refine Or.inr (Or.inr (Or.inr (Or.inl ⟨rfl, q, hz, hima, fun a => ?_, fun x hx => ?_⟩)))
      · obtain ⟨y, ey, -⟩ := himb a; exact ⟨y, ey⟩
      · obtain ⟨y, ey, w1, w2, w3⟩ := himb x.1
        have exy : y = x.2.2.2.2.2.2 := Option.some.inj (ey.symm.trans hx)
        rw [exy] at w1 w2 w3
        refine ⟨⟨p2.1, ((p2.2.1 20 (by decide)).trans h20)⟩, hpl, h1, h2, h3, h4, h5, h6, h7, h8, h9, h10, h11, h12, h13, IK.eq w1 (IK.new0 (r := (x.1, x.2.1, x.2.2.1, x.2.2.2.1, x.2.2.2.2.1, x.2.2.2.2.2.1, x.2.2.2.2.2.2.2.2.1, x.2.2.2.2.2.2.2.2.2)) hik hn q), fun r hr => ?_, hi1⟩
        rw [← Option.some.inj hr]; exact ⟨w2, w3⟩
    · subst e
      refine Or.inr (Or.inr (Or.inr (Or.inr ⟨rfl, q, hz, hima, fun a => ?_, fun x hx => ?_⟩)))
      · obtain ⟨y, ey, -⟩ := himb a; exact ⟨y, ey⟩
      · obtain ⟨y, ey, w1, w2, w3⟩ := himb x.1
        have exy : y = x.2.2.2.2.2.2 := Option.some.inj (ey.symm.trans hx)
        rw [exy] at w1 w2 w3
        refine ⟨⟨p2.1, ((p2.2.1 20 (by decide)).trans h20)⟩, hpl, h1, h2, h3, h4, h5, h6, h7, h8, h9, h10, h11, h12, h13, IK.eq w1 (IK.new1 (r := (x.1, x.2.1, x.2.2.1, x.2.2.2.1, x.2.2.2.2.1, x.2.2.2.2.2.1, x.2.2.2.2.2.2.2.2.1, x.2.2.2.2.2.2.2.2.2)) hik hn q), hi0, fun r hr => ?_⟩
        rw [← Option.some.inj hr]; exact ⟨w2, w3⟩
  · obtain ⟨y1, ey1, w1, w2, w3⟩ := himO _ _ (hi0 r er).1 (hi0 r er).2
    subst er
    refine Or.inr (Or.inl ⟨r, rfl, q, y1, ey1, ⟨⟨p2.1, ((p2.2.1 20 (by decide)).trans h20)⟩, hpl, h1, h2, h3, h4, h5, h6, h7, h8, h9, h10, h11, h12, h13, IK.eq w1 (hik.rep0 rfl), fun r' hr => ?_, hi1⟩⟩)
    rw [← Option.some.inj hr]; exact ⟨w2, w3⟩
  · obtain ⟨y1, ey1, w1, w2, w3⟩ := himO _ _ (hi1 r er).1 (hi1 r er).2
    subst er
    refine Or.inr (Or.inr (Or.inl ⟨r, rfl, q, y1, ey1, ⟨⟨p2.1, ((p2.2.1 20 (by decide)).trans h20)⟩, hpl, h1, h2, h3, h4, h5, h6, h7, h8, h9, h10, h11, h12, h13, IK.eq w1 (hik.rep1 rfl), hi0, fun r' hr => ?_⟩⟩))
    rw [← Option.some.inj hr]; exact ⟨w2, w3⟩
theorem okp_36 : ok_36 JI := by
  intro S pl im0 im1 a1 hJ
  obtain ⟨⟨h14, h20⟩, hpl, h1, h2, h3, h4, h5, h6, h7, h8, h9, h10, h11, h12, h13, hik, hi0, hi1⟩ := hJ
  obtain ⟨y2, e2, p2⟩ := s_X9_back (S 14) a1 h14 
  refine ⟨y2, e2, ?_⟩
  obtain ⟨z1, ez1, g1, -⟩ := s_X8_refuse (S 0) (-1) (rfl : IvX8 (gR (S 0) 7) (S 0))
  have hn9 : bk_X8_back_N_9 (S 0) = some (z1.1, z1.2) := by
    unfold bk_X8_back_N_9
    rw [ez1]; rfl
  have hN : ∃ y1 : Int32 × Ob, f_X8_back_N (S 0) a1 = some y1 ∧ IvX8 (gR (S 0) 7) y1.2 := by
    unfold f_X8_back_N
    by_cases c1 : a1 < (0 : Int32)
    · rw [if_pos c1]; exact ⟨_, hn9, g1⟩
    · rw [if_neg c1]
      by_cases c2 : a1 < (2 : Int32)
      · have d1 := cv_nlt (a := a1.toInt) (b := 0) rfl (by decide) c1
        have d2 := cv_lt (a := a1.toInt) (b := 2) rfl (by decide) c2
        have hz : zin a1 2 = true := zin_of (m := 2) rfl (by omega) (by omega)
        obtain ⟨z3, ez3, g3, -⟩ := s_X8_refuse (S 0) (-2) (rfl : IvX8 (gR (S 0) 7) (S 0))
        rw [if_pos c2, hz, ez3]
        exact ⟨(z3.1, z3.2), rfl, g3⟩
      · rw [if_neg c2]; exact ⟨_, hn9, g1⟩
  have hO : ∀ oi on : Ob, IvX2 pl oi → IvX4 on → ∃ y1 : Int32 × Ob × Ob × Ob × Ob, f_X8_back_O (S 0) (S 4) (S 5) (S 11) pl oi on a1 = some y1 ∧ IvX8 (gR (S 0) 7) y1.2.1 ∧ IvX2 pl y1.2.2.1 ∧ IvX4 y1.2.2.2.1 ∧ IvX5 y1.2.2.2.2 := by
    intro oi on hoi hon
    have h9' : bk_X8_back_O_9 pl oi on (S 0) (S 4) (S 5) (S 11) = some (z1.1, z1.2, S 4, S 5, S 11) := by
      unfold bk_X8_back_O_9
      rw [ez1]; rfl
    unfold f_X8_back_O
    by_cases c1 : a1 < (0 : Int32)
    · rw [if_pos c1]; exact ⟨_, h9', g1, h4, h5, h11⟩
    · rw [if_neg c1]
      by_cases c2 : a1 < (2 : Int32)
      · have d1 := cv_nlt (a := a1.toInt) (b := 0) rfl (by decide) c1
        have d2 := cv_lt (a := a1.toInt) (b := 2) rfl (by decide) c2
        have hz : zin a1 2 = true := zin_of (m := 2) rfl (by omega) (by omega)
        obtain ⟨z4, e4, q1, -, q2, -⟩ := s_X2_set_O (S 4) (S 5) pl oi on h4 h5 hpl hoi hon
        obtain ⟨z5, e5, q3, -⟩ := s_X5_clear (S 11) h11
        obtain ⟨z6, e6, q4, -⟩ := s_X8_grant (S 0) 0 (rfl : IvX8 (gR (S 0) 7) (S 0))
        refine ⟨(z6.1, z6.2, z4.1, z4.2, z5), ?_, q4, q1, q2, q3⟩
        rw [if_pos c2, hz, e4]
        show ((f_X5_clear (S 11)).bind fun z5 => (f_X8_grant (S 0) 0).bind fun z6 => some (z6.1, z6.2, z4.1, z4.2, z5)) = _
        rw [e5]
        show ((f_X8_grant (S 0) 0).bind fun z6 => some (z6.1, z6.2, z4.1, z4.2, z5)) = _
        rw [e6]; rfl
      · rw [if_neg c2]; exact ⟨_, h9', g1, h4, h5, h11⟩
  have hcase : gR (S 0) 7 a1.toNatClampNeg = none ∨ (∃ r : IR, im0 = some r ∧ gR (S 0) 7 a1.toNatClampNeg = some r.1) ∨ (∃ r : IR, im1 = some r ∧ gR (S 0) 7 a1.toNatClampNeg = some r.1) := by
    rcases (show a1.toNatClampNeg < 2 ∨ 2 ≤ a1.toNatClampNeg by omega) with h | h
    · exact hik.2.1 _ h
    · exact Or.inl (hik.1 _ h)
  rcases hcase with q | ⟨r, er, q⟩ | ⟨r, er, q⟩
  · obtain ⟨y1, ey1, w1⟩ := hN
    exact Or.inl ⟨q, y1, ey1, ⟨⟨p2.1, ((p2.2.1 20 (by decide)).trans h20)⟩, hpl, h1, h2, h3, h4, h5, h6, h7, h8, h9, h10, h11, h12, h13, IK.eq w1 hik, hi0, hi1⟩⟩
  · obtain ⟨y1, ey1, w1, w2, w3, w4⟩ := hO _ _ (hi0 r er).1 (hi0 r er).2
    subst er
    exact Or.inr (Or.inl ⟨r, rfl, q, y1, ey1, ⟨⟨p2.1, ((p2.2.1 20 (by decide)).trans h20)⟩, hpl, h1, h2, h3, w2, w3, h6, h7, h8, h9, h10, w4, h12, h13, IK.eq w1 hik, hi0, hi1⟩⟩)
  · obtain ⟨y1, ey1, w1, w2, w3, w4⟩ := hO _ _ (hi1 r er).1 (hi1 r er).2
    subst er
    exact Or.inr (Or.inr ⟨r, rfl, q, y1, ey1, ⟨⟨p2.1, ((p2.2.1 20 (by decide)).trans h20)⟩, hpl, h1, h2, h3, w2, w3, h6, h7, h8, h9, h10, w4, h12, h13, IK.eq w1 hik, hi0, hi1⟩⟩)
theorem okp_37 : ok_37 JI := by
  intro S pl im0 im1 a1 hJ
  obtain ⟨⟨h14, h20⟩, hpl, h1, h2, h3, h4, h5, h6, h7, h8, h9, h10, h11, h12, h13, hik, hi0, hi1⟩ := hJ
  obtain ⟨y2, e2, p2⟩ := s_X9_count (S 14) a1 h14 
  obtain ⟨y1, e1, p1⟩ := s_X8_count (S 0) (S 1) (S 4) (S 5) (S 11) a1 (rfl : IvX8 (gR (S 0) 7) (S 0)) h1 h4 h5 h11
  exact ⟨y2, e2, y1, e1, ⟨⟨p2.1, ((p2.2.1 20 (by decide)).trans h20)⟩, hpl, h1, h2, h3, h4, h5, h6, h7, h8, h9, h10, h11, h12, h13, hik, hi0, hi1⟩⟩
theorem okp_38 : ok_38 JI := by
  intro S pl im0 im1  hJ
  obtain ⟨⟨h14, h20⟩, hpl, h1, h2, h3, h4, h5, h6, h7, h8, h9, h10, h11, h12, h13, hik, hi0, hi1⟩ := hJ
  obtain ⟨y2, e2, p2⟩ := s_X9_status (S 14)  h14 
  obtain ⟨y1, e1, p1⟩ := s_X8_status (S 0)  (rfl : IvX8 (gR (S 0) 7) (S 0))
  exact ⟨y2, e2, y1, e1, ⟨⟨p2.1, ((p2.2.1 20 (by decide)).trans h20)⟩, hpl, h1, h2, h3, h4, h5, h6, h7, h8, h9, h10, h11, h12, h13, hik, hi0, hi1⟩⟩
theorem okp_all : okS JI := ⟨okp_0, okp_1, okp_2, okp_3, okp_4, okp_5, okp_6, okp_7, okp_8, okp_9, okp_10, okp_11, okp_12, okp_13, okp_14, okp_15, okp_16, okp_17, okp_18, okp_19, okp_20, okp_21, okp_22, okp_23, okp_24, okp_25, okp_26, okp_27, okp_28, okp_29, okp_30, okp_31, okp_32, okp_33, okp_34, okp_35, okp_36, okp_37, okp_38⟩
def row0 : Nat → Int32 := upd (upd (fun _ => 0) (3 : Int32).toNatClampNeg (-1)) (5 : Int32).toNatClampNeg 1
theorem row0_z {j : Nat} (h3 : j ≠ 3) (h5 : j ≠ 5) : row0 j = 0 := by
  have n3 : (3 : Int32).toNatClampNeg = 3 := by decide
  have n5 : (5 : Int32).toNatClampNeg = 5 := by decide
  unfold row0
  rw [n3, n5, upd_n h5, upd_n h3]
theorem sg_row0 : sgd rowS row0 := by
  refine ⟨fun j h1 h2 => ?_, fun j h1 h2 => ?_, fun j h1 h2 => ?_, fun j h1 h2 => ?_, fun j h1 h2 => ?_, fun j h1 h2 => ?_, fun j h1 h2 => ?_, fun j h1 h2 => ?_, fun j h1 h2 => ?_, trivial⟩
  · rw [row0_z (by omega) (by omega)]; decide
  · rw [row0_z (by omega) (by omega)]; decide
  · rw [row0_z (by omega) (by omega)]; decide
  · have e : j = 3 := by omega
    subst e; exact (by decide : -1 ≤ (row0 3).toInt ∧ (row0 3).toInt ≤ 5)
  · rw [row0_z (by omega) (by omega)]; decide
  · rw [row0_z (by omega) (by omega)]; decide
  · rw [row0_z (by omega) (by omega)]; decide
  · rw [row0_z (by omega) (by omega)]; decide
  · rw [row0_z (by omega) (by omega)]; decide
theorem pw_0 (j : Nat) : PW rowS j 0 := by
  have h : ∀ s ∈ rowS, s.2.2.1 ≤ (0 : Int32).toInt ∧ (0 : Int32).toInt ≤ s.2.2.2 := by decide
  exact fun s hs _ _ => h s hs
theorem wl_0 {g : Nat → Int32} {s : Nat} (h : g (s + 1) = 0) : WL g s := by
  refine ⟨by rw [h]; decide, fun c hc => ?_⟩
  rw [h] at hc
  have z : (0 : Int32).toInt = 0 := by decide
  omega
theorem ex_0 : EX9 row0 (fun _ => 0) (fun _ => 0) (fun _ => 0) := ⟨fun l hl => wl_0 (row0_z (by omega) (by omega)), fun k hk => ⟨fun l hl => wl_0 rfl, fun j hj => pw_0 j⟩, fun k i hk hi => pw_0 _, fun k i hk hi => pw_0 _⟩
theorem iv9_0 : IvX9 (S0 14) := ⟨⟨by decide, by decide⟩, ⟨by decide, by decide⟩, ⟨by decide, by decide⟩, ⟨by decide, by decide⟩, ⟨by decide, by decide⟩, ⟨by decide, by decide⟩, ⟨by decide, by decide⟩, ⟨by decide, by decide⟩, ⟨by decide, by decide⟩, ⟨by decide, by decide⟩, ⟨by decide, by decide⟩, ⟨by decide, by decide⟩, ⟨by decide, by decide⟩, ⟨by decide, by decide⟩, ⟨by decide, by decide⟩, sg_row0, ⟨fun _ _ _ => (show 0 ≤ (0 : Int32).toInt ∧ (0 : Int32).toInt ≤ 3 by decide), trivial⟩, ⟨fun _ _ _ => (show 0 ≤ (0 : Int32).toInt ∧ (0 : Int32).toInt ≤ 3 by decide), trivial⟩, ⟨fun _ _ _ => (show 0 ≤ (0 : Int32).toInt ∧ (0 : Int32).toInt ≤ 6 by decide), trivial⟩, ⟨fun _ _ _ => (show (-1) ≤ (0 : Int32).toInt ∧ (0 : Int32).toInt ≤ 8 by decide), trivial⟩, ⟨fun _ _ _ => (show 0 ≤ (0 : Int32).toInt ∧ (0 : Int32).toInt ≤ 6 by decide), trivial⟩, ⟨fun _ _ _ => (show 0 ≤ (0 : Int32).toInt ∧ (0 : Int32).toInt ≤ 6 by decide), trivial⟩, ⟨ex_0, by decide, by decide⟩⟩
theorem ivX6_0 : IvX6 (S0 1) := ⟨⟨by decide, by decide⟩, ⟨by decide, by decide⟩, ⟨by decide, by decide⟩, ⟨by decide, by decide⟩, ⟨by decide, by decide⟩, ⟨by decide, by decide⟩, trivial⟩
theorem ivX1_0 : IvX1 (S0 6) := ⟨⟨by decide, by decide⟩, ⟨fun _ _ _ => (show 0 ≤ (0 : Int32).toInt ∧ (0 : Int32).toInt ≤ 6 by decide), trivial⟩, trivial⟩
theorem ivX7_0 : IvX7 (S0 7) := ⟨⟨fun _ _ _ => (show 0 ≤ (0 : Int32).toInt ∧ (0 : Int32).toInt ≤ 7 by decide), trivial⟩, ⟨fun _ _ _ => (show 0 ≤ (0 : Int32).toInt ∧ (0 : Int32).toInt ≤ 6 by decide), trivial⟩, trivial⟩
theorem ivX0_0 : IvX0 12 400 (S0 2) := ⟨⟨by decide, by decide, by decide⟩, ⟨by decide, by decide, by decide⟩, fun _ _ _ => (show 0 ≤ (0 : Int32).toInt ∧ (0 : Int32).toInt ≤ 20 by decide), trivial⟩
theorem ivX5_0 : IvX5 (S0 11) := ⟨⟨by decide, by decide⟩, ⟨by decide, by decide⟩, fun _ _ _ _ => (show 0 ≤ (0 : Int32).toInt ∧ (0 : Int32).toInt ≤ 9 by decide)⟩
theorem ji_0 : JI S0 [] none none := ⟨⟨iv9_0, by decide⟩, fun c hc => absurd hc List.not_mem_nil, ivX6_0, ivX0_0, trivial, iv2_0 [], iv4_0, ivX1_0, ivX7_0, iv2_0 [], iv4_0, ivX1_0, ivX5_0, ivX5_0, iv4_0, ⟨fun _ _ => rfl, fun _ _ => Or.inl rfl, fun _ => ⟨rfl, rfl⟩, fun _ => Or.inl rfl⟩, (fun r hr => by cases hr), (fun r hr => by cases hr)⟩
