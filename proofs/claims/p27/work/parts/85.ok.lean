-- what the small calls answer
theorem in_iff (x a b : Int64) (z : Int32) (h : f_X9_in x a b = some z) : (z = 0 ∧ ¬ (a.toInt ≤ x.toInt ∧ x.toInt ≤ b.toInt)) ∨ (¬ z = 0 ∧ a.toInt ≤ x.toInt ∧ x.toInt ≤ b.toInt) := by
  unfold f_X9_in at h
  by_cases c1 : (lg_cmp x a) < (0 : Int32)
  · have h := z_t h c1
    have c1 := cvl_lt (a := x.toInt) (b := a.toInt) rfl rfl c1
    exact Or.inl ⟨(Option.some.inj h).symm, by omega⟩
  · have h := z_f h c1
    have c1 := cvl_nlt (a := x.toInt) (b := a.toInt) rfl rfl c1
    by_cases c2 : (0 : Int32) < (lg_cmp x b)
    · have h := z_t h c2
      have c2 := cvl_gt (a := x.toInt) (b := b.toInt) rfl rfl c2
      exact Or.inl ⟨(Option.some.inj h).symm, by omega⟩
    · have h := z_f h c2
      have c2 := cvl_ngt (a := x.toInt) (b := b.toInt) rfl rfl c2
      exact Or.inr ⟨by rw [← Option.some.inj h]; decide, c1, c2⟩
theorem tell_ret {o : Ob} {p : Int32} {y : Int32 × Ob} (h : f_X9_tell o p = some y) : y.1 = p := by
  have hb : ∀ s, bk_X9_tell_10 p s o = some y → y.1 = p := by
    intro s h
    unfold bk_X9_tell_10 at h
    obtain ⟨o1, -, h⟩ := z_lt h
    by_cases c : (0 : Int32) ≤ p
    · have h := z_t h c
      rw [← Option.some.inj h]
    · have h := z_f h c
      obtain ⟨x2, -, h⟩ := z_lt h
      obtain ⟨-, h⟩ := z_gd h
      obtain ⟨-, h⟩ := z_gd h
      obtain ⟨o5, -, h⟩ := z_lt h
      rw [← Option.some.inj h]
  unfold f_X9_tell at h
  by_cases c : (0 : Int32) ≤ p
  · exact hb _ (z_t h c)
  · exact hb _ (z_f h c)
theorem settled_ret {o : Ob} {p : Int32} {y : Int32 × Ob} (h : f_X9_settled o p = some y) : y.1 = p := by
  have hb : ∀ s, bk_X9_settled_13 p s o = some y → y.1 = p := by
    intro s h
    unfold bk_X9_settled_13 at h
    obtain ⟨o1, -, h⟩ := z_lt h
    obtain ⟨z2, ez, h⟩ := z_bd h
    rw [← Option.some.inj h]
    exact tell_ret ez
  unfold f_X9_settled at h
  by_cases c : (0 : Int32) ≤ p
  · exact hb _ (z_t h c)
  · exact hb _ (z_f h c)
theorem refuse_ret {o : Ob} {p : Int32} {y : Int32 × Ob} (h : f_X8_refuse o p = some y) : y.1 = p := by
  unfold f_X8_refuse at h
  obtain ⟨o1, -, h⟩ := z_lt h
  by_cases c : (0 : Int32) ≤ p
  · rw [← Option.some.inj (z_t h c)]
  · have h := z_f h c
    by_cases c : p < (-6 : Int32)
    · rw [← Option.some.inj (z_t h c)]
    · have h := z_f h c
      obtain ⟨x2, -, h⟩ := z_lt h
      obtain ⟨-, h⟩ := z_gd h
      obtain ⟨-, h⟩ := z_gd h
      obtain ⟨o5, -, h⟩ := z_lt h
      rw [← Option.some.inj h]
theorem grant_ret {o : Ob} {p : Int32} {y : Int32 × Ob} (h : f_X8_grant o p = some y) : y.1 = p := by
  unfold f_X8_grant at h
  obtain ⟨o1, -, h⟩ := z_lt h
  rw [← Option.some.inj h]
theorem l9_image {y : Int32 × Ob} : ∀ (N : Nat) (v1 v2 : Int32) (o : Ob), lp_X9_image_23 N (v1, v2, o) = some y → y.1 = 0 := by
  intro N
  induction N with
  | zero => intro v1 v2 o h; cases h
  | succ N ih =>
    intro v1 v2 o h
    have h : lb_X9_image_23 (lp_X9_image_23 N) v1 v2 o = some y := h
    unfold lb_X9_image_23 at h
    by_cases c : (5484 : Int32) ≤ v2
    · obtain ⟨-, h⟩ := z_gd (z_t h c)
      obtain ⟨o4, -, h⟩ := z_lt h
      obtain ⟨z5, ez, h⟩ := z_bd h
      rw [← Option.some.inj h]
      exact tell_ret ez
    · obtain ⟨-, h⟩ := z_gd (z_f h c)
      obtain ⟨-, h⟩ := z_gd h
      obtain ⟨o8, -, h⟩ := z_lt h
      obtain ⟨x9, -, h⟩ := z_lt h
      exact ih _ _ _ h
theorem image_ret9 {o : Ob} {p : Int32} {y : Int32 × Ob} (h : f_X9_image o p = some y) : (0 ≤ p.toInt ∧ p.toInt ≤ 1 ∧ y.1 = 0) ∨ (¬ (0 ≤ p.toInt ∧ p.toInt ≤ 1) ∧ y.1 = -1) := by
  have e0 : (0 : Int64).toInt = 0 := by decide
  have e1 : (1 : Int64).toInt = 1 := by decide
  have ep : p.toInt64.toInt = p.toInt := Int32.toInt_toInt64 p
  unfold f_X9_image at h
  obtain ⟨o1, -, h⟩ := z_lt h
  obtain ⟨z2, ez2, h⟩ := z_bd h
  rcases in_iff _ _ _ _ ez2 with ⟨a1, a2⟩ | ⟨a1, a2, a3⟩
  · obtain ⟨z, ez, h⟩ := z_bd (z_t h a1)
    refine Or.inr ⟨by omega, ?_⟩
    rw [← Option.some.inj h]
    exact tell_ret ez
  · exact Or.inl ⟨by omega, by omega, l9_image _ _ _ _ (z_f h a1)⟩
theorem l9_back {y : Int32 × Ob} : ∀ (N : Nat) (v1 v2 : Int32) (o : Ob), lp_X9_back_39 N (v1, v2, o) = some y → y.1 = 0 := by
  intro N
  induction N with
  | zero => intro v1 v2 o h; cases h
  | succ N ih =>
    intro v1 v2 o h
    have h : lb_X9_back_39 (lp_X9_back_39 N) v1 v2 o = some y := h
    unfold lb_X9_back_39 at h
    by_cases c : (5484 : Int32) ≤ v2
    · obtain ⟨z4, ez, h⟩ := z_bd (z_t h c)
      rw [← Option.some.inj h]
      exact settled_ret ez
    · obtain ⟨-, h⟩ := z_gd (z_f h c)
      obtain ⟨-, h⟩ := z_gd h
      obtain ⟨o7, -, h⟩ := z_lt h
      obtain ⟨x8, -, h⟩ := z_lt h
      exact ih _ _ _ h
theorem back_ret9 {o : Ob} {p : Int32} {y : Int32 × Ob} (h : f_X9_back o p = some y) : (¬ (0 ≤ p.toInt ∧ p.toInt ≤ 1) ∧ y.1 = -1) ∨ (0 ≤ p.toInt ∧ p.toInt ≤ 1 ∧ ((gA o 5 p.toNatClampNeg = 0 ∧ y.1 = -2) ∨ (¬ gA o 5 p.toNatClampNeg = 0 ∧ y.1 = 0))) := by
  have e0 : (0 : Int64).toInt = 0 := by decide
  have e1 : (1 : Int64).toInt = 1 := by decide
  have ep : p.toInt64.toInt = p.toInt := Int32.toInt_toInt64 p
  unfold f_X9_back at h
  obtain ⟨o1, eo1, h⟩ := z_lt h
  obtain ⟨z2, ez2, h⟩ := z_bd h
  rcases in_iff _ _ _ _ ez2 with ⟨a1, a2⟩ | ⟨a1, a2, a3⟩
  · obtain ⟨z, ez, h⟩ := z_bd (z_t h a1)
    refine Or.inl ⟨by omega, ?_⟩
    rw [← Option.some.inj h]
    exact tell_ret ez
  · obtain ⟨-, h⟩ := z_gd (z_f h a1)
    have eg : gA o1 5 = gA o 5 := by rw [eo1]; rfl
    rw [eg] at h
    refine Or.inr ⟨by omega, by omega, ?_⟩
    by_cases c : gA o 5 p.toNatClampNeg = (0 : Int32)
    · obtain ⟨z, ez, h⟩ := z_bd (z_t h c)
      refine Or.inl ⟨c, ?_⟩
      rw [← Option.some.inj h]
      exact tell_ret ez
    · exact Or.inr ⟨c, l9_back _ _ _ _ (z_f h c)⟩
theorem image_retb {o4 o5 : Ob} {pl : List CR} {o9 oi on : Ob} {y : Int32 × Ob × Ob × Ob} (h : f_X8_image_b o4 o5 pl o9 oi on = some y) : y.1 = 0 := by
  unfold f_X8_image_b at h
  obtain ⟨z2, -, h⟩ := z_bd h
  obtain ⟨z3, ez, h⟩ := z_bd h
  rw [← Option.some.inj h]
  exact grant_ret ez
theorem image_retO {o o4 o5 : Ob} {pl : List CR} {oi on : Ob} {p : Int32} {y : Int32 × Ob × Ob × Ob} (h : f_X8_image_O o o4 o5 pl oi on p = some y) (c1 : ¬ p < (0 : Int32)) (c2 : p < (2 : Int32)) : y.1 = 0 := by
  unfold f_X8_image_O at h
  obtain ⟨-, h⟩ := z_gd (z_t (z_f h c1) c2)
  obtain ⟨-, h⟩ := z_gd h
  obtain ⟨z4, -, h⟩ := z_bd h
  obtain ⟨z5, ez, h⟩ := z_bd h
  rw [← Option.some.inj h]
  exact grant_ret ez
-- small calls: what they ask, what they write
theorem rg8 {p z b : Int32} {n : Int} (hb : b.toInt = n) (h : (if p < (0 : Int32) then some (0 : Int32) else (if b ≤ p then some (0 : Int32) else some (1 : Int32))) = some z) : (z = 0 ∧ ¬ (0 ≤ p.toInt ∧ p.toInt < n)) ∨ (¬ z = 0 ∧ 0 ≤ p.toInt ∧ p.toInt < n) := by
  by_cases c1 : p < (0 : Int32)
  · have c := cv_lt (a := p.toInt) (b := 0) rfl (by decide) c1
    exact Or.inl ⟨(Option.some.inj (z_t h c1)).symm, by omega⟩
  · have h := z_f h c1
    have c := cv_nlt (a := p.toInt) (b := 0) rfl (by decide) c1
    by_cases c2 : b ≤ p
    · have d := cv_le (a := n) (b := p.toInt) hb rfl c2
      exact Or.inl ⟨(Option.some.inj (z_t h c2)).symm, by omega⟩
    · have d := cv_nle (a := n) (b := p.toInt) hb rfl c2
      exact Or.inr ⟨by rw [← Option.some.inj (z_f h c2)]; decide, by omega, by omega⟩
theorem isP2 {o : Ob} {p z : Int32} (h : f_X2_isPerson o p = some z) : (z = 0 ∧ ¬ (0 ≤ p.toInt ∧ p.toInt < (gI o 7).toInt)) ∨ (¬ z = 0 ∧ 0 ≤ p.toInt ∧ p.toInt < (gI o 7).toInt) := rg8 (b := gI o 7) rfl h
theorem isR8 {p z : Int32} (h : f_X8_isRace p = some z) : (z = 0 ∧ ¬ (0 ≤ p.toInt ∧ p.toInt < 4)) ∨ (¬ z = 0 ∧ 0 ≤ p.toInt ∧ p.toInt < 4) := rg8 (b := 4) (by decide) h
theorem isT8 {p z : Int32} (h : f_X8_isTrade p = some z) : (z = 0 ∧ ¬ (0 ≤ p.toInt ∧ p.toInt < 10)) ∨ (¬ z = 0 ∧ 0 ≤ p.toInt ∧ p.toInt < 10) := rg8 (b := 10) (by decide) h
theorem in9 {p z : Int32} {a b : Int64} {m n : Int} (ha : a.toInt = m) (hb : b.toInt = n) (h : f_X9_in p.toInt64 a b = some z) : (z = 0 ∧ ¬ (m ≤ p.toInt ∧ p.toInt ≤ n)) ∨ (¬ z = 0 ∧ m ≤ p.toInt ∧ p.toInt ≤ n) := by
  have ep : p.toInt64.toInt = p.toInt := Int32.toInt_toInt64 p
  rcases in_iff _ _ _ _ h with ⟨c, d⟩ | ⟨c, d, e⟩
  · exact Or.inl ⟨c, by omega⟩
  · exact Or.inr ⟨c, by omega, by omega⟩
theorem isR9 {p z : Int32} (h : f_X9_isRace p = some z) : (z = 0 ∧ ¬ (0 ≤ p.toInt ∧ p.toInt < 4)) ∨ (¬ z = 0 ∧ 0 ≤ p.toInt ∧ p.toInt < 4) := by
  unfold f_X9_isRace at h
  obtain ⟨z1, ez, h⟩ := z_bd h
  obtain ⟨-, h⟩ := z_gd h
  rw [← Option.some.inj h]
  rcases in9 (m := 0) (n := 3) (by decide) (by decide) ez with ⟨c, d⟩ | ⟨c, d⟩
  · exact Or.inl ⟨c, by omega⟩
  · exact Or.inr ⟨c, by omega, by omega⟩
theorem isP9 {o : Ob} {p z : Int32} (h : f_X9_isPerson o p = some z) (hr : 0 ≤ (gA o 3 0).toInt ∧ (gA o 3 0).toInt ≤ 7) : (z = 0 ∧ ¬ (0 ≤ p.toInt ∧ p.toInt < (gA o 3 0).toInt)) ∨ (¬ z = 0 ∧ 0 ≤ p.toInt ∧ p.toInt < (gA o 3 0).toInt) := by
  unfold f_X9_isPerson at h
  obtain ⟨z1, ez, h⟩ := z_bd h
  obtain ⟨-, h⟩ := z_gd h
  rw [← Option.some.inj h]
  have n0 : (0 : Int32).toNatClampNeg = 0 := by decide
  rw [n0] at ez
  have eg : ((gA o 3 0).toInt64 - (1 : Int64)).toInt = (gA o 3 0).toInt - 1 := i64_sub (Int32.toInt_toInt64 _) (by decide) (by omega) (by omega)
  rcases in9 (m := 0) (n := (gA o 3 0).toInt - 1) (by decide) eg ez with ⟨a, b⟩ | ⟨a, b⟩
  · exact Or.inl ⟨a, by omega⟩
  · exact Or.inr ⟨a, by omega, by omega⟩
theorem t3_at {o : Ob} {j i : Nat} {v : Int32} : gA (tA o 3 j v) 3 i = if i = j then v else gA o 3 i := rfl
theorem t3_ne {o : Ob} {j v : Int32} {i : Nat} {n : Int} (hj : j.toInt = n) (h0 : 0 ≤ n) (h : (i : Int) ≠ n) : gA (tA o 3 j.toNatClampNeg v) 3 i = gA o 3 i := by
  have e : j.toNatClampNeg = j.toInt.toNat := rfl
  exact if_neg (show ¬ i = j.toNatClampNeg by rw [e]; omega)
theorem tell_3 {o : Ob} {p : Int32} {y : Int32 × Ob} (h : f_X9_tell o p = some y) : y.1 = p ∧ gA y.2 3 = gA o 3 ∧ gA y.2 4 = gA o 4 ∧ gI y.2 13 = gI o 13 ∧ gA y.2 5 = gA o 5 := by
  have hb : ∀ s, bk_X9_tell_10 p s o = some y → y.1 = p ∧ gA y.2 3 = gA o 3 ∧ gA y.2 4 = gA o 4 ∧ gI y.2 13 = gI o 13 ∧ gA y.2 5 = gA o 5 := by
    intro s h
    unfold bk_X9_tell_10 at h
    obtain ⟨o1, eo1, h⟩ := z_lt h
    by_cases c : (0 : Int32) ≤ p
    · have h := z_t h c
      rw [← Option.some.inj h, eo1]; exact ⟨rfl, rfl, rfl, rfl, rfl⟩
    · have h := z_f h c
      obtain ⟨x2, -, h⟩ := z_lt h
      obtain ⟨-, h⟩ := z_gd h
      obtain ⟨-, h⟩ := z_gd h
      obtain ⟨o5, eo5, h⟩ := z_lt h
      rw [← Option.some.inj h, eo5, eo1]; exact ⟨rfl, rfl, rfl, rfl, rfl⟩
  unfold f_X9_tell at h
  by_cases c : (0 : Int32) ≤ p
  · exact hb _ (z_t h c)
  · exact hb _ (z_f h c)
theorem settled_3 {o : Ob} {p : Int32} {y : Int32 × Ob} (h : f_X9_settled o p = some y) : y.1 = p ∧ gA y.2 3 = gA o 3 ∧ gA y.2 4 = gA o 4 ∧ gA y.2 5 = gA o 5 := by
  have hb : ∀ s, bk_X9_settled_13 p s o = some y → y.1 = p ∧ gA y.2 3 = gA o 3 ∧ gA y.2 4 = gA o 4 ∧ gA y.2 5 = gA o 5 := by
    intro s h
    unfold bk_X9_settled_13 at h
    obtain ⟨o1, eo1, h⟩ := z_lt h
    obtain ⟨z2, ez, h⟩ := z_bd h
    obtain ⟨a, b, c, -, d⟩ := tell_3 ez
    rw [← Option.some.inj h]
    refine ⟨a, ?_, ?_, ?_⟩
    · show gA z2.2 3 = _
      rw [b, eo1]; rfl
    · show gA z2.2 4 = _
      rw [c, eo1]; rfl
    · show gA z2.2 5 = _
      rw [d, eo1]; rfl
  unfold f_X9_settled at h
  by_cases c : (0 : Int32) ≤ p
  · exact hb _ (z_t h c)
  · exact hb _ (z_f h c)
-- seen, forget
theorem seen9 {o : Ob} {p0 p1 : Int32} {y : Int32 × Ob} (h : f_X9_seen o p0 p1 = some y) (hr : 0 ≤ (gA o 3 1).toInt ∧ (gA o 3 1).toInt ≤ 6) :
    (¬ ((0 ≤ p0.toInt ∧ p0.toInt < 4) ∧ 0 ≤ p1.toInt ∧ p1.toInt ≤ 9) ∧ y.1 = -1 ∧ gA y.2 3 = gA o 3) ∨
    (((0 ≤ p0.toInt ∧ p0.toInt < 4) ∧ 0 ≤ p1.toInt ∧ p1.toInt ≤ 9) ∧ ((gA o 3 1 = 6 ∧ y.1 = -5 ∧ gA y.2 3 = gA o 3) ∨ (¬ gA o 3 1 = 6 ∧ y.1 = gA o 3 1 + 1 ∧ gA y.2 3 1 = gA o 3 1 + 1 ∧ ∀ j, j ≠ 1 → j < 71 → gA y.2 3 j = gA o 3 j))) := by
  unfold f_X9_seen at h
  obtain ⟨o1, eo1, h⟩ := z_lt h
  have g1 : gA o1 3 = gA o 3 := by rw [eo1]; rfl
  have h24 : bk_X9_seen_24 o1 = some y → y.1 = -1 ∧ gA y.2 3 = gA o 3 := by
    intro h
    unfold bk_X9_seen_24 at h
    obtain ⟨z, ez, h⟩ := z_bd h
    rw [← Option.some.inj h, ← g1]; exact ⟨(tell_3 ez).1, (tell_3 ez).2.1⟩
  obtain ⟨z2, ez2, h⟩ := z_bd h
  rcases isR9 ez2 with ⟨a, b⟩ | ⟨a, b⟩
  · exact Or.inl ⟨fun q => b q.1, h24 (z_t h a)⟩
  · have h := z_f h a
    obtain ⟨z4, ez4, h⟩ := z_bd h
    rcases in9 (m := 0) (n := 9) (by decide) (by decide) ez4 with ⟨c, d⟩ | ⟨c, d⟩
    · exact Or.inl ⟨fun q => d q.2, h24 (z_t h c)⟩
    · refine Or.inr ⟨⟨b, d⟩, ?_⟩
      obtain ⟨x5, ex, h⟩ := z_lt (z_f h c)
      have n1 : (1 : Int32).toNatClampNeg = 1 := by decide
      rw [n1, g1] at ex
      by_cases c6 : x5 = (6 : Int32)
      · obtain ⟨z, ez, h⟩ := z_bd (z_t h c6)
        refine Or.inl ⟨by rw [← ex]; exact c6, ?_⟩
        rw [← Option.some.inj h, ← g1]; exact ⟨(tell_3 ez).1, (tell_3 ez).2.1⟩
      · have h := z_f h c6
        obtain ⟨-, h⟩ := z_gd h
        obtain ⟨o7, e7, h⟩ := z_lt h
        obtain ⟨-, h⟩ := z_gd h
        obtain ⟨o9, e9, h⟩ := z_lt h
        obtain ⟨o10, e10, h⟩ := z_lt h
        obtain ⟨z, ez, h⟩ := z_bd h
        have hx : x5.toInt = (gA o 3 1).toInt := by rw [ex]
        have m1 : ((2 : Int32) * x5).toInt = 2 * x5.toInt := i32_mul (by decide) rfl (by omega) (by omega)
        have m2 : ((71 : Int32) + ((2 : Int32) * x5)).toInt = 71 + 2 * x5.toInt := i32_add (by decide) m1 (by omega) (by omega)
        have m3 : (((71 : Int32) + ((2 : Int32) * x5)) + (1 : Int32)).toInt = 71 + 2 * x5.toInt + 1 := i32_add m2 (by decide) (by omega) (by omega)
        have lo : ∀ j, j < 71 → gA o9 3 j = gA o 3 j := fun j hj => by
          rw [e9, t3_ne m3 (by omega) (by omega), e7, t3_ne m2 (by omega) (by omega), g1]
        have hy := tell_3 ez
        refine Or.inr ⟨by rw [← ex]; exact c6, ?_, ?_, ?_⟩
        · rw [← Option.some.inj h]; show z.1 = _
          rw [hy.1, ex]
        · rw [← Option.some.inj h]; show gA z.2 3 1 = _
          rw [hy.2.1, e10, n1, t3_at, if_pos rfl, lo 1 (by decide)]
        · intro j hj hj'
          rw [← Option.some.inj h]; show gA z.2 3 j = _
          rw [hy.2.1, e10, n1, t3_at, if_neg hj, lo j hj']
theorem seen8 {o0 o4 : Ob} {p0 p1 : Int32} {y : Int32 × Ob × Ob} (h : f_X8_seen o0 o4 p0 p1 = some y) (hr : 0 ≤ (gI o4 8).toInt ∧ (gI o4 8).toInt ≤ 6) :
    (¬ ((0 ≤ p0.toInt ∧ p0.toInt < 4) ∧ 0 ≤ p1.toInt ∧ p1.toInt ≤ 9) ∧ y.1 = -1 ∧ y.2.2 = o4) ∨
    (((0 ≤ p0.toInt ∧ p0.toInt < 4) ∧ 0 ≤ p1.toInt ∧ p1.toInt ≤ 9) ∧ ((gI o4 8 = 6 ∧ y.1 = -5 ∧ y.2.2 = o4) ∨ (¬ gI o4 8 = 6 ∧ y.1 = gI o4 8 + 1 ∧ gI y.2.2 8 = gI o4 8 + 1 ∧ gI y.2.2 7 = gI o4 7 ∧ gA y.2.2 1 = gA o4 1 ∧ gA y.2.2 2 = gA o4 2 ∧ gA y.2.2 3 = gA o4 3))) := by
  unfold f_X8_seen at h
  have h14 : bk_X8_seen_14 o0 o4 = some y → y.1 = -1 ∧ y.2.2 = o4 := by
    intro h
    unfold bk_X8_seen_14 at h
    obtain ⟨z, ez, h⟩ := z_bd h
    rw [← Option.some.inj h]; exact ⟨refuse_ret ez, rfl⟩
  obtain ⟨z1, ez1, h⟩ := z_bd h
  rcases isR8 ez1 with ⟨a, b⟩ | ⟨a, b⟩
  · exact Or.inl ⟨fun q => b q.1, h14 (z_t h a)⟩
  · have h := z_f h a
    obtain ⟨z3, ez3, h⟩ := z_bd h
    rcases isT8 ez3 with ⟨c, d⟩ | ⟨c, d⟩
    · exact Or.inl ⟨fun q => d ⟨q.2.1, by omega⟩, h14 (z_t h c)⟩
    · refine Or.inr ⟨⟨b, d.1, by omega⟩, ?_⟩
      have h := z_f h c
      by_cases c6 : gI o4 8 < (6 : Int32)
      · have d6 := cv_lt (a := (gI o4 8).toInt) (b := 6) rfl (by decide) c6
        obtain ⟨z4, ez4, h⟩ := z_bd (z_t h c6)
        obtain ⟨z5, ez5, h⟩ := z_bd h
        unfold f_X2_addSeen at ez4
        have ez4 := z_f ez4 (fun q => by have q := cv_le (a := 6) (b := (gI o4 8).toInt) (by decide) rfl q; omega)
        obtain ⟨-, ez4⟩ := z_gd ez4
        obtain ⟨u2, f2, ez4⟩ := z_lt ez4
        obtain ⟨-, ez4⟩ := z_gd ez4
        obtain ⟨u4, f4, ez4⟩ := z_lt ez4
        obtain ⟨u5, f5, ez4⟩ := z_lt ez4
        unfold bk_X2_addSeen_39 at ez4
        have ez4 := Option.some.inj ez4
        have k8 : gI u5 8 = gI o4 8 + 1 := by rw [f5, f4, f2]; rfl
        refine Or.inr ⟨fun q => by rw [q] at d6; revert d6; decide, ?_, ?_, ?_, ?_, ?_, ?_⟩
        · rw [← Option.some.inj h]; show z5.1 = _
          rw [grant_ret ez5, ← ez4]; exact k8
        · rw [← Option.some.inj h]; show gI z4.2 8 = _
          rw [← ez4]; exact k8
        · rw [← Option.some.inj h]; show gI z4.2 7 = _
          rw [← ez4]; show gI u5 7 = _
          rw [f5, f4, f2]; rfl
        · rw [← Option.some.inj h]; show gA z4.2 1 = _
          rw [← ez4]; show gA u5 1 = _
          rw [f5, f4, f2]; rfl
        · rw [← Option.some.inj h]; show gA z4.2 2 = _
          rw [← ez4]; show gA u5 2 = _
          rw [f5, f4, f2]; rfl
        · rw [← Option.some.inj h]; show gA z4.2 3 = _
          rw [← ez4]; show gA u5 3 = _
          rw [f5, f4, f2]; rfl
      · have d6 := cv_nlt (a := (gI o4 8).toInt) (b := 6) rfl (by decide) c6
        obtain ⟨z6, ez6, h⟩ := z_bd (z_f h c6)
        refine Or.inl ⟨Int32.toInt_inj.mp ((show (gI o4 8).toInt = 6 by omega).trans (by decide)), ?_⟩
        rw [← Option.some.inj h]; exact ⟨refuse_ret ez6, rfl⟩
theorem forget9 {o : Ob} {y : Int32 × Ob} (h : f_X9_forget o = some y) : y.1 = gA o 3 1 ∧ gA y.2 3 1 = 0 ∧ ∀ j, j ≠ 1 → gA y.2 3 j = gA o 3 j := by
  unfold f_X9_forget at h
  obtain ⟨o1, eo1, h⟩ := z_lt h
  obtain ⟨x2, ex, h⟩ := z_lt h
  obtain ⟨o3, eo3, h⟩ := z_lt h
  have n1 : (1 : Int32).toNatClampNeg = 1 := by decide
  have g1 : gA o1 3 = gA o 3 := by rw [eo1]; rfl
  rw [← Option.some.inj h]
  refine ⟨by rw [ex, n1, g1], ?_, fun j hj => ?_⟩
  · show gA o3 3 1 = 0
    rw [eo3, n1, t3_at, if_pos rfl]
  · show gA o3 3 j = _
    rw [eo3, n1, t3_at, if_neg hj, g1]
theorem forget8 {o0 o4 : Ob} {y : Int32 × Ob} (h : f_X8_forget o0 o4 = some y) : y.1 = gI o4 8 ∧ y.2 = sI o4 8 0 := by
  unfold f_X8_forget at h
  obtain ⟨x1, ex, h⟩ := z_lt h
  obtain ⟨o2, eo2, h⟩ := z_lt h
  rw [← Option.some.inj h]
  exact ⟨ex, eo2⟩
-- the tie of p8 and p9: both tapes are of one size (the calls feed and end)
theorem four1 {N : Nat} {v1 v2 : Int32} {o y : Ob} (h : lp_X9_four_3 (N + 1) (v1, v2, o) = some y) (c : ¬ v2 < (0 : Int32)) : ∃ o', lp_X9_four_3 N (v1, v2 + (-8), o') = some y ∧ gI o' 13 = gI o 13 + 1 := by
  have h : lb_X9_four_3 (lp_X9_four_3 N) v1 v2 o = some y := h
  unfold lb_X9_four_3 at h
  obtain ⟨-, h⟩ := z_gd (z_f h c)
  obtain ⟨o2, e2, h⟩ := z_lt h
  obtain ⟨o3, e3, h⟩ := z_lt h
  obtain ⟨x4, e4, h⟩ := z_lt h
  refine ⟨o3, by rw [← e4]; exact h, ?_⟩
  rw [e3, e2]; rfl
theorem four0 {N : Nat} {v1 v2 : Int32} {o y : Ob} (h : lp_X9_four_3 (N + 1) (v1, v2, o) = some y) (c : v2 < (0 : Int32)) : o = y := by
  have h : lb_X9_four_3 (lp_X9_four_3 N) v1 v2 o = some y := h
  unfold lb_X9_four_3 at h
  exact Option.some.inj (z_t h c)
theorem four_sz {o y : Ob} {p : Int32} (h : f_X9_four o p = some y) : gI y 13 = gI o 13 + 1 + 1 + 1 + 1 := by
  have h : lp_X9_four_3 (99995 + 1 + 1 + 1 + 1 + 1) (p, 24, o) = some y := h
  obtain ⟨o1, h, e1⟩ := four1 h (by decide)
  obtain ⟨o2, h, e2⟩ := four1 h (by decide)
  obtain ⟨o3, h, e3⟩ := four1 h (by decide)
  obtain ⟨o4, h, e4⟩ := four1 h (by decide)
  have e5 := four0 h (by decide)
  rw [← e5, e4, e3, e2, e1]
theorem addn1 {N : Nat} {v1 v2 : Int32} {o y : Ob} (h : lp_X6_addNumber_3 (N + 1) (v1, v2, o) = some y) (c : ¬ v2 < (0 : Int32)) {n : Int} (hn : (gI o 2).toInt = n) (h0 : 0 ≤ n) (h1 : n < 400) : ∃ o', lp_X6_addNumber_3 N (v1, v2 + (-8), o') = some y ∧ gI o' 2 = gI o 2 + 1 ∧ (gI o' 2).toInt = n + 1 := by
  have h : lb_X6_addNumber_3 (lp_X6_addNumber_3 N) v1 v2 o = some y := h
  unfold lb_X6_addNumber_3 at h
  have c4 : ¬ (400 : Int32) ≤ gI o 2 := fun q => by have q := cv_le (a := 400) (b := n) (by decide) hn q; omega
  obtain ⟨-, h⟩ := z_gd (z_f (z_f h c) c4)
  obtain ⟨o3, e3, h⟩ := z_lt h
  obtain ⟨o4, e4, h⟩ := z_lt h
  unfold bk_X6_addNumber_43 at h
  obtain ⟨x1, ex, h⟩ := z_lt h
  have eg : gI o4 2 = gI o 2 + 1 := by rw [e4, e3]; rfl
  exact ⟨o4, by rw [← ex]; exact h, eg, by rw [eg]; exact i32_add hn (by decide) (by omega) (by omega)⟩
theorem addn0 {N : Nat} {v1 v2 : Int32} {o y : Ob} (h : lp_X6_addNumber_3 (N + 1) (v1, v2, o) = some y) (c : v2 < (0 : Int32)) : o = y := by
  have h : lb_X6_addNumber_3 (lp_X6_addNumber_3 N) v1 v2 o = some y := h
  unfold lb_X6_addNumber_3 at h
  exact Option.some.inj (z_t h c)
theorem addn_sz {o y : Ob} {p : Int32} {n : Int} (h : f_X6_addNumber o p = some y) (hn : (gI o 2).toInt = n) (h0 : 0 ≤ n) (h1 : n ≤ 396) : gI y 2 = gI o 2 + 1 + 1 + 1 + 1 ∧ (gI y 2).toInt = n + 4 := by
  have h : lp_X6_addNumber_3 (99995 + 1 + 1 + 1 + 1 + 1) (p, 24, o) = some y := h
  obtain ⟨o1, h, e1, n1⟩ := addn1 h (by decide) hn h0 (by omega)
  obtain ⟨o2, h, e2, n2⟩ := addn1 h (by decide) n1 (by omega) (by omega)
  obtain ⟨o3, h, e3, n3⟩ := addn1 h (by decide) n2 (by omega) (by omega)
  obtain ⟨o4, h, e4, n4⟩ := addn1 h (by decide) n3 (by omega) (by omega)
  have e5 := addn0 h (by decide)
  rw [← e5]
  exact ⟨by rw [e4, e3, e2, e1], by omega⟩
theorem feed_ts {o0 o1 o9 : Ob} {p0 p1 p2 p3 p4 : Int32} {y1 y2 : Int32 × Ob} (ht : gI o1 2 = gI o9 13) (hr : 0 ≤ (gI o1 2).toInt ∧ (gI o1 2).toInt ≤ 400) (h1 : f_X8_feed o0 o1 p0 p1 p2 p3 p4 = some y1) (h2 : f_X9_feed o9 p0 p1 p2 p3 p4 = some y2) : y1.1 = y2.1 ∧ gI y1.2 2 = gI y2.2 13 := by
  unfold f_X8_feed at h1
  obtain ⟨z1, ez1, h1⟩ := z_bd h1
  unfold f_X6_hasRoom at ez1
  unfold f_X9_feed at h2
  obtain ⟨a1, ea1, h2⟩ := z_lt h2
  have eg : gI a1 13 = gI o9 13 := by rw [ea1]; rfl
  have es : (gI o1 2 + (20 : Int32)).toInt = (gI o1 2).toInt + 20 := i32_add rfl (by decide) (by omega) (by omega)
  rw [eg, ← ht] at h2
  by_cases c : (400 : Int32) < gI o1 2 + 20
  · have ez := Option.some.inj (z_t ez1 c)
    have h1 := z_t h1 ez.symm
    have c := cv_lt (a := 400) (b := (gI o1 2).toInt + 20) (by decide) es c
    have c' : ¬ gI o1 2 + (20 : Int32) ≤ 400 := fun q => by have q := cv_le (a := (gI o1 2).toInt + 20) (b := 400) es (by decide) q; omega
    have h2 := z_f h2 c'
    rw [← Option.some.inj h1, ← Option.some.inj h2]
    exact ⟨rfl, by show gI o1 2 = gI a1 13; rw [eg]; exact ht⟩
  · have ez := Option.some.inj (z_f ez1 c)
    have h1 := z_f h1 (by rw [← ez]; decide)
    have c := cv_nlt (a := 400) (b := (gI o1 2).toInt + 20) (by decide) es c
    have c' : gI o1 2 + (20 : Int32) ≤ 400 := Int32.le_iff_toInt_le.mpr (by have e : (400 : Int32).toInt = 400 := (by decide); omega)
    have h2 := z_t h2 c'
    obtain ⟨b1, f1, h1⟩ := z_bd h1
    obtain ⟨b2, f2, h1⟩ := z_bd h1
    obtain ⟨b3, f3, h1⟩ := z_bd h1
    obtain ⟨b4, f4, h1⟩ := z_bd h1
    obtain ⟨b5, f5, h1⟩ := z_bd h1
    obtain ⟨d1, g1, h2⟩ := z_bd h2
    obtain ⟨d2, g2, h2⟩ := z_bd h2
    obtain ⟨d3, g3, h2⟩ := z_bd h2
    obtain ⟨d4, g4, h2⟩ := z_bd h2
    obtain ⟨d5, g5, h2⟩ := z_bd h2
    obtain ⟨q1, r1⟩ := addn_sz f1 rfl hr.1 (by omega)
    obtain ⟨q2, r2⟩ := addn_sz f2 r1 (by omega) (by omega)
    obtain ⟨q3, r3⟩ := addn_sz f3 r2 (by omega) (by omega)
    obtain ⟨q4, r4⟩ := addn_sz f4 r3 (by omega) (by omega)
    obtain ⟨q5, r5⟩ := addn_sz f5 r4 (by omega) (by omega)
    have e : gI b5 2 = gI d5 13 := by rw [q5, q4, q3, q2, q1, four_sz g5, four_sz g4, four_sz g3, four_sz g2, four_sz g1, eg, ht]
    rw [← Option.some.inj h1, ← Option.some.inj h2]
    exact ⟨e, e⟩
theorem end_ts {o0 o1 o9 : Ob} {p : Int32} {y1 y2 : Int32 × Ob} (ht : gI o1 2 = gI o9 13) (h1 : f_X8_end o0 o1 p = some y1) (h2 : f_X9_end o9 p = some y2) : y1.1 = y2.1 ∧ gI y1.2 2 = gI y2.2 13 := by
  unfold f_X8_end at h1
  unfold f_X9_end at h2
  obtain ⟨a1, ea1, h2⟩ := z_lt h2
  have eg : gI a1 13 = gI o9 13 := by rw [ea1]; rfl
  have hx : gI o1 2 = gI a1 13 := by rw [eg]; exact ht
  by_cases c : p < (0 : Int32)
  · rw [← Option.some.inj (z_t h1 c), ← Option.some.inj (z_t h2 c)]
    exact ⟨rfl, hx⟩
  · have h1 := z_f h1 c
    have h2 := z_f h2 c
    rw [← hx] at h2
    by_cases c : p ≤ gI o1 2
    · obtain ⟨u1, eu1, h1⟩ := z_lt (z_t h1 c)
      obtain ⟨u2, eu2, h2⟩ := z_lt (z_t h2 c)
      rw [← Option.some.inj h1, ← Option.some.inj h2]
      exact ⟨rfl, by rw [eu1, eu2]; rfl⟩
    · rw [← Option.some.inj (z_f h1 c), ← Option.some.inj (z_f h2 c)]
      exact ⟨rfl, hx⟩
-- person
theorem l9_pers {y : Int32 × Ob} {v3 : Int32} {n : Nat} (en : v3.toInt = (n : Int)) (hn : n < 7) : ∀ (N : Nat) (v4 : Int32) (o : Ob) (k : Nat), v4.toInt = (k : Int) → lp_X9_person_109 N (v3, v4, o) = some y → y.1 = v3 ∧ gA y.2 3 0 = gA o 3 0 + 1 ∧ ∀ j, j ≠ 0 → gA y.2 3 j = if 36 + 4 * n + k ≤ j ∧ j < 36 + 4 * n + 4 then 0 else gA o 3 j := by
  intro N
  induction N with
  | zero => intro v4 o k _ h; cases h
  | succ N ih =>
    intro v4 o k ek h
    have h : lb_X9_person_109 (lp_X9_person_109 N) v3 v4 o = some y := h
    unfold lb_X9_person_109 at h
    by_cases c : (4 : Int32) ≤ v4
    · have d := cv_le (a := 4) (b := (k : Int)) (by decide) ek c
      obtain ⟨o15, e15, h⟩ := z_lt (z_t h c)
      obtain ⟨z, ez, h⟩ := z_bd h
      have n0 : (0 : Int32).toNatClampNeg = 0 := by decide
      have hs := settled_3 ez
      rw [← Option.some.inj h]
      refine ⟨hs.1, ?_, fun j hj => ?_⟩
      · show gA z.2 3 0 = _
        rw [hs.2.1, e15, n0, t3_at, if_pos rfl]
      · show gA z.2 3 j = _
        rw [hs.2.1, e15, n0, t3_at, if_neg hj, if_neg (by omega)]
    · have d := cv_nle (a := 4) (b := (k : Int)) (by decide) ek c
      obtain ⟨-, h⟩ := z_gd (z_f h c)
      obtain ⟨o18, e18, h⟩ := z_lt h
      obtain ⟨x19, e19, h⟩ := z_lt h
      have m1 : ((4 : Int32) * v3).toInt = 4 * (n : Int) := i32_mul (by decide) en (by omega) (by omega)
      have m2 : ((36 : Int32) + ((4 : Int32) * v3)).toInt = 36 + 4 * (n : Int) := i32_add (by decide) m1 (by omega) (by omega)
      have m3 : (((36 : Int32) + ((4 : Int32) * v3)) + v4).toInt = 36 + 4 * (n : Int) + (k : Int) := i32_add m2 ek (by omega) (by omega)
      have i3 : (((36 : Int32) + ((4 : Int32) * v3)) + v4).toNatClampNeg = 36 + 4 * n + k := tnc_eq (by omega)
      have t19 : x19.toInt = (k : Int) + 1 := by rw [e19]; exact i32_add ek (by decide) (by omega) (by omega)
      rw [i3] at e18
      obtain ⟨a, b, l⟩ := ih x19 o18 (k + 1) (by omega) h
      refine ⟨a, ?_, fun j hj => ?_⟩
      · rw [b, e18, t3_at, if_neg (by omega)]
      · rw [l j hj, e18, t3_at]
        by_cases q : 36 + 4 * n + (k + 1) ≤ j ∧ j < 36 + 4 * n + 4
        · rw [if_pos q, if_pos ⟨by omega, by omega⟩]
        · rw [if_neg q]
          by_cases q2 : j = 36 + 4 * n + k
          · rw [if_pos q2, if_pos ⟨by omega, by omega⟩]
          · rw [if_neg q2, if_neg (by omega)]
theorem pers36 {o : Ob} {v1 v2 : Int32} {y : Int32 × Ob} {n : Nat} (en : (gA o 3 0).toInt = (n : Int)) (hn : n ≤ 7) (h : bk_X9_person_36 v1 v2 o = some y) : (n = 7 ∧ y.1 = -5 ∧ gA y.2 3 = gA o 3) ∨
    (n < 7 ∧ y.1 = gA o 3 0 ∧ gA y.2 3 0 = gA o 3 0 + 1 ∧ gA y.2 3 1 = gA o 3 1 ∧ (∀ j, j < 7 → gA y.2 3 (29 + j) = if j = n then v2 else gA o 3 (29 + j)) ∧ (∀ j, j < 28 → gA y.2 3 (36 + j) = if 4 * n ≤ j ∧ j < 4 * n + 4 then 0 else gA o 3 (36 + j)) ∧ (∀ j, j < 7 → gA y.2 3 (64 + j) = if j = n then 0 else gA o 3 (64 + j))) := by
  unfold bk_X9_person_36 at h
  obtain ⟨x4, ex, h⟩ := z_lt h
  have n0 : (0 : Int32).toNatClampNeg = 0 := by decide
  rw [n0] at ex
  have tx : x4.toInt = (n : Int) := by rw [ex]; exact en
  by_cases c : x4 = (7 : Int32)
  · have d := cv_eq (a := (n : Int)) (b := 7) tx (by decide) c
    obtain ⟨z, ez, h⟩ := z_bd (z_t h c)
    refine Or.inl ⟨by omega, ?_⟩
    rw [← Option.some.inj h]; exact ⟨(tell_3 ez).1, (tell_3 ez).2.1⟩
  · have d := cv_ne (a := (n : Int)) (b := 7) tx (by decide) c
    have h := z_f h c
    obtain ⟨-, h⟩ := z_gd h
    obtain ⟨o6, e6, h⟩ := z_lt h
    obtain ⟨-, h⟩ := z_gd h
    obtain ⟨o8, e8, h⟩ := z_lt h
    obtain ⟨-, h⟩ := z_gd h
    obtain ⟨o10, e10, h⟩ := z_lt h
    obtain ⟨-, h⟩ := z_gd h
    obtain ⟨o12, e12, h⟩ := z_lt h
    obtain ⟨-, h⟩ := z_gd h
    obtain ⟨o14, e14, h⟩ := z_lt h
    have s6 : ((8 : Int32) + x4).toInt = 8 + (n : Int) := i32_add (by decide) tx (by omega) (by omega)
    have s8 : ((15 : Int32) + x4).toInt = 15 + (n : Int) := i32_add (by decide) tx (by omega) (by omega)
    have s10 : ((22 : Int32) + x4).toInt = 22 + (n : Int) := i32_add (by decide) tx (by omega) (by omega)
    have s12 : ((29 : Int32) + x4).toInt = 29 + (n : Int) := i32_add (by decide) tx (by omega) (by omega)
    have s14 : ((64 : Int32) + x4).toInt = 64 + (n : Int) := i32_add (by decide) tx (by omega) (by omega)
    have i6 : ((8 : Int32) + x4).toNatClampNeg = 8 + n := tnc_eq (by omega)
    have i8 : ((15 : Int32) + x4).toNatClampNeg = 15 + n := tnc_eq (by omega)
    have i10 : ((22 : Int32) + x4).toNatClampNeg = 22 + n := tnc_eq (by omega)
    have i12 : ((29 : Int32) + x4).toNatClampNeg = 29 + n := tnc_eq (by omega)
    have i14 : ((64 : Int32) + x4).toNatClampNeg = 64 + n := tnc_eq (by omega)
    rw [i6] at e6
    rw [i8] at e8
    rw [i10] at e10
    rw [i12] at e12
    rw [i14] at e14
    obtain ⟨a, b, l⟩ := l9_pers tx (by omega) zfu 0 o14 0 (by decide) h
    have lo : ∀ k, gA o14 3 k = if k = 64 + n then 0 else if k = 29 + n then v2 else if k = 22 + n then 0 else if k = 15 + n then 0 else if k = 8 + n then v1 else gA o 3 k := by
      intro k
      rw [e14, t3_at, e12, t3_at, e10, t3_at, e8, t3_at, e6, t3_at]
    refine Or.inr ⟨by omega, by rw [a]; exact ex, ?_, ?_, fun j hj => ?_, fun j hj => ?_, fun j hj => ?_⟩
    · rw [b, lo 0, if_neg (by omega), if_neg (by omega), if_neg (by omega), if_neg (by omega), if_neg (by omega)]
    · rw [l 1 (by decide), if_neg (by omega), lo 1, if_neg (by omega), if_neg (by omega), if_neg (by omega), if_neg (by omega), if_neg (by omega)]
    · rw [l (29 + j) (by omega), if_neg (by omega), lo (29 + j), if_neg (by omega)]
      by_cases q : j = n
      · rw [if_pos (by omega), if_pos q]
      · rw [if_neg (by omega), if_neg (by omega), if_neg (by omega), if_neg (by omega), if_neg q]
    · rw [l (36 + j) (by omega)]
      by_cases q : 4 * n ≤ j ∧ j < 4 * n + 4
      · rw [if_pos ⟨by omega, by omega⟩, if_pos q]
      · rw [if_neg (by omega), lo (36 + j), if_neg (by omega), if_neg (by omega), if_neg (by omega), if_neg (by omega), if_neg (by omega), if_neg q]
    · rw [l (64 + j) (by omega), if_neg (by omega), lo (64 + j)]
      by_cases q : j = n
      · rw [if_pos (by omega), if_pos q]
      · rw [if_neg (by omega), if_neg (by omega), if_neg (by omega), if_neg (by omega), if_neg (by omega), if_neg q]
theorem person9 {o : Ob} {p0 p1 : Int32} {y : Int32 × Ob} {n : Nat} (en : (gA o 3 0).toInt = (n : Int)) (hn : n ≤ 7) (h : f_X9_person o p0 p1 = some y) :
    (¬ ((0 ≤ p0.toInt ∧ p0.toInt ≤ 9) ∧ (p1 = -1 ∨ (0 ≤ p1.toInt ∧ p1.toInt < (n : Int)))) ∧ y.1 = -1 ∧ gA y.2 3 = gA o 3) ∨
    (((0 ≤ p0.toInt ∧ p0.toInt ≤ 9) ∧ (p1 = -1 ∨ (0 ≤ p1.toInt ∧ p1.toInt < (n : Int)))) ∧ ((n = 7 ∧ y.1 = -5 ∧ gA y.2 3 = gA o 3) ∨
      (n < 7 ∧ y.1 = gA o 3 0 ∧ gA y.2 3 0 = gA o 3 0 + 1 ∧ gA y.2 3 1 = gA o 3 1 ∧ (∀ j, j < 7 → gA y.2 3 (29 + j) = if j = n then p1 else gA o 3 (29 + j)) ∧ (∀ j, j < 28 → gA y.2 3 (36 + j) = if 4 * n ≤ j ∧ j < 4 * n + 4 then 0 else gA o 3 (36 + j)) ∧ (∀ j, j < 7 → gA y.2 3 (64 + j) = if j = n then 0 else gA o 3 (64 + j))))) := by
  unfold f_X9_person at h
  obtain ⟨o1, eo1, h⟩ := z_lt h
  have g1 : gA o1 3 = gA o 3 := by rw [eo1]; rfl
  have h30 : bk_X9_person_30 o1 = some y → y.1 = -1 ∧ gA y.2 3 = gA o 3 := by
    intro h
    unfold bk_X9_person_30 at h
    obtain ⟨z, ez, h⟩ := z_bd h
    rw [← Option.some.inj h, ← g1]; exact ⟨(tell_3 ez).1, (tell_3 ez).2.1⟩
  have h36 := fun h => pers36 (o := o1) (v1 := p0) (v2 := p1) (y := y) (n := n) (by rw [g1]; exact en) hn h
  rw [g1] at h36
  obtain ⟨z2, ez2, h⟩ := z_bd h
  rcases in9 (m := 0) (n := 9) (by decide) (by decide) ez2 with ⟨a, b⟩ | ⟨a, b⟩
  · exact Or.inl ⟨fun q => b q.1, h30 (z_t h a)⟩
  · have h := z_f h a
    by_cases c : p1 = (-1 : Int32)
    · exact Or.inr ⟨⟨b, Or.inl c⟩, h36 (z_t h c)⟩
    · obtain ⟨z, ez, h⟩ := z_bd (z_f h c)
      rcases isP9 ez (by rw [g1]; omega) with ⟨d, e⟩ | ⟨d, e⟩
      · rw [g1, en] at e
        exact Or.inl ⟨fun q => q.2.elim c e, h30 (z_t h d)⟩
      · rw [g1, en] at e
        exact Or.inr ⟨⟨b, Or.inr e⟩, h36 (z_f h d)⟩
theorem pers29 {o0 o4 o5 o11 : Ob} {v1 v2 : Int32} {y : Int32 × Ob × Ob × Ob × Ob} {n : Nat} (en : (gI o4 7).toInt = (n : Int)) (hn : n ≤ 7) (h : bk_X8_person_29 v1 v2 o0 o4 o5 o11 = some y) : (n = 7 ∧ y.1 = -5 ∧ y.2.2.1 = o4) ∨
    (n < 7 ∧ y.1 = gI o4 7 ∧ gI y.2.2.1 7 = gI o4 7 + 1 ∧ gI y.2.2.1 8 = gI o4 8 ∧ (∀ j, gA y.2.2.1 1 j = if j = n then v2 else gA o4 1 j) ∧ gA y.2.2.1 2 = gA o4 2 ∧ gA y.2.2.1 3 = gA o4 3) := by
  unfold bk_X8_person_29 at h
  by_cases c : gI o4 7 < (7 : Int32)
  · have d := cv_lt (a := (n : Int)) (b := 7) en (by decide) c
    obtain ⟨z3, -, h⟩ := z_bd (z_t h c)
    obtain ⟨z4, ez4, h⟩ := z_bd h
    obtain ⟨z5, ez5, h⟩ := z_bd h
    unfold f_X2_addPerson at ez4
    obtain ⟨-, ez4⟩ := z_gd (z_t ez4 c)
    obtain ⟨u2, f2, ez4⟩ := z_lt ez4
    obtain ⟨-, ez4⟩ := z_gd ez4
    obtain ⟨u4, f4, ez4⟩ := z_lt ez4
    obtain ⟨u5, f5, ez4⟩ := z_lt ez4
    have ez4 := Option.some.inj ez4
    have i7 : (gI o4 7).toNatClampNeg = n := tnc_eq en
    rw [i7] at f4
    have k7 : gI u5 7 = gI o4 7 + 1 := by rw [f5, f4]; rfl
    have w1 : ((gI o4 7 + 1) - (1 : Int32)).toInt = (n : Int) + 1 - 1 := i32_sub (i32_add en (by decide) (by omega) (by omega)) (by decide) (by omega) (by omega)
    have ey : y.2.2.1 = u5 := by rw [← Option.some.inj h, ← ez4]
    refine Or.inr ⟨by omega, ?_, ?_, ?_, ?_, ?_, ?_⟩
    · rw [← Option.some.inj h]; show z5.1 = _
      rw [grant_ret ez5, ← ez4]; show gI u5 7 - 1 = _
      rw [k7]; exact Int32.toInt_inj.mp (by omega)
    · rw [ey]; exact k7
    · rw [ey, f5, f4]; rfl
    · intro j
      rw [ey, f5, f4]; rfl
    · rw [ey, f5, f4]; rfl
    · rw [ey, f5, f4]; rfl
  · have d := cv_nlt (a := (n : Int)) (b := 7) en (by decide) c
    obtain ⟨z6, ez6, h⟩ := z_bd (z_f h c)
    refine Or.inl ⟨by omega, ?_⟩
    rw [← Option.some.inj h]; exact ⟨refuse_ret ez6, rfl⟩
theorem person8 {o0 o4 o5 o11 : Ob} {p0 p1 : Int32} {y : Int32 × Ob × Ob × Ob × Ob} {n : Nat} (en : (gI o4 7).toInt = (n : Int)) (hn : n ≤ 7) (h : f_X8_person o0 o4 o5 o11 p0 p1 = some y) :
    (¬ ((0 ≤ p0.toInt ∧ p0.toInt ≤ 9) ∧ (p1 = -1 ∨ (0 ≤ p1.toInt ∧ p1.toInt < (n : Int)))) ∧ y.1 = -1 ∧ y.2.2.1 = o4) ∨
    (((0 ≤ p0.toInt ∧ p0.toInt ≤ 9) ∧ (p1 = -1 ∨ (0 ≤ p1.toInt ∧ p1.toInt < (n : Int)))) ∧ ((n = 7 ∧ y.1 = -5 ∧ y.2.2.1 = o4) ∨
      (n < 7 ∧ y.1 = gI o4 7 ∧ gI y.2.2.1 7 = gI o4 7 + 1 ∧ gI y.2.2.1 8 = gI o4 8 ∧ (∀ j, gA y.2.2.1 1 j = if j = n then p1 else gA o4 1 j) ∧ gA y.2.2.1 2 = gA o4 2 ∧ gA y.2.2.1 3 = gA o4 3))) := by
  unfold f_X8_person at h
  have h23 : bk_X8_person_23 o0 o4 o5 o11 = some y → y.1 = -1 ∧ y.2.2.1 = o4 := by
    intro h
    unfold bk_X8_person_23 at h
    obtain ⟨z, ez, h⟩ := z_bd h
    rw [← Option.some.inj h]; exact ⟨refuse_ret ez, rfl⟩
  have h29 := fun h => pers29 (o0 := o0) (o4 := o4) (o5 := o5) (o11 := o11) (v1 := p0) (v2 := p1) (y := y) (n := n) en hn h
  obtain ⟨z1, ez1, h⟩ := z_bd h
  rcases isT8 ez1 with ⟨a, b⟩ | ⟨a, b⟩
  · exact Or.inl ⟨fun q => b ⟨q.1.1, by omega⟩, h23 (z_t h a)⟩
  · have h := z_f h a
    by_cases c : p1 = (-1 : Int32)
    · exact Or.inr ⟨⟨⟨b.1, by omega⟩, Or.inl c⟩, h29 (z_t h c)⟩
    · obtain ⟨z, ez, h⟩ := z_bd (z_f h c)
      rcases isP2 ez with ⟨d, e⟩ | ⟨d, e⟩
      · rw [en] at e
        exact Or.inl ⟨fun q => q.2.elim c e, h23 (z_t h d)⟩
      · rw [en] at e
        exact Or.inr ⟨⟨⟨b.1, by omega⟩, Or.inr e⟩, h29 (z_f h d)⟩
-- beats
theorem xor01 {x p s : Int32} (hx : 0 ≤ x.toInt ∧ x.toInt ≤ 1) (hp : 0 ≤ p.toInt ∧ p.toInt ≤ 1) (hs : 0 ≤ s.toInt ∧ s.toInt ≤ 7) : (x ^^^ p) <<< (s &&& 31) = if x = p then 0 else (1 : Int32) <<< (s &&& 31) := by
  have e : ∀ z : Int32, 0 ≤ z.toInt → z.toInt ≤ 1 → z = 0 ∨ z = 1 := by
    intro z h0 h1
    rcases (show z.toInt = 0 ∨ z.toInt = 1 by omega) with h | h
    · exact Or.inl (Int32.toInt_inj.mp (h.trans (by decide)))
    · exact Or.inr (Int32.toInt_inj.mp (h.trans (by decide)))
  rcases e x hx.1 hx.2 with h | h <;> rcases e p hp.1 hp.2 with h' | h' <;> rcases i32_cases8 hs.1 hs.2 with q | q | q | q | q | q | q | q <;> rw [h, h', q] <;> decide
theorem beats9 {o : Ob} {p0 p1 p2 : Int32} {y : Int32 × Ob} {n : Nat} (en : (gA o 3 0).toInt = (n : Int)) (hn : n ≤ 7) (h : f_X9_beats o p0 p1 p2 = some y) :
    (¬ (¬ p0 = p1 ∧ 0 ≤ p2.toInt ∧ p2.toInt ≤ 1) ∧ y.1 = -1 ∧ gA y.2 3 = gA o 3) ∨
    ((¬ p0 = p1 ∧ 0 ≤ p2.toInt ∧ p2.toInt ≤ 1) ∧ ((¬ ((0 ≤ p0.toInt ∧ p0.toInt < (n : Int)) ∧ 0 ≤ p1.toInt ∧ p1.toInt < (n : Int)) ∧ y.1 = -2 ∧ gA y.2 3 = gA o 3) ∨
      (((0 ≤ p0.toInt ∧ p0.toInt < (n : Int)) ∧ 0 ≤ p1.toInt ∧ p1.toInt < (n : Int)) ∧ y.1 = ((gA o 3 (64 + p0.toNatClampNeg)) >>> (p1 &&& 31)) &&& (1 : Int32) ∧
        ∀ j, gA y.2 3 j = if j = 64 + p0.toNatClampNeg then (gA o 3 (64 + p0.toNatClampNeg)) ^^^ (if y.1 = p2 then 0 else (1 : Int32) <<< (p1 &&& 31)) else gA o 3 j))) := by
  unfold f_X9_beats at h
  obtain ⟨o1, eo1, h⟩ := z_lt h
  have g1 : gA o1 3 = gA o 3 := by rw [eo1]; rfl
  have h20 : bk_X9_beats_20 o1 = some y → y.1 = -1 ∧ gA y.2 3 = gA o 3 := by
    intro h
    unfold bk_X9_beats_20 at h
    obtain ⟨z, ez, h⟩ := z_bd h
    rw [← Option.some.inj h, ← g1]; exact ⟨(tell_3 ez).1, (tell_3 ez).2.1⟩
  have h42 : bk_X9_beats_42 o1 = some y → y.1 = -2 ∧ gA y.2 3 = gA o 3 := by
    intro h
    unfold bk_X9_beats_42 at h
    obtain ⟨z, ez, h⟩ := z_bd h
    rw [← Option.some.inj h, ← g1]; exact ⟨(tell_3 ez).1, (tell_3 ez).2.1⟩
  by_cases c : p0 = p1
  · exact Or.inl ⟨fun q => q.1 c, h20 (z_t h c)⟩
  · obtain ⟨z3, ez3, h⟩ := z_bd (z_f h c)
    rcases in9 (m := 0) (n := 1) (by decide) (by decide) ez3 with ⟨a, b⟩ | ⟨a, b⟩
    · exact Or.inl ⟨fun q => b q.2, h20 (z_t h a)⟩
    · refine Or.inr ⟨⟨c, b⟩, ?_⟩
      have hp : 0 ≤ (gA o1 3 0).toInt ∧ (gA o1 3 0).toInt ≤ 7 := by rw [g1]; omega
      obtain ⟨z4, ez4, h⟩ := z_bd (z_f h a)
      rcases isP9 ez4 hp with ⟨d, e⟩ | ⟨d, e⟩
      · rw [g1, en] at e
        exact Or.inl ⟨fun q => e q.1, h42 (z_t h d)⟩
      · rw [g1, en] at e
        obtain ⟨z6, ez6, h⟩ := z_bd (z_f h d)
        rcases isP9 ez6 hp with ⟨f, g⟩ | ⟨f, g⟩
        · rw [g1, en] at g
          exact Or.inl ⟨fun q => g q.2, h42 (z_t h f)⟩
        · rw [g1, en] at g
          obtain ⟨-, h⟩ := z_gd (z_f h f)
          obtain ⟨x8, e8, h⟩ := z_lt h
          obtain ⟨x9, e9, h⟩ := z_lt h
          obtain ⟨-, h⟩ := z_gd h
          have s9 : ((64 : Int32) + p0).toInt = 64 + p0.toInt := i32_add (by decide) rfl (by omega) (by omega)
          have ec : p0.toNatClampNeg = p0.toInt.toNat := rfl
          have i9 : ((64 : Int32) + p0).toNatClampNeg = 64 + p0.toNatClampNeg := tnc_eq (by rw [s9, ec]; omega)
          have j9 : x9.toNatClampNeg = 64 + p0.toNatClampNeg := by rw [e9]; exact i9
          rw [i9, g1] at e8
          have h87 : ∀ s0 : Int32, bk_X9_beats_87 x8 s0 (gA o1 3 x9.toNatClampNeg) x9 o1 = some y → y.1 = x8 ∧ ∀ j, gA y.2 3 j = if j = 64 + p0.toNatClampNeg then (gA o 3 (64 + p0.toNatClampNeg)) ^^^ s0 else gA o 3 j := by
            intro s0 h
            unfold bk_X9_beats_87 at h
            obtain ⟨-, h⟩ := z_gd h
            obtain ⟨o12, e12, h⟩ := z_lt h
            obtain ⟨z, ez, h⟩ := z_bd h
            rw [j9] at e12
            rw [← Option.some.inj h]
            refine ⟨(tell_3 ez).1, fun j => ?_⟩
            show gA z.2 3 j = _
            rw [(tell_3 ez).2.1, e12, t3_at, g1]
          refine Or.inr ⟨⟨e, g⟩, ?_⟩
          by_cases k : x8 = p2
          · obtain ⟨q1, q2⟩ := h87 _ (z_t h k)
            refine ⟨q1.trans e8, fun j => ?_⟩
            rw [q2 j, q1, if_pos k]
          · obtain ⟨q1, q2⟩ := h87 _ (z_f h k)
            refine ⟨q1.trans e8, fun j => ?_⟩
            rw [q2 j, q1, if_neg k]
theorem beats8 {o0 o4 : Ob} {p0 p1 p2 : Int32} {y : Int32 × Ob × Ob} {n : Nat} (en : (gI o4 7).toInt = (n : Int)) (hn : n ≤ 7) (h : f_X8_beats o0 o4 p0 p1 p2 = some y) :
    (¬ (¬ p0 = p1 ∧ 0 ≤ p2.toInt ∧ p2.toInt ≤ 1) ∧ y.1 = -1 ∧ y.2.2 = o4) ∨
    ((¬ p0 = p1 ∧ 0 ≤ p2.toInt ∧ p2.toInt ≤ 1) ∧ ((¬ ((0 ≤ p0.toInt ∧ p0.toInt < (n : Int)) ∧ 0 ≤ p1.toInt ∧ p1.toInt < (n : Int)) ∧ y.1 = -2 ∧ y.2.2 = o4) ∨
      (((0 ≤ p0.toInt ∧ p0.toInt < (n : Int)) ∧ 0 ≤ p1.toInt ∧ p1.toInt < (n : Int)) ∧ y.1 = ((gA o4 3 p0.toNatClampNeg) >>> (p1 &&& 31)) &&& (1 : Int32) ∧
        y.2.2 = tA o4 3 p0.toNatClampNeg ((gA o4 3 p0.toNatClampNeg) ^^^ (if y.1 = p2 then 0 else (1 : Int32) <<< (p1 &&& 31)))))) := by
  unfold f_X8_beats at h
  have h14 : bk_X8_beats_14 o0 o4 = some y → y.1 = -1 ∧ y.2.2 = o4 := by
    intro h
    unfold bk_X8_beats_14 at h
    obtain ⟨z, ez, h⟩ := z_bd h
    rw [← Option.some.inj h]; exact ⟨refuse_ret ez, rfl⟩
  have h42 : bk_X8_beats_42 o0 o4 = some y → y.1 = -2 ∧ y.2.2 = o4 := by
    intro h
    unfold bk_X8_beats_42 at h
    obtain ⟨z, ez, h⟩ := z_bd h
    rw [← Option.some.inj h]; exact ⟨refuse_ret ez, rfl⟩
  by_cases c : p0 = p1
  · exact Or.inl ⟨fun q => q.1 c, h14 (z_t h c)⟩
  · have h := z_f h c
    by_cases c1 : p2 < (0 : Int32)
    · have d := cv_lt (a := p2.toInt) (b := 0) rfl (by decide) c1
      exact Or.inl ⟨fun q => by omega, h14 (z_t h c1)⟩
    · have h := z_f h c1
      have d := cv_nlt (a := p2.toInt) (b := 0) rfl (by decide) c1
      by_cases c2 : p2 ≤ (1 : Int32)
      · have d2 := cv_le (a := p2.toInt) (b := 1) rfl (by decide) c2
        have h := z_t h c2
        refine Or.inr ⟨⟨c, d, d2⟩, ?_⟩
        obtain ⟨z2, ez2, h⟩ := z_bd h
        rcases isP2 ez2 with ⟨e, f⟩ | ⟨e, f⟩
        · rw [en] at f
          exact Or.inl ⟨fun q => f q.1, h42 (z_t h e)⟩
        · rw [en] at f
          obtain ⟨z4, ez4, h⟩ := z_bd (z_f h e)
          rcases isP2 ez4 with ⟨g, k⟩ | ⟨g, k⟩
          · rw [en] at k
            exact Or.inl ⟨fun q => k q.2, h42 (z_t h g)⟩
          · rw [en] at k
            obtain ⟨-, h⟩ := z_gd (z_f h g)
            obtain ⟨x6, e6, h⟩ := z_lt h
            obtain ⟨-, h⟩ := z_gd h
            obtain ⟨-, h⟩ := z_gd h
            obtain ⟨o9, e9, h⟩ := z_lt h
            obtain ⟨z10, ez10, h⟩ := z_bd h
            have r6 : 0 ≤ x6.toInt ∧ x6.toInt ≤ 1 := by rw [e6]; exact i32_and ⟨by decide, by decide⟩
            rw [xor01 r6 ⟨d, d2⟩ ⟨k.1, by omega⟩] at e9
            have q1 : y.1 = x6 := by rw [← Option.some.inj h]; exact grant_ret ez10
            refine Or.inr ⟨⟨f, k⟩, q1.trans e6, ?_⟩
            rw [q1, ← Option.some.inj h]; exact e9
      · have d2 := cv_nle (a := p2.toInt) (b := 1) rfl (by decide) c2
        exact Or.inl ⟨fun q => by omega, h14 (z_f h c2)⟩
-- the tape's size behind row, law, orders
theorem endText_13 {o z : Ob} (e : f_X9_endText o = some z) : gI z 13 = 0 := by
  unfold f_X9_endText at e
  have h19 : ∀ q : Ob, bk_X9_endText_19 q = some z → gI z 13 = 0 := by
    intro q hq
    have hq : some (sI (sI q 20 (0 : Int32)) 13 (0 : Int32)) = some z := hq
    rw [← Option.some.inj hq]; rfl
  by_cases c : gI o 19 = 0
  · have e := z_t e c
    by_cases d : gI o 16 = 0
    · exact h19 _ (z_t e d)
    · obtain ⟨w, -, e⟩ := z_bd (z_f e d)
      exact h19 _ e
  · exact h19 _ (z_f e c)
theorem l145_13 {y : Int32 × Ob} : ∀ (N : Nat) (v1 v2 : Int32) (o : Ob), lp_X9_law_145 N (v1, v2, o) = some y → gI y.2 13 = gI o 13 := by
  intro N
  induction N with
  | zero => intro v1 v2 o h; cases h
  | succ N ih =>
    intro v1 v2 o h
    have h : lb_X9_law_145 (lp_X9_law_145 N) v1 v2 o = some y := h
    unfold lb_X9_law_145 at h
    by_cases c : gI o 23 ≤ v2
    · obtain ⟨o8, e8, h⟩ := z_lt (z_t h c)
      obtain ⟨z, ez, h⟩ := z_bd h
      rw [← Option.some.inj h]; show gI z.2 13 = _
      rw [(tell_3 ez).2.2.2.1, e8]; rfl
    · obtain ⟨-, h⟩ := z_gd (z_f h c)
      obtain ⟨-, h⟩ := z_gd h
      obtain ⟨o12, e12, h⟩ := z_lt h
      obtain ⟨-, h⟩ := z_gd h
      obtain ⟨-, h⟩ := z_gd h
      obtain ⟨o15, e15, h⟩ := z_lt h
      obtain ⟨x16, -, h⟩ := z_lt h
      rw [ih _ _ _ h, e15, e12]; rfl
theorem l110_13 {y : Int32 × Ob} : ∀ (N : Nat) (v1 v2 : Int32) (o : Ob), lp_X9_law_110 N (v1, v2, o) = some y → gI y.2 13 = gI o 13 := by
  intro N
  induction N with
  | zero => intro v1 v2 o h; cases h
  | succ N ih =>
    intro v1 v2 o h
    have h : lb_X9_law_110 (lp_X9_law_110 N) v1 v2 o = some y := h
    unfold lb_X9_law_110 at h
    by_cases c : (8 : Int32) * gI o 21 ≤ v2
    · exact l145_13 _ _ _ _ (z_t h c)
    · obtain ⟨-, h⟩ := z_gd (z_f h c)
      obtain ⟨-, h⟩ := z_gd h
      obtain ⟨o19, e19, h⟩ := z_lt h
      obtain ⟨x20, -, h⟩ := z_lt h
      rw [ih _ _ _ h, e19]; rfl
theorem law64_13 {o : Ob} {y : Int32 × Ob} (h : bk_X9_law_64 o = some y) : gI y.2 13 = 0 := by
  unfold bk_X9_law_64 at h
  obtain ⟨z4, ez4, h⟩ := z_bd h
  have e := endText_13 ez4
  by_cases c : gI z4 19 = 0
  · obtain ⟨x5, -, h⟩ := z_lt (z_t h c)
    obtain ⟨-, h⟩ := z_gd h
    obtain ⟨o7, e7, h⟩ := z_lt h
    rw [l110_13 _ _ _ _ h, e7]; exact e
  · obtain ⟨z, ez, h⟩ := z_bd (z_f h c)
    rw [← Option.some.inj h]; show gI z.2 13 = _
    rw [(tell_3 ez).2.2.2.1]; exact e
theorem l37_13 {y : Int32 × Ob} : ∀ (N : Nat) (o : Ob), lp_X9_law_37 N o = some y → gI y.2 13 = 0 := by
  intro N
  induction N with
  | zero => intro o h; cases h
  | succ N ih =>
    intro o h
    have h : lb_X9_law_37 (lp_X9_law_37 N) o = some y := h
    unfold lb_X9_law_37 at h
    by_cases c : gI o 19 = 0
    · obtain ⟨z22, -, h⟩ := z_bd (z_t h c)
      by_cases d : z22 = 0
      · exact law64_13 (z_t h d)
      · obtain ⟨z23, -, h⟩ := z_bd (z_f h d)
        obtain ⟨z24, -, h⟩ := z_bd h
        exact ih _ h
    · exact law64_13 (z_f h c)
theorem law9_13 {o : Ob} {y : Int32 × Ob} (h : f_X9_law o = some y) : gI y.2 13 = 0 := by
  unfold f_X9_law at h
  obtain ⟨o1, -, h⟩ := z_lt h
  by_cases c : gA o1 3 (2 : Int32).toNatClampNeg = 6
  · obtain ⟨o25, e25, h⟩ := z_lt (z_t h c)
    obtain ⟨z, ez, h⟩ := z_bd h
    rw [← Option.some.inj h]; show gI z.2 13 = _
    rw [(tell_3 ez).2.2.2.1, e25]; rfl
  · obtain ⟨z2, -, h⟩ := z_bd (z_f h c)
    obtain ⟨z3, -, h⟩ := z_bd h
    exact l37_13 _ _ h
theorem l58_13 {y : Int32 × Ob} {rec35 : Int32 × Int32 × Int32 × Ob → Option (Int32 × Ob)} {v1 v2 v3 : Int32} (hrec : ∀ (w2 w3 : Int32) (o' : Ob), rec35 (v1, w2, w3, o') = some y → gI y.2 13 = gI o' 13) : ∀ (N : Nat) (v4 : Int32) (o : Ob), lp_X9_row_58 rec35 N (v1, v2, v3, v4, o) = some y → gI y.2 13 = gI o 13 := by
  intro N
  induction N with
  | zero => intro v4 o h; cases h
  | succ N ih =>
    intro v4 o h
    have h : lb_X9_row_58 rec35 (lp_X9_row_58 rec35 N) v1 v2 v3 v4 o = some y := h
    unfold lb_X9_row_58 at h
    by_cases c : (4 : Int32) ≤ v4
    · obtain ⟨x9, -, h⟩ := z_lt (z_t h c)
      unfold bk_X9_row_116 at h
      obtain ⟨x7, -, h⟩ := z_lt h
      exact hrec _ _ _ h
    · obtain ⟨-, h⟩ := z_gd (z_f h c)
      obtain ⟨-, h⟩ := z_gd h
      obtain ⟨-, h⟩ := z_gd h
      obtain ⟨o13, e13, h⟩ := z_lt h
      obtain ⟨x14, -, h⟩ := z_lt h
      rw [ih _ _ h, e13]; rfl
theorem l35_13 {y : Int32 × Ob} {v1 : Int32} : ∀ (N : Nat) (v2 v3 : Int32) (o : Ob), lp_X9_row_35 N (v1, v2, v3, o) = some y → gI y.2 13 = gI o 13 := by
  intro N
  induction N with
  | zero => intro v2 v3 o h; cases h
  | succ N ih =>
    intro v2 v3 o h
    have h : lb_X9_row_35 (lp_X9_row_35 N) v1 v2 v3 o = some y := h
    unfold lb_X9_row_35 at h
    have h106 : bk_X9_row_106 (lp_X9_row_35 N) v1 v2 v3 o = some y → gI y.2 13 = gI o 13 := by
      intro h
      unfold bk_X9_row_106 at h
      obtain ⟨o6, e6, h⟩ := z_lt h
      unfold bk_X9_row_116 at h
      obtain ⟨x7, -, h⟩ := z_lt h
      rw [ih _ _ _ h, e6]; rfl
    by_cases c : v1 ≤ v3
    · obtain ⟨z, ez, h⟩ := z_bd (z_t h c)
      rw [← Option.some.inj h]; exact (tell_3 ez).2.2.2.1
    · have h := z_f h c
      by_cases d : v1 ≤ v3 + (4 : Int32)
      · exact h106 (z_t h d)
      · obtain ⟨z8, -, h⟩ := z_bd (z_f h d)
        by_cases e : z8 = 0
        · exact h106 (z_t h e)
        · exact l58_13 (fun w2 w3 o' q => ih w2 w3 o' q) _ _ _ (z_f h e)
theorem row9_13 {o : Ob} {y : Int32 × Ob} (h : f_X9_row o = some y) : gI y.2 13 = 0 := by
  unfold f_X9_row at h
  obtain ⟨o1, -, h⟩ := z_lt h
  obtain ⟨x2, -, h⟩ := z_lt h
  obtain ⟨o3, e3, h⟩ := z_lt h
  by_cases c : x2 = 0
  · obtain ⟨z, ez, h⟩ := z_bd (z_t h c)
    rw [← Option.some.inj h]; show gI z.2 13 = _
    rw [(tell_3 ez).2.2.2.1, e3]; rfl
  · obtain ⟨o4, e4, h⟩ := z_lt (z_f h c)
    rw [l35_13 _ _ _ _ h, e4, e3]; rfl
theorem l26_2 {y : Int32 × Ob × Ob × Ob} : ∀ (N : Nat) (v1 v2 : Int32) (o0 o1 o4 : Ob), lp_X8_row_26 N (v1, v2, o0, o1, o4) = some y → gI y.2.2.1 2 = 0 := by
  intro N
  induction N with
  | zero => intro v1 v2 o0 o1 o4 h; cases h
  | succ N ih =>
    intro v1 v2 o0 o1 o4 h
    have h : lb_X8_row_26 (lp_X8_row_26 N) v1 v2 o0 o1 o4 = some y := h
    unfold lb_X8_row_26 at h
    by_cases c : gI o1 2 ≤ v2
    · obtain ⟨o2, e2, h⟩ := z_lt (z_t h c)
      obtain ⟨z, -, h⟩ := z_bd h
      rw [← Option.some.inj h]; show gI o2 2 = _
      rw [e2]; rfl
    · obtain ⟨z4, -, h⟩ := z_bd (z_f h c)
      by_cases d : z4.1 = 0
      · obtain ⟨o5, -, h⟩ := z_lt (z_t h d)
        unfold bk_X8_row_61 at h
        obtain ⟨x6, -, h⟩ := z_lt h
        exact ih _ _ _ _ _ h
      · obtain ⟨x7, -, h⟩ := z_lt (z_f h d)
        unfold bk_X8_row_61 at h
        obtain ⟨x6, -, h⟩ := z_lt h
        exact ih _ _ _ _ _ h
theorem row8_2 {o0 o1 o4 : Ob} {y : Int32 × Ob × Ob × Ob} (h : f_X8_row o0 o1 o4 = some y) : gI y.2.2.1 2 = 0 := by
  unfold f_X8_row at h
  by_cases c : gI o1 2 = 0
  · obtain ⟨z, -, h⟩ := z_bd (z_t h c)
    rw [← Option.some.inj h]; exact c
  · obtain ⟨x, -, h⟩ := z_lt (z_f h c)
    exact l26_2 _ _ _ _ _ _ h
theorem l89_2 {nc ns : Nat} {o4 : Ob} {pl : List CR} {y : Int32 × Ob × Ob × Ob × Ob × Ob × Ob × Ob × Ob × Ob} {r78 : Int32 × Ob × Ob × Ob × Ob × Ob × Ob × Ob × Ob × Ob → Option (Int32 × Ob × Ob × Ob × Ob × Ob × Ob × Ob × Ob × Ob)} (hrec : ∀ x, r78 x = some y → y.2.2.1 = x.2.2.1) : ∀ (N : Nat) (v3 v4 : Int32) (a b c d e f g i k : Ob), lp_X8_orders_89 nc ns o4 pl r78 N (v3, v4, a, b, c, d, e, f, g, i, k) = some y → y.2.2.1 = b := by
  intro N
  induction N with
  | zero => intro v3 v4 a b c d e f g i k h; cases h
  | succ N ih =>
    intro v3 v4 a b c d e f g i k h
    have h : lb_X8_orders_89 nc ns o4 pl r78 (lp_X8_orders_89 nc ns o4 pl r78 N) v3 v4 a b c d e f g i k = some y := h
    unfold lb_X8_orders_89 at h
    obtain ⟨-, h⟩ := z_gd h
    by_cases q : gA c 1 v3.toNatClampNeg ≤ v4
    · obtain ⟨x10, -, h⟩ := z_lt (z_t h q)
      exact hrec _ h
    · obtain ⟨z11, -, h⟩ := z_bd (z_f h q)
      by_cases q2 : z11.1 = 0
      · obtain ⟨o13, -, h⟩ := z_lt (z_t h q2)
        obtain ⟨z14, -, h⟩ := z_bd h
        obtain ⟨z15, -, h⟩ := z_bd h
        obtain ⟨z16, -, h⟩ := z_bd h
        rw [← Option.some.inj h]
      · obtain ⟨x12, -, h⟩ := z_lt (z_f h q2)
        exact ih _ _ _ _ _ _ _ _ _ _ _ h
theorem l78_2 {nc ns : Nat} {o4 : Ob} {pl : List CR} {y : Int32 × Ob × Ob × Ob × Ob × Ob × Ob × Ob × Ob × Ob} : ∀ (N : Nat) (x : Int32 × Ob × Ob × Ob × Ob × Ob × Ob × Ob × Ob × Ob), lp_X8_orders_78 nc ns o4 pl N x = some y → y.2.2.1 = x.2.2.1 := by
  intro N
  induction N with
  | zero => intro x h; cases h
  | succ N ih =>
    intro x h
    obtain ⟨v3, a, b, c, d, e, f, g, i, k⟩ := x
    have h : lb_X8_orders_78 nc ns o4 pl (lp_X8_orders_78 nc ns o4 pl N) v3 a b c d e f g i k = some y := h
    unfold lb_X8_orders_78 at h
    by_cases q : gI c 7 ≤ v3
    · obtain ⟨z8, -, h⟩ := z_bd (z_t h q)
      rw [← Option.some.inj h]
    · exact l89_2 (fun x q => ih x q) _ _ _ _ _ _ _ _ _ _ _ _ (z_f h q)
theorem orders8_2 {nc ns : Nat} {a b c d e f g i k l : Ob} {pl : List CR} {y : Int32 × Ob × Ob × Ob × Ob × Ob × Ob × Ob × Ob × Ob} (h : f_X8_orders nc ns a b c d e f g i k l pl = some y) : gI y.2.2.1 2 = 0 := by
  unfold f_X8_orders at h
  obtain ⟨o1, -, h⟩ := z_lt h
  obtain ⟨z2, -, h⟩ := z_bd h
  obtain ⟨o3, e3, h⟩ := z_lt h
  have k3 : gI o3 2 = 0 := by rw [e3]; rfl
  by_cases q : z2.1 = 0
  · obtain ⟨z17, -, h⟩ := z_bd (z_t h q)
    rw [← Option.some.inj h]; exact k3
  · obtain ⟨z4, -, h⟩ := z_bd (z_f h q)
    obtain ⟨z5, -, h⟩ := z_bd h
    obtain ⟨o6, -, h⟩ := z_lt h
    obtain ⟨o7, -, h⟩ := z_lt h
    have w := l78_2 _ _ h
    rw [w]; exact k3
-- an isles' copy
theorem cpy0 {f g : Nat → Int32} {m : Int32} {n j : Nat} (hm : m.toNatClampNeg = n) (hj : j < n) : va_cpy f g (0 : Int32).toNatClampNeg (0 : Int32).toNatClampNeg m.toNatClampNeg j = f j := by
  unfold va_cpy
  have n0 : (0 : Int32).toNatClampNeg = 0 := by decide
  rw [n0, hm]
  split
  · have e : 0 + (j - 0) = j := by omega
    rw [e]
  · rename_i q
    exact absurd (by omega) q
theorem setO_l {pl : List CR} {a0 a0n : Ob} {y : Ob × Ob} : ∀ (N : Nat) (v2 : Int32) (o on : Ob), lp_X2_set_O_88 pl a0 a0n N (v2, o, on) = some y → gI y.1 7 = gI a0 7 ∧ gI y.1 8 = gI a0 8 ∧ gA y.1 1 = gA o 1 ∧ gA y.1 2 = gA o 2 ∧ gA y.1 3 = gA o 3 := by
  intro N
  induction N with
  | zero => intro v2 o on h; cases h
  | succ N ih =>
    intro v2 o on h
    have h : lb_X2_set_O_88 pl a0 a0n (lp_X2_set_O_88 pl a0 a0n N) v2 o on = some y := h
    unfold lb_X2_set_O_88 at h
    by_cases c : (6 : Int32) ≤ v2
    · obtain ⟨o12, e12, h⟩ := z_lt (z_t h c)
      obtain ⟨o13, e13, h⟩ := z_lt h
      obtain ⟨o14, e14, h⟩ := z_lt h
      obtain ⟨o15, e15, h⟩ := z_lt h
      obtain ⟨o16, e16, h⟩ := z_lt h
      obtain ⟨o17, e17, h⟩ := z_lt h
      rw [← Option.some.inj h, e17, e16, e15, e14, e13, e12]
      exact ⟨rfl, rfl, rfl, rfl, rfl⟩
    · obtain ⟨-, h⟩ := z_gd (z_f h c)
      obtain ⟨-, h⟩ := z_gd h
      obtain ⟨-, h⟩ := z_gd h
      obtain ⟨o21, e21, h⟩ := z_lt h
      obtain ⟨x22, -, h⟩ := z_lt h
      have w := ih _ _ _ h
      rw [e21] at w
      exact w
theorem setO_i {pl : List CR} {o on a0 a0n : Ob} {y : Ob × Ob} (h : f_X2_set_O o on pl a0 a0n = some y) : gI y.1 7 = gI a0 7 ∧ gI y.1 8 = gI a0 8 ∧ (∀ j, j < 7 → gA y.1 1 j = gA a0 1 j) ∧ (∀ j, j < 28 → gA y.1 2 j = gA a0 2 j) ∧ (∀ j, j < 7 → gA y.1 3 j = gA a0 3 j) := by
  unfold f_X2_set_O at h
  obtain ⟨z1, -, h⟩ := z_bd h
  obtain ⟨-, h⟩ := z_gd h
  obtain ⟨o3, e3, h⟩ := z_lt h
  obtain ⟨-, h⟩ := z_gd h
  obtain ⟨o5, e5, h⟩ := z_lt h
  obtain ⟨-, h⟩ := z_gd h
  obtain ⟨o7, e7, h⟩ := z_lt h
  obtain ⟨-, h⟩ := z_gd h
  obtain ⟨o9, e9, h⟩ := z_lt h
  obtain ⟨-, h⟩ := z_gd h
  obtain ⟨o11, e11, h⟩ := z_lt h
  obtain ⟨a, b, c, d, e⟩ := setO_l _ _ _ _ h
  have k1 : gA o11 1 = va_cpy (gA a0 1) (gA o 1) (0 : Int32).toNatClampNeg (0 : Int32).toNatClampNeg (7 : Int32).toNatClampNeg := by rw [e11, e9, e7, e5, e3]; rfl
  have k2 : gA o11 2 = va_cpy (gA a0 2) (gA o 2) (0 : Int32).toNatClampNeg (0 : Int32).toNatClampNeg (28 : Int32).toNatClampNeg := by rw [e11, e9, e7, e5, e3]; rfl
  have k3 : gA o11 3 = va_cpy (gA a0 3) (gA o 3) (0 : Int32).toNatClampNeg (0 : Int32).toNatClampNeg (7 : Int32).toNatClampNeg := by rw [e11, e9, e7, e5, e3]; rfl
  refine ⟨a, b, fun j hj => ?_, fun j hj => ?_, fun j hj => ?_⟩
  · rw [c, k1]; exact cpy0 (n := 7) (by decide) hj
  · rw [d, k2]; exact cpy0 (n := 28) (by decide) hj
  · rw [e, k3]; exact cpy0 (n := 7) (by decide) hj
-- images of the reference
theorem l9_img4 {y : Int32 × Ob} {v1 : Int32} {k : Nat} (e1 : v1.toInt = (k : Int)) (hk : k < 2) : ∀ (N : Nat) (v2 : Int32) (o : Ob) (n : Nat), v2.toInt = (n : Int) → n ≤ 5484 → lp_X9_image_23 N (v1, v2, o) = some y →
    (∀ i, n ≤ i → i < 5484 → gA y.2 4 (5484 * k + i) = gA o 3 i) ∧ (∀ j, j < 5484 * k + n ∨ 5484 * k + 5484 ≤ j → gA y.2 4 j = gA o 4 j) ∧ gA y.2 3 = gA o 3 ∧ (∀ j, gA y.2 5 j = if j = k then 1 else gA o 5 j) := by
  intro N
  induction N with
  | zero => intro v2 o n _ _ h; cases h
  | succ N ih =>
    intro v2 o n e2 hn h
    have h : lb_X9_image_23 (lp_X9_image_23 N) v1 v2 o = some y := h
    unfold lb_X9_image_23 at h
    by_cases c : (5484 : Int32) ≤ v2
    · have d := cv_le (a := 5484) (b := (n : Int)) (by decide) e2 c
      obtain ⟨-, h⟩ := z_gd (z_t h c)
      obtain ⟨o4, e4, h⟩ := z_lt h
      obtain ⟨z, ez, h⟩ := z_bd h
      have i1 : v1.toNatClampNeg = k := tnc_eq e1
      rw [i1] at e4
      obtain ⟨-, t3, t4, -, t5⟩ := tell_3 ez
      rw [← Option.some.inj h]
      refine ⟨fun i a b => by omega, fun j _ => ?_, ?_, fun j => ?_⟩
      · show gA z.2 4 j = _
        rw [t4, e4]; rfl
      · show gA z.2 3 = _
        rw [t3, e4]; rfl
      · show gA z.2 5 j = _
        rw [t5, e4]; rfl
    · have d := cv_nle (a := 5484) (b := (n : Int)) (by decide) e2 c
      obtain ⟨-, h⟩ := z_gd (z_f h c)
      obtain ⟨-, h⟩ := z_gd h
      obtain ⟨o8, e8, h⟩ := z_lt h
      obtain ⟨x9, e9, h⟩ := z_lt h
      have m1 : ((5484 : Int32) * v1).toInt = 5484 * (k : Int) := i32_mul (by decide) e1 (by omega) (by omega)
      have m2 : (((5484 : Int32) * v1) + v2).toInt = 5484 * (k : Int) + (n : Int) := i32_add m1 e2 (by omega) (by omega)
      have n1 : (((5484 : Int32) * v1) + v2).toNatClampNeg = 5484 * k + n := tnc_eq (by omega)
      have n2 : v2.toNatClampNeg = n := tnc_eq e2
      rw [n1, n2] at e8
      have t9 : x9.toInt = (n : Int) + 1 := by rw [e9]; exact i32_add e2 (by decide) (by omega) (by omega)
      obtain ⟨a, b, c3, c5⟩ := ih x9 o8 (n + 1) (by omega) (by omega) h
      have k3 : gA o8 3 = gA o 3 := by rw [e8]; rfl
      have k5 : gA o8 5 = gA o 5 := by rw [e8]; rfl
      have k4 : ∀ j, gA o8 4 j = if j = 5484 * k + n then gA o 3 n else gA o 4 j := by
        intro j
        rw [e8]; rfl
      refine ⟨fun i g1 g2 => ?_, fun j hj => ?_, c3.trans k3, fun j => by rw [c5 j, k5]⟩
      · by_cases q : i = n
        · rw [b _ (by omega), k4, if_pos (by omega), q]
        · rw [a i (by omega) g2, k3]
      · rw [b j (by omega), k4, if_neg (by omega)]
theorem image9 {o : Ob} {p : Int32} {y : Int32 × Ob} {k : Nat} (h : f_X9_image o p = some y) (ek : p.toInt = (k : Int)) (hk : k < 2) :
    (∀ i, i < 5484 → gA y.2 4 (5484 * k + i) = gA o 3 i) ∧ (∀ j, j < 5484 * k ∨ 5484 * k + 5484 ≤ j → gA y.2 4 j = gA o 4 j) ∧ gA y.2 3 = gA o 3 ∧ (∀ j, gA y.2 5 j = if j = k then 1 else gA o 5 j) := by
  unfold f_X9_image at h
  obtain ⟨o1, eo1, h⟩ := z_lt h
  obtain ⟨z2, ez2, h⟩ := z_bd h
  rcases in9 (m := 0) (n := 1) (by decide) (by decide) ez2 with ⟨a, b⟩ | ⟨a, b⟩
  · exact absurd ⟨by omega, by omega⟩ b
  · obtain ⟨c1, c2, c3, c5⟩ := l9_img4 ek hk _ _ _ 0 (by decide) (by decide) (z_f h a)
    have k3 : gA o1 3 = gA o 3 := by rw [eo1]; rfl
    have k4 : gA o1 4 = gA o 4 := by rw [eo1]; rfl
    have k5 : gA o1 5 = gA o 5 := by rw [eo1]; rfl
    rw [k3] at c1 c3
    rw [k4] at c2
    rw [k5] at c5
    exact ⟨fun i hi => c1 i (Nat.zero_le _) hi, fun j hj => c2 j (by omega), c3, c5⟩
theorem image9n {o : Ob} {p : Int32} {y : Int32 × Ob} (h : f_X9_image o p = some y) (hn : ¬ (0 ≤ p.toInt ∧ p.toInt ≤ 1)) : gA y.2 3 = gA o 3 ∧ gA y.2 4 = gA o 4 ∧ gA y.2 5 = gA o 5 := by
  unfold f_X9_image at h
  obtain ⟨o1, eo1, h⟩ := z_lt h
  obtain ⟨z2, ez2, h⟩ := z_bd h
  rcases in9 (m := 0) (n := 1) (by decide) (by decide) ez2 with ⟨a, b⟩ | ⟨a, b⟩
  · obtain ⟨z, ez, h⟩ := z_bd (z_t h a)
    obtain ⟨-, t3, t4, -, t5⟩ := tell_3 ez
    rw [← Option.some.inj h]
    refine ⟨?_, ?_, ?_⟩
    · show gA z.2 3 = _
      rw [t3, eo1]; rfl
    · show gA z.2 4 = _
      rw [t4, eo1]; rfl
    · show gA z.2 5 = _
      rw [t5, eo1]; rfl
  · exact absurd b hn
theorem l9_bck3 {y : Int32 × Ob} {v1 : Int32} {k : Nat} (e1 : v1.toInt = (k : Int)) (hk : k < 2) : ∀ (N : Nat) (v2 : Int32) (o : Ob) (n : Nat), v2.toInt = (n : Int) → n ≤ 5484 → lp_X9_back_39 N (v1, v2, o) = some y →
    (∀ i, n ≤ i → i < 5484 → gA y.2 3 i = gA o 4 (5484 * k + i)) ∧ (∀ i, i < n → gA y.2 3 i = gA o 3 i) ∧ gA y.2 4 = gA o 4 ∧ gA y.2 5 = gA o 5 := by
  intro N
  induction N with
  | zero => intro v2 o n _ _ h; cases h
  | succ N ih =>
    intro v2 o n e2 hn h
    have h : lb_X9_back_39 (lp_X9_back_39 N) v1 v2 o = some y := h
    unfold lb_X9_back_39 at h
    by_cases c : (5484 : Int32) ≤ v2
    · have d := cv_le (a := 5484) (b := (n : Int)) (by decide) e2 c
      obtain ⟨z, ez, h⟩ := z_bd (z_t h c)
      obtain ⟨-, t3, t4, t5⟩ := settled_3 ez
      rw [← Option.some.inj h]
      exact ⟨fun i a b => by omega, fun i _ => congrFun t3 i, t4, t5⟩
    · have d := cv_nle (a := 5484) (b := (n : Int)) (by decide) e2 c
      obtain ⟨-, h⟩ := z_gd (z_f h c)
      obtain ⟨-, h⟩ := z_gd h
      obtain ⟨o7, e7, h⟩ := z_lt h
      obtain ⟨x8, e8, h⟩ := z_lt h
      have m1 : ((5484 : Int32) * v1).toInt = 5484 * (k : Int) := i32_mul (by decide) e1 (by omega) (by omega)
      have m2 : (((5484 : Int32) * v1) + v2).toInt = 5484 * (k : Int) + (n : Int) := i32_add m1 e2 (by omega) (by omega)
      have n1 : (((5484 : Int32) * v1) + v2).toNatClampNeg = 5484 * k + n := tnc_eq (by omega)
      have n2 : v2.toNatClampNeg = n := tnc_eq e2
      rw [n1, n2] at e7
      have t8 : x8.toInt = (n : Int) + 1 := by rw [e8]; exact i32_add e2 (by decide) (by omega) (by omega)
      obtain ⟨a, b, c4, c5⟩ := ih x8 o7 (n + 1) (by omega) (by omega) h
      have k4 : gA o7 4 = gA o 4 := by rw [e7]; rfl
      have k5 : gA o7 5 = gA o 5 := by rw [e7]; rfl
      refine ⟨fun i g1 g2 => ?_, fun i hi => ?_, c4.trans k4, c5.trans k5⟩
      · by_cases q : i = n
        · rw [b i (by omega), e7, t3_at, if_pos q, q]
        · rw [a i (by omega) g2, k4]
      · rw [b i (by omega), e7, t3_at, if_neg (by omega)]
theorem back9 {o : Ob} {p : Int32} {y : Int32 × Ob} {k : Nat} (h : f_X9_back o p = some y) (ek : p.toInt = (k : Int)) (hk : k < 2) (hb : ¬ gA o 5 k = 0) : (∀ i, i < 5484 → gA y.2 3 i = gA o 4 (5484 * k + i)) ∧ gA y.2 4 = gA o 4 ∧ gA y.2 5 = gA o 5 := by
  unfold f_X9_back at h
  obtain ⟨o1, eo1, h⟩ := z_lt h
  obtain ⟨z2, ez2, h⟩ := z_bd h
  have k4 : gA o1 4 = gA o 4 := by rw [eo1]; rfl
  have k5 : gA o1 5 = gA o 5 := by rw [eo1]; rfl
  have ik : p.toNatClampNeg = k := tnc_eq ek
  rcases in9 (m := 0) (n := 1) (by decide) (by decide) ez2 with ⟨a, b⟩ | ⟨a, b⟩
  · exact absurd ⟨by omega, by omega⟩ b
  · obtain ⟨-, h⟩ := z_gd (z_f h a)
    obtain ⟨c1, c2, c4, c5⟩ := l9_bck3 ek hk _ _ _ 0 (by decide) (by decide) (z_f h (by rw [k5, ik]; exact hb))
    rw [k4] at c1 c4
    exact ⟨fun i hi => c1 i (Nat.zero_le _) hi, c4, c5.trans k5⟩
theorem back9n {o : Ob} {p : Int32} {y : Int32 × Ob} (h : f_X9_back o p = some y) (hn : ¬ (0 ≤ p.toInt ∧ p.toInt ≤ 1) ∨ gA o 5 p.toNatClampNeg = 0) : gA y.2 3 = gA o 3 ∧ gA y.2 4 = gA o 4 ∧ gA y.2 5 = gA o 5 := by
  unfold f_X9_back at h
  obtain ⟨o1, eo1, h⟩ := z_lt h
  obtain ⟨z2, ez2, h⟩ := z_bd h
  have hb : ∀ v : Int32, ((f_X9_tell o1 v).bind fun z => some (z.1, z.2)) = some y → gA y.2 3 = gA o 3 ∧ gA y.2 4 = gA o 4 ∧ gA y.2 5 = gA o 5 := by
    intro v h
    obtain ⟨z, ez, h⟩ := z_bd h
    obtain ⟨-, t3, t4, -, t5⟩ := tell_3 ez
    rw [← Option.some.inj h]
    refine ⟨?_, ?_, ?_⟩
    · show gA z.2 3 = _
      rw [t3, eo1]; rfl
    · show gA z.2 4 = _
      rw [t4, eo1]; rfl
    · show gA z.2 5 = _
      rw [t5, eo1]; rfl
  rcases in9 (m := 0) (n := 1) (by decide) (by decide) ez2 with ⟨a, b⟩ | ⟨a, b⟩
  · exact hb _ (z_t h a)
  · obtain ⟨-, h⟩ := z_gd (z_f h a)
    rcases hn with q | q
    · exact absurd b q
    · have k5 : gA o1 5 = gA o 5 := by rw [eo1]; rfl
      exact hb _ (z_t h (by rw [k5]; exact q))
theorem lawb_i {pl9 : List CR} {o8 o4 : Ob} {r : Option Nat} {y : Int32 × Ob × Ob} (h : f_X8_law_b pl9 o8 o4 r = some y) : gI y.2.2 7 = gI o4 7 ∧ gI y.2.2 8 = gI o4 8 ∧ gA y.2.2 1 = gA o4 1 ∧ gA y.2.2 3 = gA o4 3 := by
  unfold f_X8_law_b at h
  obtain ⟨z3, ez3, h⟩ := z_bd h
  obtain ⟨z4, -, h⟩ := z_bd h
  have w : gI z3.2 7 = gI o4 7 ∧ gI z3.2 8 = gI o4 8 ∧ gA z3.2 1 = gA o4 1 ∧ gA z3.2 3 = gA o4 3 := by
    unfold f_X2_addLaw_Q at ez3
    by_cases c : gI o4 9 < (6 : Int32)
    · obtain ⟨-, ez3⟩ := z_gd (z_t ez3 c)
      obtain ⟨-, ez3⟩ := z_gd ez3
      obtain ⟨o3, e3, ez3⟩ := z_lt ez3
      obtain ⟨o4', e4, ez3⟩ := z_lt ez3
      rw [← Option.some.inj ez3, e4, e3]; exact ⟨rfl, rfl, rfl, rfl⟩
    · rw [← Option.some.inj (z_f ez3 c)]; exact ⟨rfl, rfl, rfl, rfl⟩
  rw [← Option.some.inj h]; exact w
-- images, laws that come
def IK (rI : Nat → Option Nat) (im0 im1 : Option IR) : Prop :=
  (∀ j, 2 ≤ j → rI j = none) ∧ (∀ j, j < 2 → rI j = none ∨ (∃ r : IR, im0 = some r ∧ rI j = some r.1) ∨ (∃ r : IR, im1 = some r ∧ rI j = some r.1)) ∧
  ((∀ j, j < 2 → rI j = none) → im0 = none ∧ im1 = none) ∧ ((∃ j, j < 2 ∧ rI j = none) → im0 = none ∨ im1 = none)
theorem IK.eq {rI rI' : Nat → Option Nat} {im0 im1 : Option IR} (e : rI' = rI) (h : IK rI im0 im1) : IK rI' im0 im1 := by rw [e]; exact h
theorem IK.new0 {rI : Nat → Option Nat} {im1 : Option IR} {n : Nat} {r : IR} (h : IK rI none im1) (hn : n < 2) (e : rI n = none) : IK (va_up rI n (some r.1)) (some r) im1 := by
  have ea : ∀ j, va_up rI n (some r.1) j = if j = n then some r.1 else rI j := fun _ => rfl
  refine ⟨fun j hj => ?_, fun j hj => ?_, fun hh => ?_, fun ⟨j, hj, ej⟩ => ?_⟩
  · rw [ea, if_neg (by omega)]; exact h.1 j hj
  · rw [ea]
    by_cases c : j = n
    · rw [if_pos c]; exact Or.inr (Or.inl ⟨r, rfl, rfl⟩)
    · rw [if_neg c]
      rcases h.2.1 j hj with q | ⟨r', q, -⟩ | q
      · exact Or.inl q
      · cases q
      · exact Or.inr (Or.inr q)
  · have := hh n hn
    rw [ea, if_pos rfl] at this; cases this
  · rw [ea] at ej
    by_cases c : j = n
    · rw [if_pos c] at ej; cases ej
    · rw [if_neg c] at ej
      exact Or.inr (h.2.2.1 (fun i hi => by
        rcases (show i = n ∨ i = j by omega) with q | q
        · rw [q]; exact e
        · rw [q]; exact ej)).2
theorem IK.new1 {rI : Nat → Option Nat} {im0 : Option IR} {n : Nat} {r : IR} (h : IK rI im0 none) (hn : n < 2) (e : rI n = none) : IK (va_up rI n (some r.1)) im0 (some r) := by
  have ea : ∀ j, va_up rI n (some r.1) j = if j = n then some r.1 else rI j := fun _ => rfl
  refine ⟨fun j hj => ?_, fun j hj => ?_, fun hh => ?_, fun ⟨j, hj, ej⟩ => ?_⟩
  · rw [ea, if_neg (by omega)]; exact h.1 j hj
  · rw [ea]
    by_cases c : j = n
    · rw [if_pos c]; exact Or.inr (Or.inr ⟨r, rfl, rfl⟩)
    · rw [if_neg c]
      rcases h.2.1 j hj with q | q | ⟨r', q, -⟩
      · exact Or.inl q
      · exact Or.inr (Or.inl q)
      · cases q
  · have := hh n hn
    rw [ea, if_pos rfl] at this; cases this
  · rw [ea] at ej
    by_cases c : j = n
    · rw [if_pos c] at ej; cases ej
    · rw [if_neg c] at ej
      exact Or.inl (h.2.2.1 (fun i hi => by
        rcases (show i = n ∨ i = j by omega) with q | q
        · rw [q]; exact e
        · rw [q]; exact ej)).1
theorem IK.rep0 {rI : Nat → Option Nat} {im1 : Option IR} {r r' : IR} (h : IK rI (some r) im1) (e : r'.1 = r.1) : IK rI (some r') im1 := by
  refine ⟨h.1, fun j hj => ?_, fun hh => ?_, fun hh => ?_⟩
  · rcases h.2.1 j hj with q | ⟨s, q, w⟩ | q
    · exact Or.inl q
    · have es := Option.some.inj q
      subst es
      exact Or.inr (Or.inl ⟨r', rfl, by rw [e]; exact w⟩)
    · exact Or.inr (Or.inr q)
  · have := (h.2.2.1 hh).1; cases this
  · rcases h.2.2.2 hh with q | q
    · cases q
    · exact Or.inr q
theorem IK.rep1 {rI : Nat → Option Nat} {im0 : Option IR} {r r' : IR} (h : IK rI im0 (some r)) (e : r'.1 = r.1) : IK rI im0 (some r') := by
  refine ⟨h.1, fun j hj => ?_, fun hh => ?_, fun hh => ?_⟩
  · rcases h.2.1 j hj with q | q | ⟨s, q, w⟩
    · exact Or.inl q
    · exact Or.inr (Or.inl q)
    · have es := Option.some.inj q
      subst es
      exact Or.inr (Or.inr ⟨r', rfl, by rw [e]; exact w⟩)
  · have := (h.2.2.1 hh).2; cases this
  · rcases h.2.2.2 hh with q | q
    · exact Or.inl q
    · cases q
-- the joint tie
def Tis (o : Ob) (g : Nat → Int32) : Prop := gI o 7 = g 0 ∧ gI o 8 = g 1 ∧ (∀ j, j < 7 → gA o 1 j = g (29 + j)) ∧ (∀ j, j < 7 → gA o 3 j = g (64 + j)) ∧ (∀ j : Nat, (gI o 7).toInt ≤ (j : Int) → j < 7 → gA o 3 j = 0)
theorem Tis.ext {o o' : Ob} {g g' : Nat → Int32} (h : Tis o g) (e7 : gI o' 7 = gI o 7) (e8 : gI o' 8 = gI o 8) (a1 : ∀ j, j < 7 → gA o' 1 j = gA o 1 j) (a3 : ∀ j, j < 7 → gA o' 3 j = gA o 3 j) (eg : ∀ j, j < 2 ∨ (29 ≤ j ∧ j < 36) ∨ (64 ≤ j ∧ j < 71) → g' j = g j) : Tis o' g' := by
  obtain ⟨b1, b2, b3, b5, b7⟩ := h
  refine ⟨?_, ?_, fun j hj => ?_, fun j hj => ?_, fun j hj hj' => ?_⟩
  · rw [e7, eg 0 (by omega)]; exact b1
  · rw [e8, eg 1 (by omega)]; exact b2
  · rw [a1 j hj, eg (29 + j) (by omega)]; exact b3 j hj
  · rw [a3 j hj, eg (64 + j) (by omega)]; exact b5 j hj
  · rw [a3 j hj']; rw [e7] at hj; exact b7 j hj hj'
theorem Tis.eq {o o' : Ob} {g g' : Nat → Int32} (h : Tis o g) (e7 : gI o' 7 = gI o 7) (e8 : gI o' 8 = gI o 8) (a1 : gA o' 1 = gA o 1) (a3 : gA o' 3 = gA o 3) (eg : ∀ j, j < 2 ∨ (29 ≤ j ∧ j < 36) ∨ (64 ≤ j ∧ j < 71) → g' j = g j) : Tis o' g' := h.ext e7 e8 (fun j _ => congrFun a1 j) (fun j _ => congrFun a3 j) eg
theorem kp_full {L LA : List Nat} {LC : List (Nat × Nat)} {o o' : Ob} (k : Kp L LA LC o o') (m0 : (0, 1) ∈ LC) (m1 : (1, 2) ∈ LC) (m2 : (29, 36) ∈ LC) (m4 : (64, 71) ∈ LC) : ∀ j, j < 2 ∨ (29 ≤ j ∧ j < 36) ∨ (64 ≤ j ∧ j < 71) → gA o' 3 j = gA o 3 j := by
  intro j hj
  rcases (show j < 1 ∨ (1 ≤ j ∧ j < 2) ∨ (29 ≤ j ∧ j < 36) ∨ (64 ≤ j ∧ j < 71) by omega) with q | ⟨q1, q2⟩ | ⟨q1, q2⟩ | ⟨q1, q2⟩
  · exact k.2.2 (0, 1) m0 j (Nat.zero_le _) q
  · exact k.2.2 (1, 2) m1 j q1 q2
  · exact k.2.2 (29, 36) m2 j q1 q2
  · exact k.2.2 (64, 71) m4 j q1 q2
def Tsl (o0 o9 : Ob) (k : Nat) (im : Option IR) : Prop := (im = none → gR o0 7 k = none ∧ gA o9 5 k = 0) ∧ (∀ r : IR, im = some r → gR o0 7 k = some r.1 ∧ ¬ gA o9 5 k = 0 ∧ Tis r.2.2.2.2.2.2.1 (fun j => gA o9 4 (5484 * k + j)))
theorem Tsl.eq {o0 o9 o0' o9' : Ob} {k : Nat} {im : Option IR} (h : Tsl o0 o9 k im) (e0 : gR o0' 7 = gR o0 7) (e5 : gA o9' 5 = gA o9 5) (e4 : gA o9' 4 = gA o9 4) : Tsl o0' o9' k im := by
  refine ⟨fun q => ?_, fun r q => ?_⟩
  · rw [e0, e5]; exact h.1 q
  · rw [e0, e5, e4]; exact h.2 r q
def Tim (o0 o9 : Ob) (im0 im1 : Option IR) : Prop := ∃ s : Nat, s < 2 ∧ Tsl o0 o9 s im0 ∧ Tsl o0 o9 (1 - s) im1
theorem Tim.eq {o0 o9 o0' o9' : Ob} {im0 im1 : Option IR} (h : Tim o0 o9 im0 im1) (e0 : gR o0' 7 = gR o0 7) (e5 : gA o9' 5 = gA o9 5) (e4 : gA o9' 4 = gA o9 4) : Tim o0' o9' im0 im1 := by
  obtain ⟨s, hs, a, b⟩ := h
  exact ⟨s, hs, a.eq e0 e5 e4, b.eq e0 e5 e4⟩
def Tall (o0 o1 o4 o9 : Ob) (im0 im1 : Option IR) : Prop := gI o1 2 = gI o9 13 ∧ Tis o4 (gA o9 3) ∧ Tim o0 o9 im0 im1
theorem Tall.eq {L LA : List Nat} {LC : List (Nat × Nat)} {o0 o1 o4 o9 o0' o1' o4' o9' : Ob} {im0 im1 : Option IR} (h : Tall o0 o1 o4 o9 im0 im1) (c1 : gI o1' 2 = gI o1 2) (c3 : gI o4' 7 = gI o4 7) (c4 : gI o4' 8 = gI o4 8) (c5 : gA o4' 1 = gA o4 1) (c7 : gA o4' 3 = gA o4 3) (c9 : gR o0' 7 = gR o0 7) (k : Kp L LA LC o9 o9') (m1 : 13 ∈ L) (m4 : 5 ∈ LA) (m5 : 4 ∈ LA) (n0 : (0, 1) ∈ LC) (n1 : (1, 2) ∈ LC) (n2 : (29, 36) ∈ LC) (n4 : (64, 71) ∈ LC) : Tall o0' o1' o4' o9' im0 im1 :=
  ⟨by rw [c1, k.1 13 m1]; exact h.1, h.2.1.eq c3 c4 c5 c7 (kp_full k n0 n1 n2 n4), h.2.2.eq c9 (k.2.1 5 m4) (k.2.1 4 m5)⟩
theorem Tall.tis {L LA : List Nat} {LC : List (Nat × Nat)} {o0 o1 o4 o9 o0' o1' o4' o9' : Ob} {im0 im1 : Option IR} (h : Tall o0 o1 o4 o9 im0 im1) (c1 : gI o1' 2 = gI o1 2) (c9 : gR o0' 7 = gR o0 7) (k : Kp L LA LC o9 o9') (m1 : 13 ∈ L) (m4 : 5 ∈ LA) (m5 : 4 ∈ LA) (t : Tis o4' (gA o9' 3)) : Tall o0' o1' o4' o9' im0 im1 :=
  ⟨by rw [c1, k.1 13 m1]; exact h.1, t, h.2.2.eq c9 (k.2.1 5 m4) (k.2.1 4 m5)⟩
theorem Tall.sz {L LA : List Nat} {LC : List (Nat × Nat)} {o0 o1 o4 o9 o0' o1' o4' o9' : Ob} {im0 im1 : Option IR} (h : Tall o0 o1 o4 o9 im0 im1) (t : gI o1' 2 = gI o9' 13) (c3 : gI o4' 7 = gI o4 7) (c4 : gI o4' 8 = gI o4 8) (c5 : gA o4' 1 = gA o4 1) (c7 : gA o4' 3 = gA o4 3) (c9 : gR o0' 7 = gR o0 7) (k : Kp L LA LC o9 o9') (m4 : 5 ∈ LA) (m5 : 4 ∈ LA) (n0 : (0, 1) ∈ LC) (n1 : (1, 2) ∈ LC) (n2 : (29, 36) ∈ LC) (n4 : (64, 71) ∈ LC) : Tall o0' o1' o4' o9' im0 im1 :=
  ⟨t, h.2.1.eq c3 c4 c5 c7 (kp_full k n0 n1 n2 n4), h.2.2.eq c9 (k.2.1 5 m4) (k.2.1 4 m5)⟩
-- the calls that change it
theorem people_n {o : Ob} {pl : List CR} (h : IvX2 pl o) : ∃ n : Nat, (gI o 7).toInt = (n : Int) ∧ n ≤ 7 := ⟨(gI o 7).toInt.toNat, by have := h.1; omega, by have := h.1; omega⟩
theorem t_person {o0 o4 o5 o11 o9 : Ob} {pl : List CR} {p0 p1 : Int32} {y1 : Int32 × Ob × Ob × Ob × Ob} {y2 : Int32 × Ob} (h4 : IvX2 pl o4) (ht : Tis o4 (gA o9 3)) (h1 : f_X8_person o0 o4 o5 o11 p0 p1 = some y1) (h2 : f_X9_person o9 p0 p1 = some y2) : y1.1 = y2.1 ∧ Tis y1.2.2.1 (gA y2.2 3) := by
  obtain ⟨n, en, hn⟩ := people_n h4
  have en9 : (gA o9 3 0).toInt = (n : Int) := by rw [← ht.1]; exact en
  have same : ∀ {a b : Ob}, a = o4 → gA b 3 = gA o9 3 → Tis a (gA b 3) := fun ea eb => by rw [ea, eb]; exact ht
  rcases person8 en hn h1 with ⟨a, b, c⟩ | ⟨a, ⟨b, c, d⟩ | ⟨b, c, d7, d8, d1, d2, d3⟩⟩ <;> rcases person9 en9 hn h2 with ⟨a', b', c'⟩ | ⟨a', ⟨b', c', d'⟩ | ⟨b', c', g0, g1, g29, g36, g64⟩⟩
  · exact ⟨by rw [b, b'], same c c'⟩
  · exact absurd a' a
  · exact absurd a' a
  · exact absurd a a'
  · exact ⟨by rw [c, c'], same d d'⟩
  · omega
  · exact absurd a a'
  · omega
  · refine ⟨by rw [c, c']; exact ht.1, ?_⟩
    obtain ⟨b1, b2, b3, b5, b7⟩ := ht
    have t7 : (gI y1.2.2.1 7).toInt = (n : Int) + 1 := by rw [d7]; exact i32_add en (by decide) (by omega) (by omega)
    refine ⟨by rw [d7, g0, b1], by rw [d8, g1]; exact b2, fun j hj => ?_, fun j hj => ?_, fun j hj hj' => ?_⟩
    · rw [d1 j, g29 j hj, b3 j hj]
    · rw [d3, g64 j hj]
      by_cases q : j = n
      · rw [if_pos q]; exact b7 j (by omega) hj
      · rw [if_neg q]; exact b5 j hj
    · rw [d3]; exact b7 j (by omega) hj'
theorem t_beats {o0 o4 o9 : Ob} {pl : List CR} {p0 p1 p2 : Int32} {y1 : Int32 × Ob × Ob} {y2 : Int32 × Ob} (h4 : IvX2 pl o4) (ht : Tis o4 (gA o9 3)) (h1 : f_X8_beats o0 o4 p0 p1 p2 = some y1) (h2 : f_X9_beats o9 p0 p1 p2 = some y2) : y1.1 = y2.1 ∧ Tis y1.2.2 (gA y2.2 3) := by
  obtain ⟨n, en, hn⟩ := people_n h4
  have en9 : (gA o9 3 0).toInt = (n : Int) := by rw [← ht.1]; exact en
  have same : ∀ {a b : Ob}, a = o4 → gA b 3 = gA o9 3 → Tis a (gA b 3) := fun ea eb => by rw [ea, eb]; exact ht
  rcases beats8 en hn h1 with ⟨a, b, c⟩ | ⟨a, ⟨b, c, d⟩ | ⟨b, c, d⟩⟩ <;> rcases beats9 en9 hn h2 with ⟨a', b', c'⟩ | ⟨a', ⟨b', c', d'⟩ | ⟨b', c', d'⟩⟩
  · exact ⟨by rw [b, b'], same c c'⟩
  · exact absurd a' a
  · exact absurd a' a
  · exact absurd a a'
  · exact ⟨by rw [c, c'], same d d'⟩
  · exact absurd b' b
  · exact absurd a a'
  · exact absurd b b'
  · obtain ⟨b1, b2, b3, b5, b7⟩ := ht
    have ec : p0.toNatClampNeg = p0.toInt.toNat := rfl
    have hp : p0.toNatClampNeg < 7 := by rw [ec]; omega
    have ev : gA o4 3 p0.toNatClampNeg = gA o9 3 (64 + p0.toNatClampNeg) := b5 _ hp
    have eq : y1.1 = y2.1 := by rw [c, c', ev]
    refine ⟨eq, ?_⟩
    have g3 : ∀ j, gA y1.2.2 3 j = if j = p0.toNatClampNeg then (gA o4 3 p0.toNatClampNeg) ^^^ (if y1.1 = p2 then 0 else (1 : Int32) <<< (p1 &&& 31)) else gA o4 3 j := fun j => by rw [d]; rfl
    have g7 : gI y1.2.2 7 = gI o4 7 := by rw [d]; rfl
    have g8 : gI y1.2.2 8 = gI o4 8 := by rw [d]; rfl
    have g1 : gA y1.2.2 1 = gA o4 1 := by rw [d]; rfl
    refine ⟨by rw [g7, d' 0, if_neg (by omega)]; exact b1, by rw [g8, d' 1, if_neg (by omega)]; exact b2, fun j hj => ?_, fun j hj => ?_, fun j hj hj' => ?_⟩
    · rw [g1, d' (29 + j), if_neg (by omega)]; exact b3 j hj
    · rw [g3 j, d' (64 + j)]
      by_cases q : j = p0.toNatClampNeg
      · have q' : 64 + j = 64 + p0.toNatClampNeg := by rw [q]
        rw [if_pos q, if_pos q', ev, eq]
      · have q' : ¬ 64 + j = 64 + p0.toNatClampNeg := by omega
        rw [if_neg q, if_neg q']; exact b5 j hj
    · rw [g7] at hj
      rw [g3 j, if_neg (by rw [ec]; omega)]; exact b7 j hj hj'
theorem t_seen {o0 o4 o9 : Ob} {pl : List CR} {p0 p1 : Int32} {y1 : Int32 × Ob × Ob} {y2 : Int32 × Ob} (h4 : IvX2 pl o4) (ht : Tis o4 (gA o9 3)) (h1 : f_X8_seen o0 o4 p0 p1 = some y1) (h2 : f_X9_seen o9 p0 p1 = some y2) : y1.1 = y2.1 ∧ Tis y1.2.2 (gA y2.2 3) := by
  have hr := h4.2.1
  have hr9 : 0 ≤ (gA o9 3 1).toInt ∧ (gA o9 3 1).toInt ≤ 6 := by rw [← ht.2.1]; exact hr
  have same : ∀ {a b : Ob}, a = o4 → gA b 3 = gA o9 3 → Tis a (gA b 3) := fun ea eb => by rw [ea, eb]; exact ht
  have e8 := ht.2.1
  rcases seen8 h1 hr with ⟨a, b, c⟩ | ⟨a, ⟨b, c, d⟩ | ⟨b, c, d8, d7, d1, d2, d3⟩⟩ <;> rcases seen9 h2 hr9 with ⟨a', b', c'⟩ | ⟨a', ⟨b', c', d'⟩ | ⟨b', c', g1, g⟩⟩
  · exact ⟨by rw [b, b'], same c c'⟩
  · exact absurd a' a
  · exact absurd a' a
  · exact absurd a a'
  · exact ⟨by rw [c, c'], same d d'⟩
  · exact absurd (e8.symm.trans b) b'
  · exact absurd a a'
  · exact absurd (e8.trans b') b
  · refine ⟨by rw [c, c', e8], ?_⟩
    obtain ⟨b1, b2, b3, b5, b7⟩ := ht
    refine ⟨by rw [d7, g 0 (by decide) (by decide)]; exact b1, by rw [d8, g1, b2], fun j hj => ?_, fun j hj => ?_, fun j hj hj' => ?_⟩
    · rw [d1, g (29 + j) (by omega) (by omega)]; exact b3 j hj
    · rw [d3, g (64 + j) (by omega) (by omega)]; exact b5 j hj
    · rw [d7] at hj
      rw [d3]; exact b7 j hj hj'
theorem t_forget {o0 o4 o9 : Ob} {y1 : Int32 × Ob} {y2 : Int32 × Ob} (ht : Tis o4 (gA o9 3)) (h1 : f_X8_forget o0 o4 = some y1) (h2 : f_X9_forget o9 = some y2) : y1.1 = y2.1 ∧ Tis y1.2 (gA y2.2 3) := by
  obtain ⟨a, b⟩ := forget8 h1
  obtain ⟨a', g1, g⟩ := forget9 h2
  obtain ⟨b1, b2, b3, b5, b7⟩ := ht
  refine ⟨by rw [a, a', b2], ?_⟩
  rw [b]
  refine ⟨?_, ?_, fun j hj => ?_, fun j hj => ?_, fun j hj hj' => ?_⟩
  · rw [g 0 (by decide)]; exact b1
  · rw [g1]; rfl
  · rw [g (29 + j) (by omega)]; exact b3 j hj
  · rw [g (64 + j) (by omega)]; exact b5 j hj
  · exact b7 j hj hj'
theorem Tis.cp {pl : List CR} {o on a0 a0n : Ob} {y : Ob × Ob} {g g' : Nat → Int32} (h : f_X2_set_O o on pl a0 a0n = some y) (ht : Tis a0 g) (eg : ∀ j, j < 2 ∨ (29 ≤ j ∧ j < 36) ∨ (64 ≤ j ∧ j < 71) → g' j = g j) : Tis y.1 g' := by
  obtain ⟨a, b, c, -, e⟩ := setO_i h
  exact ht.ext a b c e eg
theorem IK.of {o0 o9 : Ob} {im0 im1 : Option IR} (h : Tim o0 o9 im0 im1) (h2 : ∀ j, 2 ≤ j → gR o0 7 j = none) : IK (gR o0 7) im0 im1 := by
  obtain ⟨s, hs, a, b⟩ := h
  have hj : ∀ j, j < 2 → j = s ∨ j = 1 - s := fun j hj => by omega
  refine ⟨h2, fun j q => ?_, fun q => ?_, fun ⟨j, q1, q2⟩ => ?_⟩
  · rcases hj j q with e | e
    · subst e
      cases e0 : im0 with
      | none => exact Or.inl (a.1 e0).1
      | some r => exact Or.inr (Or.inl ⟨r, rfl, (a.2 r e0).1⟩)
    · subst e
      cases e1 : im1 with
      | none => exact Or.inl (b.1 e1).1
      | some r => exact Or.inr (Or.inr ⟨r, rfl, (b.2 r e1).1⟩)
  · refine ⟨?_, ?_⟩
    · cases e0 : im0 with
      | none => rfl
      | some r => have := q s hs; rw [(a.2 r e0).1] at this; cases this
    · cases e1 : im1 with
      | none => rfl
      | some r => have := q (1 - s) (by omega); rw [(b.2 r e1).1] at this; cases this
  · rcases hj j q1 with e | e
    · subst e
      cases e0 : im0 with
      | none => exact Or.inl rfl
      | some r => rw [(a.2 r e0).1] at q2; cases q2
    · subst e
      cases e1 : im1 with
      | none => exact Or.inr rfl
      | some r => rw [(b.2 r e1).1] at q2; cases q2
theorem opt_c (a : Option IR) : a = none ∨ ∃ r : IR, a = some r := by
  cases a with
  | none => exact Or.inl rfl
  | some r => exact Or.inr ⟨r, rfl⟩
theorem Tsl.put {o0' o9 o9' : Ob} {k : Nat} {g : Nat → Option Nat} {r : IR} (e0 : ∀ j, gR o0' 7 j = if j = k then some r.1 else g j) (e5 : ∀ j, gA o9' 5 j = if j = k then 1 else gA o9 5 j) (ht : Tis r.2.2.2.2.2.2.1 (fun j => gA o9' 4 (5484 * k + j))) : Tsl o0' o9' k (some r) := by
  refine ⟨(fun q => by cases q), fun r' q => ?_⟩
  rw [← Option.some.inj q]
  exact ⟨by rw [e0, if_pos rfl], by rw [e5, if_pos rfl]; decide, ht⟩
theorem Tsl.oth {o0 o9 o0' o9' : Ob} {k k' : Nat} {a : Option Nat} {im : Option IR} (h : Tsl o0 o9 k' im) (hk : k < 2) (hk' : k' < 2) (hn : k' ≠ k) (e0 : ∀ j, gR o0' 7 j = if j = k then a else gR o0 7 j) (e5 : ∀ j, gA o9' 5 j = if j = k then 1 else gA o9 5 j) (e4 : ∀ j, j < 5484 * k ∨ 5484 * k + 5484 ≤ j → gA o9' 4 j = gA o9 4 j) : Tsl o0' o9' k' im := by
  refine ⟨fun q => ?_, fun r q => ?_⟩
  · rw [e0, if_neg hn, e5, if_neg hn]; exact h.1 q
  · obtain ⟨a1, a2, a3⟩ := h.2 r q
    rw [e0, if_neg hn, e5, if_neg hn]
    exact ⟨a1, a2, a3.eq rfl rfl rfl rfl (fun j hj => e4 (5484 * k' + j) (by omega))⟩
theorem Tim.put0 {o0 o9 o0' o9' : Ob} {k : Nat} {im0 im1 : Option IR} {r : IR} (hk : k < 2) (ta : Tsl o0 o9 k im0) (tb : Tsl o0 o9 (1 - k) im1) (e0 : ∀ j, gR o0' 7 j = if j = k then some r.1 else gR o0 7 j) (e5 : ∀ j, gA o9' 5 j = if j = k then 1 else gA o9 5 j) (e4 : ∀ j, j < 5484 * k ∨ 5484 * k + 5484 ≤ j → gA o9' 4 j = gA o9 4 j) (ht : Tis r.2.2.2.2.2.2.1 (fun j => gA o9' 4 (5484 * k + j))) : Tim o0' o9' (some r) im1 :=
  ⟨k, hk, Tsl.put e0 e5 ht, tb.oth hk (by omega) (by omega) e0 e5 e4⟩
theorem Tim.put1 {o0 o9 o0' o9' : Ob} {k : Nat} {im0 im1 : Option IR} {r : IR} (hk : k < 2) (ta : Tsl o0 o9 (1 - k) im0) (tb : Tsl o0 o9 k im1) (e0 : ∀ j, gR o0' 7 j = if j = k then some r.1 else gR o0 7 j) (e5 : ∀ j, gA o9' 5 j = if j = k then 1 else gA o9 5 j) (e4 : ∀ j, j < 5484 * k ∨ 5484 * k + 5484 ≤ j → gA o9' 4 j = gA o9 4 j) (ht : Tis r.2.2.2.2.2.2.1 (fun j => gA o9' 4 (5484 * k + j))) : Tim o0' o9' im0 (some r) := by
  have e : 1 - (1 - k) = k := by omega
  exact ⟨1 - k, by omega, ta.oth hk (by omega) (by omega) e0 e5 e4, by rw [e]; exact Tsl.put e0 e5 ht⟩
theorem image_bset {o4 o5 : Ob} {pl : List CR} {o9 oi on : Ob} {y : Int32 × Ob × Ob × Ob} (h : f_X8_image_b o4 o5 pl o9 oi on = some y) : ∃ z, f_X2_set_O oi on pl o4 o5 = some z ∧ y.2.2.1 = z.1 := by
  unfold f_X8_image_b at h
  obtain ⟨z2, ez2, h⟩ := z_bd h
  obtain ⟨z3, -, h⟩ := z_bd h
  exact ⟨z2, ez2, by rw [← Option.some.inj h]⟩
theorem backN_ret {o : Ob} {p : Int32} {y : Int32 × Ob} (h : f_X8_back_N o p = some y) : (¬ (0 ≤ p.toInt ∧ p.toInt ≤ 1) ∧ y.1 = -1) ∨ (0 ≤ p.toInt ∧ p.toInt ≤ 1 ∧ y.1 = -2) := by
  have h9 : bk_X8_back_N_9 o = some y → y.1 = -1 := by
    intro h
    unfold bk_X8_back_N_9 at h
    obtain ⟨z, ez, h⟩ := z_bd h
    rw [← Option.some.inj h]; exact refuse_ret ez
  unfold f_X8_back_N at h
  by_cases c1 : p < (0 : Int32)
  · have d1 := cv_lt (a := p.toInt) (b := 0) rfl (by decide) c1
    exact Or.inl ⟨by omega, h9 (z_t h c1)⟩
  · have h := z_f h c1
    have d1 := cv_nlt (a := p.toInt) (b := 0) rfl (by decide) c1
    by_cases c2 : p < (2 : Int32)
    · have d2 := cv_lt (a := p.toInt) (b := 2) rfl (by decide) c2
      obtain ⟨-, h⟩ := z_gd (z_t h c2)
      obtain ⟨z, ez, h⟩ := z_bd h
      refine Or.inr ⟨by omega, by omega, ?_⟩
      rw [← Option.some.inj h]; exact refuse_ret ez
    · have d2 := cv_nlt (a := p.toInt) (b := 2) rfl (by decide) c2
      exact Or.inl ⟨by omega, h9 (z_f h c2)⟩
theorem backO_ret {o o4 o5 o11 : Ob} {pl : List CR} {oi on : Ob} {p : Int32} {y : Int32 × Ob × Ob × Ob × Ob} (h : f_X8_back_O o o4 o5 o11 pl oi on p = some y) : (¬ (0 ≤ p.toInt ∧ p.toInt ≤ 1) ∧ y.1 = -1 ∧ y.2.2.1 = o4) ∨ (0 ≤ p.toInt ∧ p.toInt ≤ 1 ∧ y.1 = 0 ∧ ∃ z, f_X2_set_O o4 o5 pl oi on = some z ∧ y.2.2.1 = z.1) := by
  have h9 : bk_X8_back_O_9 pl oi on o o4 o5 o11 = some y → y.1 = -1 ∧ y.2.2.1 = o4 := by
    intro h
    unfold bk_X8_back_O_9 at h
    obtain ⟨z, ez, h⟩ := z_bd h
    rw [← Option.some.inj h]; exact ⟨refuse_ret ez, rfl⟩
  unfold f_X8_back_O at h
  by_cases c1 : p < (0 : Int32)
  · have d1 := cv_lt (a := p.toInt) (b := 0) rfl (by decide) c1
    exact Or.inl ⟨by omega, h9 (z_t h c1)⟩
  · have h := z_f h c1
    have d1 := cv_nlt (a := p.toInt) (b := 0) rfl (by decide) c1
    by_cases c2 : p < (2 : Int32)
    · have d2 := cv_lt (a := p.toInt) (b := 2) rfl (by decide) c2
      obtain ⟨-, h⟩ := z_gd (z_t h c2)
      obtain ⟨-, h⟩ := z_gd h
      obtain ⟨z4, ez4, h⟩ := z_bd h
      obtain ⟨z5, -, h⟩ := z_bd h
      obtain ⟨z6, ez, h⟩ := z_bd h
      refine Or.inr ⟨by omega, by omega, ?_, z4, ez4, ?_⟩
      · rw [← Option.some.inj h]; exact grant_ret ez
      · rw [← Option.some.inj h]
    · have d2 := cv_nlt (a := p.toInt) (b := 2) rfl (by decide) c2
      exact Or.inl ⟨by omega, h9 (z_f h c2)⟩
theorem Tim.non {o0 o9 : Ob} {im0 im1 : Option IR} {k : Nat} (h : Tim o0 o9 im0 im1) (hk : k < 2) (q : gR o0 7 k = none) : gA o9 5 k = 0 := by
  obtain ⟨s, hs, a, b⟩ := h
  rcases (show k = s ∨ k = 1 - s by omega) with e | e
  · rcases opt_c im0 with e0 | ⟨r, e0⟩
    · rw [e]; exact (a.1 e0).2
    · rw [e, (a.2 r e0).1] at q; cases q
  · rcases opt_c im1 with e0 | ⟨r, e0⟩
    · rw [e]; exact (b.1 e0).2
    · rw [e, (b.2 r e0).1] at q; cases q
theorem t_backN {o0 o1 o4 o9 : Ob} {im0 im1 : Option IR} {p : Int32} {y1 y2 : Int32 × Ob} (ht : Tall o0 o1 o4 o9 im0 im1) (h1 : f_X8_back_N o0 p = some y1) (h2 : f_X9_back o9 p = some y2) (q : gR o0 7 p.toNatClampNeg = none) (w1 : gR y1.2 7 = gR o0 7) (hsz : gI y2.2 13 = gI o9 13) : y1.1 = y2.1 ∧ Tall y1.2 o1 o4 y2.2 im0 im1 := by
  have en : p.toNatClampNeg = p.toInt.toNat := rfl
  have hx : ∀ r : gA y2.2 3 = gA o9 3 ∧ gA y2.2 4 = gA o9 4 ∧ gA y2.2 5 = gA o9 5, Tall y1.2 o1 o4 y2.2 im0 im1 := fun r => ⟨ht.1.trans hsz.symm, by rw [r.1]; exact ht.2.1, ht.2.2.eq w1 r.2.2 r.2.1⟩
  rcases backN_ret h1 with ⟨a, b⟩ | ⟨a1, a2, b⟩
  · refine ⟨?_, hx (back9n h2 (Or.inl a))⟩
    rcases back_ret9 h2 with ⟨c, d⟩ | ⟨c1, c2, d⟩
    · rw [b, d]
    · exact absurd ⟨c1, c2⟩ a
  · have h5 := ht.2.2.non (k := p.toNatClampNeg) (by rw [en]; omega) q
    refine ⟨?_, hx (back9n h2 (Or.inr h5))⟩
    rcases back_ret9 h2 with ⟨c, d⟩ | ⟨c1, c2, ⟨d1, d2⟩ | ⟨d1, d2⟩⟩
    · exact absurd ⟨a1, a2⟩ c
    · rw [b, d2]
    · exact absurd h5 d1
theorem t_backO {o0 o1 o4 o5 o11 o9 : Ob} {pl : List CR} {im0 im1 : Option IR} {r : IR} {p : Int32} {y1 : Int32 × Ob × Ob × Ob × Ob} {y2 : Int32 × Ob} (ht : Tall o0 o1 o4 o9 im0 im1) (h1 : f_X8_back_O o0 o4 o5 o11 pl r.2.2.2.2.2.2.1 r.2.2.2.2.2.2.2 p = some y1) (h2 : f_X9_back o9 p = some y2) (h5 : ¬ gA o9 5 p.toNatClampNeg = 0) (hr : Tis r.2.2.2.2.2.2.1 (fun j => gA o9 4 (5484 * p.toNatClampNeg + j))) (w1 : gR y1.2.1 7 = gR o0 7) (hsz : gI y2.2 13 = gI o9 13) : y1.1 = y2.1 ∧ Tall y1.2.1 o1 y1.2.2.1 y2.2 im0 im1 := by
  have en : p.toNatClampNeg = p.toInt.toNat := rfl
  rcases backO_ret h1 with ⟨a, b, c⟩ | ⟨a1, a2, b, z, ez, c⟩
  · obtain ⟨q3, q4, q5⟩ := back9n h2 (Or.inl a)
    refine ⟨?_, ht.1.trans hsz.symm, by rw [c, q3]; exact ht.2.1, ht.2.2.eq w1 q5 q4⟩
    rcases back_ret9 h2 with ⟨c, d⟩ | ⟨c1, c2, d⟩
    · rw [b, d]
    · exact absurd ⟨c1, c2⟩ a
  · obtain ⟨q3, q4, q5⟩ := back9 (k := p.toNatClampNeg) h2 (by rw [en]; omega) (by rw [en]; omega) h5
    refine ⟨?_, ht.1.trans hsz.symm, ?_, ht.2.2.eq w1 q5 q4⟩
    · rcases back_ret9 h2 with ⟨c, d⟩ | ⟨c1, c2, ⟨d1, d2⟩ | ⟨d1, d2⟩⟩
      · exact absurd ⟨a1, a2⟩ c
      · exact absurd d1 h5
      · rw [b, d2]
    · rw [c]; exact Tis.cp ez hr (fun j hj => q3 j (by omega))
-- ranking: both lay the same table of sets, and take the same people from it
set_option maxRecDepth 100000 in
theorem bc_eq : ∀ k, k < 128 → f_J6_bitCount_0f7a4 (Int32.ofNat k) = f_X9_ones (Int32.ofNat k) := by decide +kernel
theorem bc8 {x : Int32} {a : Nat} (ha : a < 128) : f_J6_bitCount_0f7a4 (x &&& Int32.ofNat a) = f_X9_ones (x &&& Int32.ofNat a) := by
  have t := on32 (n := a) (by omega)
  have b := i32_and (x := x) (y := Int32.ofNat a) (m := 127) ⟨by omega, by omega⟩
  have e := of32 (x := x &&& Int32.ofNat a) b.1
  rw [e]; exact bc_eq _ (by omega)
theorem bz_c (a p : Nat) : (bz a p = false ∧ ((Int32.ofNat a >>> (Int32.ofNat p &&& 31)) &&& (1 : Int32)) = 0) ∨ (bz a p = true ∧ ¬ ((Int32.ofNat a >>> (Int32.ofNat p &&& 31)) &&& (1 : Int32)) = 0) := by
  have b := i32_and (x := Int32.ofNat a >>> (Int32.ofNat p &&& 31)) (y := (1 : Int32)) (m := 1) ⟨by decide, by decide⟩
  by_cases q : ((Int32.ofNat a >>> (Int32.ofNat p &&& 31)) &&& (1 : Int32)) = (1 : Int32)
  · exact Or.inr ⟨decide_eq_true q, by rw [q]; decide⟩
  · refine Or.inl ⟨decide_eq_false q, Int32.toInt_inj.mp ?_⟩
    have := cv_ne (a := ((Int32.ofNat a >>> (Int32.ofNat p &&& 31)) &&& (1 : Int32)).toInt) (b := 1) rfl (by decide) q
    have z0 : (0 : Int32).toInt = 0 := by decide
    omega
theorem eo32 {x : Int32} {q : Nat} (e : x.toInt = (q : Int)) : x = Int32.ofNat q := by
  have h := of32 (x := x) (by omega)
  have : x.toInt.toNat = q := by omega
  rw [h, this]
theorem left9 {o : Ob} {a p : Nat} {z : Int32} (ha : a < 128) (hp : p < 7) (hb : bz a p = false) (h : f_X9_leftBy o (Int32.ofNat a) (Int32.ofNat p) = some z) : ∃ c, f_X9_ones ((gA o 3 (64 + p)) &&& Int32.ofNat a) = some c ∧ (0 ≤ c.toInt ∧ c.toInt ≤ 7) ∧ z = c + gA o 46 (yv a p).toInt.toNat := by
  have hd := of_decide_eq_false hb
  have t := on32 (n := p) (by omega)
  have b := bt1 a ha p hp
  have t2 : ((64 : Int32) + Int32.ofNat p).toInt = 64 + (p : Int) := i32_add (by decide) t (by omega) (by omega)
  have i2 : ((64 : Int32) + Int32.ofNat p).toNatClampNeg = 64 + p := tnc_eq (by omega)
  unfold f_X9_leftBy at h
  obtain ⟨z1, e1, h⟩ := z_bd h
  unfold f_X9_is at e1
  have e1 := Option.some.inj (z_f e1 hd)
  obtain ⟨-, h⟩ := z_gd (z_t h e1.symm)
  obtain ⟨c, ec, h⟩ := z_bd h
  obtain ⟨-, h⟩ := z_gd h
  rw [i2] at ec
  obtain ⟨c', ec', hc'⟩ := h_ones ((gA o 3 (64 + p)) &&& Int32.ofNat a)
  have ecc : c' = c := Option.some.inj (ec'.symm.trans ec)
  rw [ecc] at hc'
  exact ⟨c, ec, hc', (Option.some.inj h).symm⟩
theorem broken8 {me is : Ob} {a p : Nat} {z : Int32} (ha : a < 128) (hp : p < 7) (h : f_X7_brokenBy me is (Int32.ofNat p) (Int32.ofNat a) = some z) : ∃ c, f_X9_ones ((gA is 3 p) &&& Int32.ofNat a) = some c ∧ z = c + gA me 4 (yv a p).toInt.toNat := by
  have ip := oc32 (n := p) (by omega)
  unfold f_X7_brokenBy at h
  obtain ⟨-, h⟩ := z_gd h
  obtain ⟨c, ec, h⟩ := z_bd h
  obtain ⟨-, h⟩ := z_gd h
  rw [ip, bc8 ha] at ec
  exact ⟨c, ec, (Option.some.inj h).symm⟩
-- one set
theorem rk_in {is G : Ob} {n a : Nat} {y1 : Int32 × Ob} {y2 : Ob} {C : Prop} {r23 : Int32 × Ob → Option (Int32 × Ob)} {r22 : Int32 × Ob → Option Ob} (hn : n < 8) (ha : a < 2 ^ n - 1) (e7 : (gI is 7).toInt = (n : Int)) (eg : (gA G 3 0).toInt = (n : Int)) (hb : ∀ j, j < 7 → gA is 3 j = gA G 3 (64 + j))
    (hrec : ∀ (x : Int32) (me o : Ob), x.toInt = (a : Int) - 1 → gA o 3 = gA G 3 → (∀ b, a ≤ b → b < 2 ^ n → gA me 4 b = gA o 46 b ∧ 0 ≤ (gA o 46 b).toInt ∧ (gA o 46 b).toInt ≤ 7 * (127 - (b : Int))) → r23 (x, me) = some y1 → r22 (x, o) = some y2 → C) :
    ∀ (N : Nat) (q : Nat) (v3 v4 : Int32) (me o : Ob), v4.toInt = (q : Int) → q ≤ n → gA o 3 = gA G 3 → (∀ b, a < b → b < 2 ^ n → gA me 4 b = gA o 46 b ∧ 0 ≤ (gA o 46 b).toInt ∧ (gA o 46 b).toInt ≤ 7 * (127 - (b : Int))) →
      ((v3 = 1000 ∧ gA o 46 a = 100000000 ∧ ∀ p, p < q → bz a p = true) ∨ (v3 = gA o 46 a ∧ 0 ≤ v3.toInt ∧ v3.toInt ≤ 7 * (127 - (a : Int)))) →
      lp_X7_rankAll_34 is r23 N (Int32.ofNat a, v3, v4, me) = some y1 → lp_X9_layLeft_37 r22 N (Int32.ofNat a, v4, o) = some y2 → C := by
  have b128 := (bt5 n hn).2.1
  have ta := on32 (n := a) (by omega)
  have ca := oc32 (n := a) (by omega)
  have n0 : (0 : Int32).toNatClampNeg = 0 := by decide
  intro N
  induction N with
  | zero => intro q v3 v4 me o _ _ _ _ _ h; cases h
  | succ N ih =>
    intro q v3 v4 me o e4 hq hG hT hM h1 h2
    have h1 : lb_X7_rankAll_34 is r23 (lp_X7_rankAll_34 is r23 N) (Int32.ofNat a) v3 v4 me = some y1 := h1
    have h2 : lb_X9_layLeft_37 r22 (lp_X9_layLeft_37 r22 N) (Int32.ofNat a) v4 o = some y2 := h2
    unfold lb_X7_rankAll_34 at h1
    unfold lb_X9_layLeft_37 at h2
    rw [n0, hG] at h2
    by_cases c : q = n
    · have c1 : gI is 7 ≤ v4 := Int32.le_iff_toInt_le.mpr (by omega)
      have c2 : gA G 3 0 ≤ v4 := Int32.le_iff_toInt_le.mpr (by omega)
      obtain ⟨-, h1⟩ := z_gd (z_t h1 c1)
      obtain ⟨o11, e11, h1⟩ := z_lt h1
      obtain ⟨x12, e12, h1⟩ := z_lt h1
      obtain ⟨x7, f7, h2⟩ := z_lt (z_t h2 c2)
      rw [f7, ← e12] at h2
      rw [ca] at e11
      have t12 : x12.toInt = (a : Int) + (-1) := by rw [e12]; exact i32_add ta (by decide) (by omega) (by omega)
      refine hrec x12 o11 o (by omega) hG (fun b g1 g2 => ?_) h1 h2
      have e4' : gA o11 4 b = if b = a then v3 else gA me 4 b := by rw [e11]; rfl
      by_cases d : b = a
      · rw [e4', if_pos d, d]
        rcases hM with ⟨-, -, m⟩ | ⟨m1, m2, m3⟩
        · exact absurd (fun p hp => m p (by omega)) (bt2 n hn a ha)
        · rw [← m1]; exact ⟨rfl, m2, m3⟩
      · rw [e4', if_neg d]; exact hT b (by omega) g2
    · have c1 : ¬ gI is 7 ≤ v4 := fun w => by have w := cv_le (a := (n : Int)) (b := (q : Int)) e7 e4 w; omega
      have c2 : ¬ gA G 3 0 ≤ v4 := fun w => by have w := cv_le (a := (n : Int)) (b := (q : Int)) eg e4 w; omega
      have h1 := z_f h1 c1
      have ev := eo32 e4
      obtain ⟨z8, ez8, h2⟩ := z_bd (z_f h2 c2)
      obtain ⟨-, h2⟩ := z_gd h2
      rw [ca] at h2
      have hst : ∀ (w3 : Int32) (s0 : Int32), bk_X7_rankAll_67 is r23 (lp_X7_rankAll_34 is r23 N) (Int32.ofNat a) w3 v4 me = some y1 → bk_X9_layLeft_82 r22 (lp_X9_layLeft_37 r22 N) (Int32.ofNat a) v4 s0 (Int32.ofNat a) o = some y2 → ((w3 = 1000 ∧ s0 = 100000000 ∧ ∀ p, p < q + 1 → bz a p = true) ∨ (w3 = s0 ∧ 0 ≤ w3.toInt ∧ w3.toInt ≤ 7 * (127 - (a : Int)))) → C := by
        intro w3 s0 k1 k2 hm
        unfold bk_X7_rankAll_67 at k1
        unfold bk_X9_layLeft_82 at k2
        obtain ⟨x13, e13, k1⟩ := z_lt k1
        obtain ⟨-, k2⟩ := z_gd k2
        obtain ⟨o12, e12, k2⟩ := z_lt k2
        obtain ⟨x14, e14, k2⟩ := z_lt k2
        rw [e14, ← e13] at k2
        rw [ca] at e12
        have t13 : x13.toInt = (q : Int) + 1 := by rw [e13]; exact i32_add e4 (by decide) (by omega) (by omega)
        have k46 : ∀ b, gA o12 46 b = if b = a then s0 else gA o 46 b := fun b => by rw [e12]; rfl
        refine ih (q + 1) w3 x13 me o12 (by omega) (by omega) (by rw [e12]; exact hG) (fun b g1 g2 => ?_) ?_ k1 k2
        · rw [k46 b, if_neg (by omega)]; exact hT b g1 g2
        · rw [k46 a, if_pos rfl]; exact hm
      rw [ev] at ez8 h1
      rw [← ev] at h1
      rcases bz_c a q with ⟨bb, bc⟩ | ⟨bb, bc⟩
      · rw [← ev] at bc
        obtain ⟨z14, ez14, h1⟩ := z_bd (z_t h1 bc)
        obtain ⟨x15, e15, h1⟩ := z_lt h1
        rw [ev] at ez14
        obtain ⟨c9, ec9, hc9, ez9⟩ := left9 (by omega) (by omega) bb ez8
        obtain ⟨c', ec', ez'⟩ := broken8 (by omega) (by omega) ez14
        rw [hb q (by omega), ← hG] at ec'
        have ecc : c' = c9 := Option.some.inj (ec'.symm.trans ec9)
        have b1 := bt1 a (by omega) q (by omega)
        have b3 := bt3 n hn a (by omega) q (by omega)
        have b4 := b1.2.2.1 bb
        obtain ⟨w1, w2, w3⟩ := hT _ b4 b3
        have ezz : z14 = z8 := by rw [ez', ez9, ecc, w1]
        have tz : z8.toInt = c9.toInt + (gA o 46 (yv a q).toInt.toNat).toInt := by rw [ez9]; exact i32_add rfl rfl (by omega) (by omega)
        rw [ezz] at e15
        rcases hM with ⟨m1, m2, m3⟩ | ⟨m1, m2, m3⟩
        · have l1 : z8 < v3 := Int32.lt_iff_toInt_lt.mpr (by rw [m1]; show z8.toInt < (1000 : Int32).toInt; have : (1000 : Int32).toInt = 1000 := (by decide); omega)
          have l2 : ¬ gA o 46 a ≤ z8 := fun w => by
            have : (100000000 : Int32).toInt = 100000000 := by decide
            have w := cv_le (a := (gA o 46 a).toInt) (b := z8.toInt) rfl rfl w
            rw [m2] at w; omega
          rw [if_pos l1] at e15
          rw [e15] at h1
          exact hst z8 z8 h1 (z_f h2 l2) (Or.inr ⟨rfl, by omega, by omega⟩)
        · by_cases l : z8 < v3
          · have l' := cv_lt (a := z8.toInt) (b := v3.toInt) rfl rfl l
            have l2 : ¬ gA o 46 a ≤ z8 := fun w => by
              have w := cv_le (a := (gA o 46 a).toInt) (b := z8.toInt) rfl rfl w
              rw [← m1] at w; omega
            rw [if_pos l] at e15
            rw [e15] at h1
            exact hst z8 z8 h1 (z_f h2 l2) (Or.inr ⟨rfl, by omega, by omega⟩)
          · have l' := cv_nlt (a := z8.toInt) (b := v3.toInt) rfl rfl l
            have l2 : gA o 46 a ≤ z8 := Int32.le_iff_toInt_le.mpr (by rw [← m1]; exact l')
            rw [if_neg l] at e15
            rw [e15] at h1
            obtain ⟨-, h2⟩ := z_gd (z_t h2 l2)
            exact hst v3 _ h1 h2 (Or.inr ⟨m1, m2, m3⟩)
      · rw [← ev] at bc
        have h1 := z_f h1 bc
        have ez : z8 = 100000000 := Option.some.inj (ez8.symm.trans (lb_one o a q bb))
        have : (100000000 : Int32).toInt = 100000000 := by decide
        have l2 : gA o 46 a ≤ z8 := Int32.le_iff_toInt_le.mpr (by
          rw [ez]
          rcases hM with ⟨m1, m2, m3⟩ | ⟨m1, m2, m3⟩
          · rw [m2]; exact Int.le_refl _
          · rw [← m1]; omega)
        obtain ⟨-, h2⟩ := z_gd (z_t h2 l2)
        refine hst v3 _ h1 h2 ?_
        rcases hM with ⟨m1, m2, m3⟩ | m
        · refine Or.inl ⟨m1, m2, fun p hp => ?_⟩
          by_cases d : p = q
          · rw [d]; exact bb
          · exact m3 p (by omega)
        · exact Or.inr m
-- all sets
theorem rk_out {is G : Ob} {n : Nat} {y1 : Int32 × Ob} {y2 : Ob} (hn : n < 8) (e7 : (gI is 7).toInt = (n : Int)) (eg : (gA G 3 0).toInt = (n : Int)) (hb : ∀ j, j < 7 → gA is 3 j = gA G 3 (64 + j)) :
    ∀ (N : Nat) (v2 : Int32) (me o : Ob) (a : Nat), v2.toInt = (a : Int) - 1 → a ≤ 2 ^ n - 1 → gA o 3 = gA G 3 → (∀ b, a ≤ b → b < 2 ^ n → gA me 4 b = gA o 46 b ∧ 0 ≤ (gA o 46 b).toInt ∧ (gA o 46 b).toInt ≤ 7 * (127 - (b : Int))) →
      lp_X7_rankAll_23 is N (v2, me) = some y1 → lp_X9_layLeft_22 N (v2, o) = some y2 → ∃ me', lp_X7_rankAll_90 is zfu (0, 0, me') = some y1 ∧ gA y2 3 = gA G 3 ∧ ∀ b, b < 2 ^ n → gA me' 4 b = gA y2 46 b := by
  have b128 := (bt5 n hn).2.1
  intro N
  induction N with
  | zero => intro v2 me o a _ _ _ _ h; cases h
  | succ N ih =>
    intro v2 me o a e2 ha hG hT h1 h2
    have h1 : lb_X7_rankAll_23 is (lp_X7_rankAll_23 is N) v2 me = some y1 := h1
    have h2 : lb_X9_layLeft_22 (lp_X9_layLeft_22 N) v2 o = some y2 := h2
    unfold lb_X7_rankAll_23 at h1
    unfold lb_X9_layLeft_22 at h2
    by_cases c : v2 < (0 : Int32)
    · have d := cv_lt (a := v2.toInt) (b := 0) rfl (by decide) c
      have e := Option.some.inj (z_t h2 c)
      rw [← e]
      exact ⟨me, z_t h1 c, hG, fun b hb => (hT b (by omega) hb).1⟩
    · have d := cv_nlt (a := v2.toInt) (b := 0) rfl (by decide) c
      obtain ⟨k, rfl⟩ : ∃ k, a = k + 1 := ⟨a - 1, by omega⟩
      have ev : v2 = Int32.ofNat k := eo32 (by omega)
      have h1 := z_f h1 c
      obtain ⟨-, h2⟩ := z_gd (z_f h2 c)
      obtain ⟨o6, e6, h2⟩ := z_lt h2
      subst ev
      have ck := oc32 (n := k) (by omega)
      rw [ck] at e6
      have k46 : ∀ b, gA o6 46 b = if b = k then 100000000 else gA o 46 b := fun b => by rw [e6]; rfl
      refine rk_in (a := k) hn (by omega) e7 eg hb (fun x me' o' g1 g2 g3 g4 g5 => ih x me' o' k g1 (by omega) g2 g3 g4 g5) zfu 0 1000 0 me o6 (by decide) (by omega) (by rw [e6]; exact hG) (fun b g1 g2 => ?_) (Or.inl ⟨rfl, by rw [k46 k, if_pos rfl], fun p hp => absurd hp (Nat.not_lt_zero _)⟩) h1 h2
      rw [k46 b, if_neg (by omega)]; exact hT b (by omega) g2
-- the list
theorem first8 {me is : Ob} {G : Ob} {n a p : Nat} {z : Int32} (hn : n < 8) (ha : a < 2 ^ n) (e7 : (gI is 7).toInt = (n : Int)) (hp : p < n) (hB : bz a p = false) (hv : ∀ z, f_X7_brokenBy me is (Int32.ofNat p) (Int32.ofNat a) = some z → z = gA me 4 a) (hlt : ∀ q, q < p → bz a q = false → ∀ z, f_X7_brokenBy me is (Int32.ofNat q) (Int32.ofNat a) = some z → ¬ z = gA me 4 a) :
    ∀ (N : Nat) (q : Nat) (v2 : Int32), v2.toInt = (q : Int) → q ≤ p → lp_X7_firstNext_2 me is N (Int32.ofNat a, v2) = some z → z = Int32.ofNat p := by
  have b128 := (bt5 n hn).2.1
  have ca := oc32 (n := a) (by omega)
  intro N
  induction N with
  | zero => intro q v2 _ _ h; cases h
  | succ N ih =>
    intro q v2 e2 hq h
    have h : lb_X7_firstNext_2 me is (lp_X7_firstNext_2 me is N) (Int32.ofNat a) v2 = some z := h
    unfold lb_X7_firstNext_2 at h
    have h := z_f h (fun w => by have w := cv_le (a := (n : Int)) (b := (q : Int)) e7 e2 w; omega)
    have ev := eo32 e2
    have hst : bk_X7_firstNext_38 me is (lp_X7_firstNext_2 me is N) (Int32.ofNat a) v2 = some z → q < p → z = Int32.ofNat p := by
      intro h hlt
      unfold bk_X7_firstNext_38 at h
      obtain ⟨x1, e1, h⟩ := z_lt h
      have t1 : x1.toInt = (q : Int) + 1 := by rw [e1]; exact i32_add e2 (by decide) (by omega) (by omega)
      exact ih (q + 1) x1 (by omega) (by omega) h
    rcases bz_c a q with ⟨bb, bc⟩ | ⟨bb, bc⟩
    · rw [← ev] at bc
      obtain ⟨z2, ez2, h⟩ := z_bd (z_t h bc)
      obtain ⟨-, h⟩ := z_gd h
      rw [ca] at h
      rw [ev] at ez2
      by_cases c : q = p
      · rw [c] at ez2
        have := Option.some.inj (z_t h (hv z2 ez2))
        rw [← this, ev, c]
      · exact hst (z_f h (hlt q (by omega) bb z2 ez2)) (by omega)
    · rw [← ev] at bc
      have h := z_f h bc
      by_cases c : q = p
      · rw [c, hB] at bb; cases bb
      · exact hst h (by omega)
theorem rk_keep {is : Ob} {y1 : Int32 × Ob} : ∀ (N : Nat) (v2 v3 : Int32) (me : Ob) (k : Nat), v3.toInt = (k : Int) → k ≤ 7 → lp_X7_rankAll_90 is N (v2, v3, me) = some y1 → y1.1 = gA me 4 0 ∧ ∀ j, j < k → gA y1.2 2 j = gA me 2 j := by
  intro N
  induction N with
  | zero => intro v2 v3 me k _ _ h; cases h
  | succ N ih =>
    intro v2 v3 me k e3 hk h
    have h : lb_X7_rankAll_90 is (lp_X7_rankAll_90 is N) v2 v3 me = some y1 := h
    unfold lb_X7_rankAll_90 at h
    by_cases c : gI is 7 ≤ v3
    · have e := Option.some.inj (z_t h c)
      rw [← e]
      exact ⟨rfl, fun j _ => rfl⟩
    · obtain ⟨z5, -, h⟩ := z_bd (z_f h c)
      obtain ⟨g, h⟩ := z_gd h
      obtain ⟨o7, e7, h⟩ := z_lt h
      obtain ⟨x8, -, h⟩ := z_lt h
      obtain ⟨x9, e9, h⟩ := z_lt h
      have gk := (of_decide_eq_true g).2
      have i3 : v3.toNatClampNeg = k := tnc_eq e3
      rw [i3] at e7
      have t9 : x9.toInt = (k : Int) + 1 := by rw [e9]; exact i32_add e3 (by decide) (by omega) (by omega)
      obtain ⟨a, b⟩ := ih x8 x9 o7 (k + 1) (by omega) (by omega) h
      refine ⟨by rw [a, e7]; rfl, fun j hj => ?_⟩
      rw [b j (by omega), e7]
      exact if_neg (show ¬ j = k by omega)
theorem rk_list {is o : Ob} {n w : Nat} {y1 y2 : Int32 × Ob} {v1 : Int32} (hn : n < 8) (e7 : (gI is 7).toInt = (n : Int)) (hb : ∀ j, j < 7 → gA is 3 j = gA o 3 (64 + j)) (hG : ∀ b, b < 2 ^ n → LG o n b) (ew : v1.toInt = (w : Int)) (hw : w ≤ n) (hw1 : 1 ≤ w) :
    ∀ (N : Nat) (a k : Nat) (v3 v4 : Int32) (me : Ob), a < 2 ^ n → pcn a ≤ k → v4.toInt = (k : Int) → k ≤ w → (∀ b, b < 2 ^ n → gA me 4 b = gA o 46 b) → (1 ≤ k → gA me 2 (k - 1) = v3) →
      lp_X7_rankAll_90 is N (Int32.ofNat a, v4, me) = some y1 → lp_X9_ranking_39 N (v1, Int32.ofNat a, v3, v4, o) = some y2 → gA y1.2 2 (w - 1) = y2.1 := by
  have b128 := (bt5 n hn).2.1
  intro N
  induction N with
  | zero => intro a k v3 v4 me _ _ _ _ _ _ h; cases h
  | succ N ih =>
    intro a k v3 v4 me ha hp e4 hk hT hL h1 h2
    have h1' := h1
    have h1 : lb_X7_rankAll_90 is (lp_X7_rankAll_90 is N) (Int32.ofNat a) v4 me = some y1 := h1
    have h2 : lb_X9_ranking_39 (lp_X9_ranking_39 N) v1 (Int32.ofNat a) v3 v4 o = some y2 := h2
    unfold lb_X9_ranking_39 at h2
    by_cases c : v1 ≤ v4
    · have d := cv_le (a := (w : Int)) (b := (k : Int)) ew e4 c
      have e := Option.some.inj (z_t h2 c)
      rw [← e]
      have ek : k = w := by omega
      rw [(rk_keep _ _ _ _ k e4 (by omega) h1').2 (w - 1) (by omega), ← ek]
      exact hL (by omega)
    · have d := cv_nle (a := (w : Int)) (b := (k : Int)) ew e4 c
      have h2 := z_f h2 c
      have ha2 := bt4 n hn a ha (by omega)
      unfold lb_X7_rankAll_90 at h1
      have h1 := z_f h1 (fun q => by have q := cv_le (a := (n : Int)) (b := (k : Int)) e7 e4 q; omega)
      obtain ⟨z5, ez5, h1⟩ := z_bd h1
      obtain ⟨-, h1⟩ := z_gd h1
      obtain ⟨o7, f7, h1⟩ := z_lt h1
      obtain ⟨x8, f8, h1⟩ := z_lt h1
      obtain ⟨x9, f9, h1⟩ := z_lt h1
      have i4 : v4.toNatClampNeg = k := tnc_eq e4
      rw [i4] at f7
      -- who comes next, by the reference
      have hnext : ∀ (M : Nat) (q : Nat) (w3 : Int32), w3.toInt = (q : Int) → q < n → (∀ r, r < q → ∀ z, f_X9_leftBy o (Int32.ofNat a) (Int32.ofNat r) = some z → ¬ z = gA o 46 a) → lp_X9_ranking_47 (lp_X9_ranking_39 N) M (v1, Int32.ofNat a, w3, v4, o) = some y2 →
          ∃ p, p < n ∧ f_X9_leftBy o (Int32.ofNat a) (Int32.ofNat p) = some (gA o 46 a) ∧ (∀ r, r < p → ∀ z, f_X9_leftBy o (Int32.ofNat a) (Int32.ofNat r) = some z → ¬ z = gA o 46 a) ∧ lp_X9_ranking_39 N (v1, yv a p, Int32.ofNat p, v4 + 1, o) = some y2 := by
        intro M
        induction M with
        | zero => intro q w3 _ _ _ h; cases h
        | succ M ihM =>
          intro q w3 e3 hq hlt h
          have h : lb_X9_ranking_47 (lp_X9_ranking_39 N) (lp_X9_ranking_47 (lp_X9_ranking_39 N) M) v1 (Int32.ofNat a) w3 v4 o = some y2 := h
          unfold lb_X9_ranking_47 at h
          obtain ⟨z5, ez, h⟩ := z_bd h
          obtain ⟨-, h⟩ := z_gd h
          have ca := oc32 (n := a) (by omega)
          rw [ca] at h
          have ev := eo32 e3
          by_cases cc : z5 = gA o 46 a
          · obtain ⟨x7, g7, h⟩ := z_lt (z_t h cc)
            obtain ⟨x8, g8, h⟩ := z_lt h
            rw [g7, g8, ev] at h
            rw [ev, cc] at ez
            exact ⟨q, hq, ez, hlt, h⟩
          · obtain ⟨x9, g9, h⟩ := z_lt (z_f h cc)
            have t9 : x9.toInt = (q : Int) + 1 := by rw [g9]; exact i32_add e3 (by decide) (by omega) (by omega)
            have hlt' : ∀ r, r < q + 1 → ∀ z, f_X9_leftBy o (Int32.ofNat a) (Int32.ofNat r) = some z → ¬ z = gA o 46 a := by
              intro r hr z hz
              by_cases er : r = q
              · rw [er, ← ev] at hz
                have : z5 = z := Option.some.inj (ez.symm.trans hz)
                rw [← this]; exact cc
              · exact hlt r (by omega) z hz
            obtain ⟨p, hp', ep'⟩ := (hG a ha).2 ha2
            have hqp : q + 1 ≤ p := by
              rcases (show q + 1 ≤ p ∨ p < q + 1 by omega) with u | u
              · exact u
              · exact absurd rfl (hlt' p u _ ep')
            exact ihM (q + 1) x9 (by omega) (by omega) hlt' h
      have hn0 : 0 < n := by omega
      obtain ⟨p, hpn, ep, hfirst, h2⟩ := hnext zfu 0 0 (by decide) hn0 (fun r hr => absurd hr (Nat.not_lt_zero _)) h2
      have hbp : bz a p = false := by
        cases hb' : bz a p with
        | false => rfl
        | true =>
          have := Option.some.inj (ep.symm.trans (lb_one o a p hb'))
          have q := (hG a ha).1
          have t : (100000000 : Int32).toInt = 100000000 := by decide
          rw [this] at q; omega
      have hsame : ∀ r, r < n → bz a r = false → ∀ z, f_X7_brokenBy me is (Int32.ofNat r) (Int32.ofNat a) = some z → ∀ z', f_X9_leftBy o (Int32.ofNat a) (Int32.ofNat r) = some z' → z = z' := by
        intro r hr hbr z hz z' hz'
        obtain ⟨c9, ec9, -, ez9⟩ := left9 (by omega) (by omega) hbr hz'
        obtain ⟨c', ec', ez'⟩ := broken8 (by omega) (by omega) hz
        rw [hb r (by omega)] at ec'
        have ecc : c' = c9 := Option.some.inj (ec'.symm.trans ec9)
        have b3 := bt3 n hn a ha r hr
        rw [ez', ez9, ecc, hT _ b3]
      have hdef : ∀ r, r < n → bz a r = false → ∃ z', f_X9_leftBy o (Int32.ofNat a) (Int32.ofNat r) = some z' := by
        intro r hr hbr
        obtain ⟨c9, -, e9⟩ := lb_zero o a r (by omega) (by omega) hbr
        exact ⟨_, e9 o rfl⟩
      unfold f_X7_firstNext at ez5
      have ez : z5 = Int32.ofNat p := by
        refine first8 (G := o) hn ha e7 hpn hbp (fun z hz => ?_) (fun q hq hbq z hz => ?_) zfu 0 0 (by decide) (Nat.zero_le _) ez5
        · rw [hsame p hpn hbp z hz _ ep, hT a ha]
        · obtain ⟨z', hz'⟩ := hdef q (by omega) hbq
          rw [hsame q (by omega) hbq z hz z' hz', hT a ha]
          exact hfirst q hq z' hz'
      have b1 := bt1 a (by omega) p (by omega)
      have b3 := bt3 n hn a ha p hpn
      have t9 : x9.toInt = (k : Int) + 1 := by rw [f9]; exact i32_add e4 (by decide) (by omega) (by omega)
      have ey : yv a p = Int32.ofNat (yv a p).toInt.toNat := of32 b1.1
      have e8 : x8 = Int32.ofNat (yv a p).toInt.toNat := by rw [f8, ez]; exact ey
      rw [e8] at h1
      rw [ey, ← f9] at h2
      refine ih (yv a p).toInt.toNat (k + 1) (Int32.ofNat p) x9 o7 b3 (by have := b1.2.2.2; omega) (by omega) (by omega) (fun b hb' => by rw [f7]; exact hT b hb') (fun _ => ?_) h1 h2
      rw [f7, ez]
      exact if_pos (show k + 1 - 1 = k by omega)
theorem rank_eq {o0 is me o9 : Ob} {pl : List CR} {p0 : Int32} {y1 y2 : Int32 × Ob} (h4 : IvX2 pl is) (h9 : IvX9 o9) (ht : Tis is (gA o9 3)) (h1 : f_X8_ranking o0 is me p0 = some y1) (h2 : f_X9_ranking o9 p0 = some y2) : y1.1 = y2.1 := by
  obtain ⟨n, en, hn⟩ := people_n h4
  have en9 : (gA o9 3 0).toInt = (n : Int) := by rw [← ht.1]; exact en
  unfold f_X8_ranking at h1
  unfold f_X9_ranking at h2
  obtain ⟨o1, eo1, h2⟩ := z_lt h2
  have g1 : gA o1 3 = gA o9 3 := by rw [eo1]; rfl
  have hI1 : IvX9 o1 := by rw [eo1]; exact h9
  obtain ⟨z2, ez2, h2⟩ := z_bd h2
  have n0 : (0 : Int32).toNatClampNeg = 0 := by decide
  have en1 : (gA o1 3 (0 : Int32).toNatClampNeg).toInt = (n : Int) := by rw [n0, g1]; exact en9
  rcases in9 (m := 0) (n := (n : Int)) (by decide) ((Int32.toInt_toInt64 _).trans en1) ez2 with ⟨a, b⟩ | ⟨a, b⟩
  · have e2 := Option.some.inj (z_t h2 a)
    rw [← e2]
    by_cases c1 : p0 < (0 : Int32)
    · rw [← Option.some.inj (z_t h1 c1)]
    · have d1 := cv_nlt (a := p0.toInt) (b := 0) rfl (by decide) c1
      have h1 := z_f h1 c1
      have h1 := z_f h1 (fun q => by have q := cv_le (a := p0.toInt) (b := (n : Int)) rfl en q; omega)
      rw [← Option.some.inj h1]
  · have h2 := z_f h2 a
    have h1 := z_f h1 (fun q => by have q := cv_lt (a := p0.toInt) (b := 0) rfl (by decide) q; omega)
    have h1 := z_t h1 (Int32.le_iff_toInt_le.mpr (by omega))
    obtain ⟨z3, ez3, h2⟩ := z_bd h2
    obtain ⟨x4, ex4, h2⟩ := z_lt h2
    obtain ⟨z1, ez1, h1⟩ := z_bd h1
    obtain ⟨z3', ez3', ⟨-, hK⟩, hG⟩ := h_layLeft o1 hI1 n en1
    have ezz : z3' = z3 := Option.some.inj (ez3'.symm.trans ez3)
    rw [ezz] at hK hG
    have b5 := bt5 n (by omega)
    have hlay : ∃ me', lp_X7_rankAll_90 is zfu (0, 0, me') = some z1 ∧ gA z3 3 = gA o1 3 ∧ ∀ b, b < 2 ^ n → gA me' 4 b = gA z3 46 b := by
      unfold f_X7_rankAll at ez1
      unfold f_X9_layLeft at ez3
      obtain ⟨u1, f1, ez1⟩ := z_lt ez1
      obtain ⟨-, ez1⟩ := z_gd ez1
      obtain ⟨u3, f3, ez1⟩ := z_lt ez1
      obtain ⟨u4, f4, ez1⟩ := z_lt ez1
      obtain ⟨w1, k1, ez3⟩ := z_lt ez3
      obtain ⟨-, ez3⟩ := z_gd ez3
      obtain ⟨w3, k3, ez3⟩ := z_lt ez3
      obtain ⟨w4, k4, ez3⟩ := z_lt ez3
      rw [eo32 en] at f1
      rw [eo32 en1, ← f1] at k1
      rw [k1] at k3 k4
      rw [← f4] at k4
      rw [k4] at ez3
      have t1 : u1.toInt = ((2 ^ n : Nat) : Int) - 1 := by rw [f1]; exact i32_sub b5.1 (by decide) (by omega) (by omega)
      have n1 : u1.toNatClampNeg = 2 ^ n - 1 := tnc_eq (by omega)
      have t4 : u4.toInt = ((2 ^ n : Nat) : Int) - 1 - 1 := by rw [f4]; exact i32_sub t1 (by decide) (by omega) (by omega)
      rw [n1] at f3 k3
      have kk : gA w3 3 = gA o1 3 := by rw [k3]; rfl
      refine rk_out (G := o1) (by omega) en (by rw [← n0]; exact en1) (fun j hj => by rw [g1]; exact ht.2.2.2.1 j hj) zfu u4 u3 w3 (2 ^ n - 1) (by omega) (Nat.le_refl _) kk (fun b q1 q2 => ?_) ez1 ez3
      have eb : b = 2 ^ n - 1 := by omega
      have e1 : gA u3 4 b = 0 := by rw [f3]; exact if_pos eb
      have e2 : gA w3 46 b = 0 := by rw [k3]; exact if_pos eb
      have z0 : (0 : Int32).toInt = 0 := by decide
      rw [e1, e2]
      exact ⟨rfl, by omega, by omega⟩
    obtain ⟨me', l1, l2, l3⟩ := hlay
    by_cases c0 : p0 = 0
    · have e1 := Option.some.inj (z_t h1 c0)
      rw [c0] at h2
      have h2 : lb_X9_ranking_39 (lp_X9_ranking_39 99999) 0 0 x4 0 z3 = some y2 := h2
      unfold lb_X9_ranking_39 at h2
      have e2 := Option.some.inj (z_t h2 (by decide))
      rw [← e1, ← e2]
      show z1.1 = x4
      rw [(rk_keep _ _ _ _ 0 (by decide) (by decide) l1).1, ex4, n0]
      exact l3 0 b5.2.2
    · have d0 := cv_ne (a := p0.toInt) (b := 0) rfl (by decide) c0
      obtain ⟨-, h1⟩ := z_gd (z_f h1 c0)
      have e1 := Option.some.inj h1
      rw [← e1]
      have t : (p0 - (1 : Int32)).toInt = p0.toInt - 1 := i32_sub rfl (by decide) (by omega) (by omega)
      have it : (p0 - (1 : Int32)).toNatClampNeg = p0.toInt.toNat - 1 := tnc_eq (by omega)
      show gA z1.2 2 (p0 - (1 : Int32)).toNatClampNeg = y2.1
      rw [it]
      exact rk_list (w := p0.toInt.toNat) (by omega) en (fun j hj => by rw [l2, g1]; exact ht.2.2.2.1 j hj) hG (by omega) (by omega) (by omega) zfu 0 0 x4 0 me' (by omega) (by decide) (by decide) (Nat.zero_le _) l3 (fun q => absurd q (by decide)) l1 h2
def JI (S : Nat → Ob) (pl : List CR) (im0 im1 : Option IR) : Prop :=
  (IvX9 (S 14) ∧ gI (S 14) 20 = 0 ∧ Tall (S 0) (S 1) (S 4) (S 14) im0 im1) ∧ PLok pl ∧ IvX6 (S 1) ∧ IvX0 12 400 (S 2) ∧ IvX3 (S 3) ∧ IvX2 pl (S 4) ∧ IvX4 (S 5) ∧ IvX1 (S 6) ∧ IvX7 (S 7) ∧ IvX2 pl (S 8) ∧ IvX4 (S 9) ∧ IvX1 (S 10) ∧ IvX5 (S 11) ∧ IvX5 (S 12) ∧ IvX4 (S 13) ∧ IK (gR (S 0) 7) im0 im1 ∧
  (∀ r : IR, im0 = some r → IvX2 pl r.2.2.2.2.2.2.1 ∧ IvX4 r.2.2.2.2.2.2.2) ∧ (∀ r : IR, im1 = some r → IvX2 pl r.2.2.2.2.2.2.1 ∧ IvX4 r.2.2.2.2.2.2.2)
theorem zpo_app {pl l : List CR} {r : Option Nat} (h : zpo pl r = true) : zpo (pl ++ l) r = true := by
  cases r with
  | none => rfl
  | some a =>
    have h : (pfind pl a).isSome = true := h
    show (pfind (pl ++ l) a).isSome = true
    unfold pfind at h ⊢
    rw [List.find?_append]
    cases e : pl.find? (fun c => Nat.beq c.1 a) with
    | none => rw [e] at h; cases h
    | some c => rfl
theorem zpo_new {pl : List CR} {c : CR} : zpo (pl ++ [c]) (some c.1) = true := by
  show (pfind (pl ++ [c]) c.1).isSome = true
  unfold pfind
  rw [List.find?_append]
  cases e : pl.find? (fun c' => Nat.beq c'.1 c.1) with
  | none =>
    have q : [c].find? (fun c' => Nat.beq c'.1 c.1) = some c := List.find?_cons_of_pos (Nat.beq_refl c.1)
    rw [q]; rfl
  | some c' => rfl
theorem IvX2.app {pl l : List CR} {o : Ob} (h : IvX2 pl o) : IvX2 (pl ++ l) o := ⟨h.1, h.2.1, h.2.2.1, h.2.2.2.1, h.2.2.2.2.1, fun j hj => zpo_app (h.2.2.2.2.2 j hj)⟩
theorem PLok.app {pl : List CR} {c : CR} (h : PLok pl) (hc : IvX0 c.2.2.2.1 c.2.2.2.2.1 c.2.2.2.2.2) : PLok (pl ++ [c]) := by
  intro d hd
  rcases List.mem_append.mp hd with q | q
  · exact h d q
  · rw [List.mem_singleton.mp q]; exact hc
theorem h_kept (o : Ob) (h : IvX0 12 400 o) : ∃ oc, f_X0_kept 12 400 o = some oc ∧ IvX0 (gI o 7).toNatClampNeg (gI o 8).toNatClampNeg oc := by
  have h7 := h.1
  have h8 := h.2.1
  have e7 : (((gI o 7).toNatClampNeg : Nat) : Int) = (gI o 7).toInt := by
    have e : (gI o 7).toNatClampNeg = (gI o 7).toInt.toNat := rfl
    rw [e]; omega
  have e8 : (((gI o 8).toNatClampNeg : Nat) : Int) = (gI o 8).toInt := by
    have e : (gI o 8).toNatClampNeg = (gI o 8).toInt.toNat := rfl
    rw [e]; omega
  have z0 : (0 : Int32).toInt = 0 := by decide
  have g : wp (f_X0_kept 12 400 o) (fun oc => IvX0 (gI o 7).toNatClampNeg (gI o 8).toNatClampNeg oc) := by
    unfold f_X0_kept
    refine wp_gd (decide_eq_true ⟨by omega, by omega, by omega, by omega⟩) ?_
    unfold f_X0_kept2
    have c7 : zcp (0 : Int32) (0 : Int32) (gI o 7) 12 (gI o 7).toNatClampNeg = true := zcp_of (m0 := 12) (m1 := (gI o 7).toInt) rfl e7 (by omega) (by omega) (by omega) (by omega) (by omega)
    have c8 : zcp (0 : Int32) (0 : Int32) (gI o 8) 400 (gI o 8).toNatClampNeg = true := zcp_of (m0 := 400) (m1 := (gI o 8).toInt) rfl e8 (by omega) (by omega) (by omega) (by omega) (by omega)
    refine wp_gd c7 ?_
    refine wp_lt (fun o2 f2 => ?_)
    refine wp_gd c7 ?_
    refine wp_lt (fun o4 f4 => ?_)
    refine wp_gd c7 ?_
    refine wp_lt (fun o6 f6 => ?_)
    refine wp_gd c7 ?_
    refine wp_lt (fun o8 f8 => ?_)
    refine wp_gd c7 ?_
    refine wp_lt (fun o10 f10 => ?_)
    refine wp_gd c8 ?_
    refine wp_lt (fun o12 f12 => ?_)
    refine wp_gd c8 ?_
    refine wp_lt (fun o14 f14 => ?_)
    refine wp_lt (fun o15 f15 => ?_)
    refine wp_lt (fun o16 f16 => ?_)
    refine wp_some ?_
    have k7 : gI o16 7 = gI o 7 := by rw [f16, f15]; rfl
    have k8 : gI o16 8 = gI o 8 := by rw [f16]; rfl
    have k1 : gA o16 1 = va_cpy (gA o 1) (fun _ => 0) (0 : Int32).toNatClampNeg (0 : Int32).toNatClampNeg (gI o 7).toNatClampNeg := by rw [f16, f15, f14, f12, f10, f8, f6, f4, f2]; rfl
    refine ⟨by rw [k7]; omega, by rw [k8]; omega, fun j _ hj => ?_, trivial⟩
    rw [k1]
    unfold va_cpy
    have n0 : (0 : Int32).toNatClampNeg = 0 := by decide
    rw [n0]
    split
    · have e : 0 + (j - 0) = j := by omega
      rw [e]; exact h.2.2.1 j (Nat.zero_le _) hj
    · exact (show 0 ≤ (0 : Int32).toInt ∧ (0 : Int32).toInt ≤ 20 by decide)
  exact g
theorem h_lawb (pl : List CR) (c : CR) (hpl : PLok pl) (hc : IvX0 c.2.2.2.1 c.2.2.2.2.1 c.2.2.2.2.2) (o8 o4 : Ob) (h4 : IvX2 pl o4) : ∃ y, f_X8_law_b (pl ++ [c]) o8 o4 (some c.1) = some y ∧ IvX8 (gR o8 7) y.2.1 ∧ IvX2 (pl ++ [c]) y.2.2 := by
  obtain ⟨z3, e3, -, g, -⟩ := s_X2_addLaw_Q o4 (pl ++ [c]) (some c.1) h4.app (hpl.app hc) zpo_new
  obtain ⟨z4, e4, g4, -⟩ := s_X8_grant o8 z3.1 (rfl : IvX8 (gR o8 7) o8)
  refine ⟨(z4.1, z4.2, z3.2), ?_, g4, g⟩
  unfold f_X8_law_b
  rw [e3]
  show ((f_X8_grant o8 z3.1).bind fun z4 => some (z4.1, z4.2, z3.2)) = _
  rw [e4]; rfl
theorem iv2_0 (pl : List CR) : IvX2 pl ob2 := by
  have z : (0 : Int32).toInt = 0 := by decide
  refine ⟨⟨by decide, by decide⟩, ⟨by decide, by decide⟩, ⟨by decide, by decide⟩, ⟨by decide, by decide⟩, ⟨fun j _ _ => ?_, trivial⟩, fun j _ => rfl⟩
  show 0 ≤ (0 : Int32).toInt ∧ (0 : Int32).toInt ≤ 3
  decide
theorem iv4_0 : IvX4 ob0 := by
  refine ⟨⟨fun j _ _ => ?_, trivial⟩, trivial⟩
  show 0 ≤ (0 : Int32).toInt ∧ (0 : Int32).toInt ≤ 9
  decide
theorem h_imgb (pl : List CR) (hpl : PLok pl) (o4 o5 o8 oi on : Ob) (h4 : IvX2 pl o4) (h5 : IvX4 o5) (hi : IvX2 pl oi) (hn : IvX4 on) : ∃ y, f_X8_image_b o4 o5 pl o8 oi on = some y ∧ IvX8 (gR o8 7) y.2.1 ∧ IvX2 pl y.2.2.1 ∧ IvX4 y.2.2.2 := by
  obtain ⟨z2, e2, g1, -, g2, -⟩ := s_X2_set_O oi on pl o4 o5 hi hn hpl h4 h5
  obtain ⟨z3, e3, g3, -⟩ := s_X8_grant o8 0 (rfl : IvX8 (gR o8 7) o8)
  refine ⟨(z3.1, z3.2, z2.1, z2.2), ?_, g3, g1, g2⟩
  unfold f_X8_image_b
  rw [e2]
  show ((f_X8_grant o8 0).bind fun z3 => some (z3.1, z3.2, z2.1, z2.2)) = _
  rw [e3]; rfl
theorem okp_0 : ok_0 JI := by
  intro S pl im0 im1 a1 a2 hJ
  obtain ⟨⟨h14, h20, ht⟩, hpl, h1, h2, h3, h4, h5, h6, h7, h8, h9, h10, h11, h12, h13, hik, hi0, hi1⟩ := hJ
  obtain ⟨y2, e2, p2⟩ := s_X9_person (S 14) a1 a2 h14 
  obtain ⟨y1, e1, p1⟩ := s_X8_person (S 0) (S 4) (S 5) (S 11) a1 a2 (rfl : IvX8 (gR (S 0) 7) (S 0)) h4 h5 h11
  exact ⟨y2, e2, y1, e1, ⟨⟨p2.2.1, ((p2.2.2.1 20 (by decide)).trans h20), Tall.tis ht rfl p1.1 p2.2.2 (by decide) (by decide) (by decide) (t_person h4 ht.2.1 e1 e2).2⟩, hpl, h1, h2, h3, p1.2.2.1, p1.2.2.2.2.1, h6, h7, h8, h9, h10, p1.2.2.2.2.2.2.1, h12, h13, (IK.eq p1.1 hik), hi0, hi1⟩⟩
theorem okp_1 : ok_1 JI := by
  intro S pl im0 im1 a1 a2 hJ
  obtain ⟨⟨h14, h20, ht⟩, hpl, h1, h2, h3, h4, h5, h6, h7, h8, h9, h10, h11, h12, h13, hik, hi0, hi1⟩ := hJ
  obtain ⟨y2, e2, p2⟩ := s_X9_of (S 14) a1 a2 h14 ⟨by rw [h20]; decide, by rw [h20]; decide⟩
  obtain ⟨y1, e1, p1⟩ := s_X8_of (S 0) (S 3) (S 4) (S 5) (S 6) pl a1 a2 (rfl : IvX8 (gR (S 0) 7) (S 0)) h3 h4 h5 h6 hpl
  exact ⟨y2, e2, y1, e1, ⟨⟨p2.1, ((p2.2.1 20 (by decide)).trans h20), Tall.eq ht rfl rfl rfl rfl rfl (rfl : gR (S 0) 7 = gR (S 0) 7) p2.2 (by decide) (by decide) (by decide) (by decide) (by decide) (by decide) (by decide)⟩, hpl, h1, h2, p1.1, h4, h5, h6, h7, h8, h9, h10, h11, h12, h13, hik, hi0, hi1⟩⟩
theorem okp_2 : ok_2 JI := by
  intro S pl im0 im1 a1 a2 a3 hJ
  obtain ⟨⟨h14, h20, ht⟩, hpl, h1, h2, h3, h4, h5, h6, h7, h8, h9, h10, h11, h12, h13, hik, hi0, hi1⟩ := hJ
  obtain ⟨y2, e2, p2⟩ := s_X9_strength (S 14) a1 a2 a3 h14 
  obtain ⟨y1, e1, p1⟩ := s_X8_strength (S 0) (S 4) a1 a2 a3 (rfl : IvX8 (gR (S 0) 7) (S 0)) h4
  exact ⟨y2, e2, y1, e1, ⟨⟨p2.1, ((p2.2.1 20 (by decide)).trans h20), Tall.eq ht rfl (p1.2.2.2.1 7 (by decide)) (p1.2.2.2.1 8 (by decide)) (p1.2.2.2.2.1 1 (by decide)) (p1.2.2.2.2.1 3 (by decide)) p1.1 p2.2 (by decide) (by decide) (by decide) (by decide) (by decide) (by decide) (by decide)⟩, hpl, h1, h2, h3, p1.2.2.1, h5, h6, h7, h8, h9, h10, h11, h12, h13, (IK.eq p1.1 hik), hi0, hi1⟩⟩
theorem okp_3 : ok_3 JI := by
  intro S pl im0 im1 a1 a2 a3 hJ
  obtain ⟨⟨h14, h20, ht⟩, hpl, h1, h2, h3, h4, h5, h6, h7, h8, h9, h10, h11, h12, h13, hik, hi0, hi1⟩ := hJ
  obtain ⟨y2, e2, p2⟩ := s_X9_beats (S 14) a1 a2 a3 h14 
  obtain ⟨y1, e1, p1⟩ := s_X8_beats (S 0) (S 4) a1 a2 a3 (rfl : IvX8 (gR (S 0) 7) (S 0)) h4
  exact ⟨y2, e2, y1, e1, ⟨⟨p2.2.1, ((p2.2.2.1 20 (by decide)).trans h20), Tall.tis ht rfl p1.1 p2.2.2 (by decide) (by decide) (by decide) (t_beats h4 ht.2.1 e1 e2).2⟩, hpl, h1, h2, h3, p1.2.2.1, h5, h6, h7, h8, h9, h10, h11, h12, h13, (IK.eq p1.1 hik), hi0, hi1⟩⟩
theorem okp_4 : ok_4 JI := by
  intro S pl im0 im1 a1 a2 hJ
  obtain ⟨⟨h14, h20, ht⟩, hpl, h1, h2, h3, h4, h5, h6, h7, h8, h9, h10, h11, h12, h13, hik, hi0, hi1⟩ := hJ
  obtain ⟨y2, e2, p2⟩ := s_X9_placed (S 14) a1 a2 h14 ⟨by rw [h20]; decide, by rw [h20]; decide⟩
  obtain ⟨y1, e1, p1⟩ := s_X8_placed (S 0) (S 3) (S 4) (S 5) (S 6) pl a1 a2 (rfl : IvX8 (gR (S 0) 7) (S 0)) h3 h4 h5 h6 hpl
  exact ⟨y2, e2, y1, e1, ⟨⟨p2.2.1, ((p2.2.2.1 20 (by decide)).trans h20), Tall.eq ht rfl rfl rfl rfl rfl (rfl : gR (S 0) 7 = gR (S 0) 7) p2.2.2 (by decide) (by decide) (by decide) (by decide) (by decide) (by decide) (by decide)⟩, hpl, h1, h2, p1.2.1, h4, h5, p1.2.2.2.1, h7, h8, h9, h10, h11, h12, h13, hik, hi0, hi1⟩⟩
theorem okp_5 : ok_5 JI := by
  intro S pl im0 im1 a1 a2 hJ
  obtain ⟨⟨h14, h20, ht⟩, hpl, h1, h2, h3, h4, h5, h6, h7, h8, h9, h10, h11, h12, h13, hik, hi0, hi1⟩ := hJ
  obtain ⟨y2, e2, p2⟩ := s_X9_terms (S 14) a1 a2 h14 
  obtain ⟨y1, e1, p1⟩ := s_X8_terms (S 0) (S 4) (S 5) (S 11) a1 a2 (rfl : IvX8 (gR (S 0) 7) (S 0)) h4 h5 h11
  exact ⟨y2, e2, y1, e1, ⟨⟨p2.1, ((p2.2.1 20 (by decide)).trans h20), Tall.eq ht rfl (p1.2.2.2.1.1 7 (by decide)) (p1.2.2.2.1.1 8 (by decide)) (p1.2.2.2.1.2.1 1 (by decide)) (p1.2.2.2.1.2.1 3 (by decide)) p1.1 p2.2 (by decide) (by decide) (by decide) (by decide) (by decide) (by decide) (by decide)⟩, hpl, h1, h2, h3, p1.2.2.1, p1.2.2.2.2.1, h6, h7, h8, h9, h10, p1.2.2.2.2.2.2.1, h12, h13, (IK.eq p1.1 hik), hi0, hi1⟩⟩
theorem okp_6 : ok_6 JI := by
  intro S pl im0 im1 a1 a2 a3 a4 a5 hJ
  obtain ⟨⟨h14, h20, ht⟩, hpl, h1, h2, h3, h4, h5, h6, h7, h8, h9, h10, h11, h12, h13, hik, hi0, hi1⟩ := hJ
  obtain ⟨y2, e2, p2⟩ := s_X9_feed (S 14) a1 a2 a3 a4 a5 h14 
  obtain ⟨y1, e1, p1⟩ := s_X8_feed (S 0) (S 1) a1 a2 a3 a4 a5 (rfl : IvX8 (gR (S 0) 7) (S 0)) h1
  exact ⟨y2, e2, y1, e1, ⟨⟨p2.2.1, ((p2.2.2.1 20 (by decide)).trans h20), Tall.sz ht (feed_ts ht.1 h1.1 e1 e2).2 rfl rfl rfl rfl (rfl : gR (S 0) 7 = gR (S 0) 7) p2.2.2 (by decide) (by decide) (by decide) (by decide) (by decide) (by decide)⟩, hpl, p1.2.1, h2, h3, h4, h5, h6, h7, h8, h9, h10, h11, h12, h13, hik, hi0, hi1⟩⟩
theorem okp_7 : ok_7 JI := by
  intro S pl im0 im1 a1 hJ
  obtain ⟨⟨h14, h20, ht⟩, hpl, h1, h2, h3, h4, h5, h6, h7, h8, h9, h10, h11, h12, h13, hik, hi0, hi1⟩ := hJ
  obtain ⟨y2, e2, p2⟩ := s_X9_end (S 14) a1 h14 
  obtain ⟨y1, e1, p1⟩ := s_X8_end (S 0) (S 1) a1 (rfl : IvX8 (gR (S 0) 7) (S 0)) h1
  exact ⟨y2, e2, y1, e1, ⟨⟨p2.2.1, ((p2.2.2.1 20 (by decide)).trans h20), Tall.sz ht (end_ts ht.1 e1 e2).2 rfl rfl rfl rfl (rfl : gR (S 0) 7 = gR (S 0) 7) p2.2.2 (by decide) (by decide) (by decide) (by decide) (by decide) (by decide)⟩, hpl, p1.2.1, h2, h3, h4, h5, h6, h7, h8, h9, h10, h11, h12, h13, hik, hi0, hi1⟩⟩
theorem okp_8 : ok_8 JI := by
  intro S pl im0 im1  hJ
  obtain ⟨⟨h14, h20, ht⟩, hpl, h1, h2, h3, h4, h5, h6, h7, h8, h9, h10, h11, h12, h13, hik, hi0, hi1⟩ := hJ
  obtain ⟨y2, e2, p2⟩ := s_X9_row (S 14)  h14 
  obtain ⟨y1, e1, p1⟩ := s_X8_row (S 0) (S 1) (S 4)  (rfl : IvX8 (gR (S 0) 7) (S 0)) h1 h4
  exact ⟨y2, e2, y1, e1, ⟨⟨p2.1, ((p2.2.1 20 (by decide)).trans h20), Tall.sz ht ((row8_2 e1).trans (row9_13 e2).symm) (p1.2.2.2.2.2.1 7 (by decide)) (p1.2.2.2.2.2.1 8 (by decide)) (p1.2.2.2.2.2.2.1 1 (by decide)) (p1.2.2.2.2.2.2.1 3 (by decide)) p1.1 p2.2 (by decide) (by decide) (by decide) (by decide) (by decide) (by decide)⟩, hpl, p1.2.2.1, h2, h3, p1.2.2.2.2.1, h5, h6, h7, h8, h9, h10, h11, h12, h13, (IK.eq p1.1 hik), hi0, hi1⟩⟩
theorem okp_9 : ok_9 JI := by
  intro S pl im0 im1  hJ
  obtain ⟨⟨h14, h20, ht⟩, hpl, h1, h2, h3, h4, h5, h6, h7, h8, h9, h10, h11, h12, h13, hik, hi0, hi1⟩ := hJ
  obtain ⟨y2, e2, p2⟩ := s_X9_blots (S 14)  h14 
  obtain ⟨y1, e1, p1⟩ := s_X8_blots (S 0)  (rfl : IvX8 (gR (S 0) 7) (S 0))
  exact ⟨y2, e2, y1, e1, ⟨⟨p2.1, ((p2.2.1 20 (by decide)).trans h20), Tall.eq ht rfl rfl rfl rfl rfl (rfl : gR (S 0) 7 = gR (S 0) 7) p2.2 (by decide) (by decide) (by decide) (by decide) (by decide) (by decide) (by decide)⟩, hpl, h1, h2, h3, h4, h5, h6, h7, h8, h9, h10, h11, h12, h13, hik, hi0, hi1⟩⟩
theorem okp_10 : ok_10 JI := by
  intro S pl im0 im1 hJ
  obtain ⟨⟨h14, h20, ht⟩, hpl, h1, h2, h3, h4, h5, h6, h7, h8, h9, h10, h11, h12, h13, hik, hi0, hi1⟩ := hJ
  obtain ⟨y2, e2, p2⟩ := s_X9_law (S 14)  h14 ⟨by rw [h20]; decide, by rw [h20]; decide⟩
  refine ⟨y2, e2, ?_⟩
  by_cases c1 : (gI (S 4) 9) < (6 : Int32)
  · obtain ⟨z1, ez1, -, g1, -, g2, -⟩ := s_X6_readText (S 1) (S 2) 1 h1 h2 ⟨by decide, by decide⟩
    have hI1 : IvX6 (sI z1.2.1 2 0) := ipX6_2 g1 ⟨by decide, by decide⟩
    by_cases c2 : z1.1 = 0
    · obtain ⟨z3, ez3, g3, -⟩ := s_X8_refuse (S 0) (-6) (rfl : IvX8 (gR (S 0) 7) (S 0))
      refine Or.inl ⟨(z3.1, z3.2, sI z1.2.1 2 0, z1.2.2), ?_, ⟨⟨p2.1, p2.2.2, Tall.sz ht ((rfl : gI (sI (z1.2.1) 2 0) 2 = 0).trans (law9_13 e2).symm) rfl rfl rfl rfl g3 p2.2.1 (by decide) (by decide) (by decide) (by decide) (by decide) (by decide)⟩, hpl, hI1, g2, h3, h4, h5, h6, h7, h8, h9, h10, h11, h12, h13, IK.eq g3 hik, hi0, hi1⟩⟩
      unfold f_X8_law_R
      rw [if_pos c1, ez1]
      show (if z1.1 = (0 : Int32) then ((f_X8_refuse (S 0) (-6 : Int32)).bind fun z3 => some (z3.1, z3.2, sI z1.2.1 2 0, z1.2.2)) else none) = _
      rw [if_pos c2, ez3]; rfl
    · obtain ⟨oc, eoc, hoc⟩ := h_kept z1.2.2 g2
      refine Or.inr ⟨(S 0, sI z1.2.1 2 0, z1.2.2, S 4), ?_, oc, eoc, fun a q k _ => ?_, fun x hx => ?_⟩
      · unfold f_X8_law_a
        rw [if_pos c1, ez1]
        show (if z1.1 = (0 : Int32) then none else some (S 0, sI z1.2.1 2 0, z1.2.2, S 4)) = _
        rw [if_neg c2]
      · obtain ⟨y, ey, -⟩ := h_lawb pl (a, q, k, (gI z1.2.2 7).toNatClampNeg, (gI z1.2.2 8).toNatClampNeg, oc) hpl hoc (S 0) (S 4) h4
        exact ⟨y, ey⟩
      · obtain ⟨y, ey, q1, q2⟩ := h_lawb pl (x.1, x.2.1, x.2.2.1, (gI z1.2.2 7).toNatClampNeg, (gI z1.2.2 8).toNatClampNeg, oc) hpl hoc (S 0) (S 4) h4
        have exy : y = x.2.2.2 := Option.some.inj (ey.symm.trans hx.2)
        rw [exy] at q1 q2
        exact ⟨⟨p2.1, p2.2.2, Tall.sz ht ((rfl : gI (sI (z1.2.1) 2 0) 2 = 0).trans (law9_13 e2).symm) (by rw [← exy]; exact (lawb_i ey).1) (by rw [← exy]; exact (lawb_i ey).2.1) (by rw [← exy]; exact (lawb_i ey).2.2.1) (by rw [← exy]; exact (lawb_i ey).2.2.2) q1 p2.2.1 (by decide) (by decide) (by decide) (by decide) (by decide) (by decide)⟩, hpl.app hoc, hI1, g2, h3, q2, h5, h6, h7, h8.app, h9, h10, h11, h12, h13, IK.eq q1 hik, fun r hr => ⟨(hi0 r hr).1.app, (hi0 r hr).2⟩, fun r hr => ⟨(hi1 r hr).1.app, (hi1 r hr).2⟩⟩
  · obtain ⟨z5, ez5, g5, -⟩ := s_X8_refuse (S 0) (-5) (rfl : IvX8 (gR (S 0) 7) (S 0))
    have hI1 : IvX6 (sI (S 1) 2 0) := ipX6_2 h1 ⟨by decide, by decide⟩
    refine Or.inl ⟨(z5.1, z5.2, sI (S 1) 2 0, S 2), ?_, ⟨⟨p2.1, p2.2.2, Tall.sz ht ((rfl : gI (sI (S 1) 2 0) 2 = 0).trans (law9_13 e2).symm) rfl rfl rfl rfl g5 p2.2.1 (by decide) (by decide) (by decide) (by decide) (by decide) (by decide)⟩, hpl, hI1, h2, h3, h4, h5, h6, h7, h8, h9, h10, h11, h12, h13, IK.eq g5 hik, hi0, hi1⟩⟩
    unfold f_X8_law_R
    rw [if_neg c1]
    show ((f_X8_refuse (S 0) (-5 : Int32)).bind fun z5 => some (z5.1, z5.2, sI (S 1) 2 0, S 2)) = _
    rw [ez5]; rfl
theorem okp_11 : ok_11 JI := by
  intro S pl im0 im1  hJ
  obtain ⟨⟨h14, h20, ht⟩, hpl, h1, h2, h3, h4, h5, h6, h7, h8, h9, h10, h11, h12, h13, hik, hi0, hi1⟩ := hJ
  obtain ⟨y2, e2, p2⟩ := s_X9_orders (S 14)  h14 ⟨by rw [h20]; decide, by rw [h20]; decide⟩
  obtain ⟨y1, e1, p1⟩ := s_X8_orders (S 0) (S 1) (S 2) (S 3) (S 4) (S 5) (S 6) (S 11) (S 12) (S 13) pl  (rfl : IvX8 (gR (S 0) 7) (S 0)) h1 h2 h3 h4 h5 h6 h11 h12 h13 hpl
  exact ⟨y2, e2, y1, e1, ⟨⟨p2.1, p2.2.2.1, Tall.sz ht ((orders8_2 e1).trans (p2.2.2.2).symm) rfl rfl rfl rfl p1.1 p2.2.1 (by decide) (by decide) (by decide) (by decide) (by decide) (by decide)⟩, hpl, p1.2.2.1, p1.2.2.2.2.1, p1.2.2.2.2.2.2.1, h4, p1.2.2.2.2.2.2.2.2.1, p1.2.2.2.2.2.2.2.2.2.2.1, h7, h8, h9, h10, p1.2.2.2.2.2.2.2.2.2.2.2.2.1, p1.2.2.2.2.2.2.2.2.2.2.2.2.2.2.1, p1.2.2.2.2.2.2.2.2.2.2.2.2.2.2.2.2.1, (IK.eq p1.1 hik), hi0, hi1⟩⟩
theorem okp_12 : ok_12 JI := by
  intro S pl im0 im1  hJ
  obtain ⟨⟨h14, h20, ht⟩, hpl, h1, h2, h3, h4, h5, h6, h7, h8, h9, h10, h11, h12, h13, hik, hi0, hi1⟩ := hJ
  obtain ⟨y2, e2, p2⟩ := s_X9_fault (S 14)  h14 
  obtain ⟨y1, e1, p1⟩ := s_X8_fault (S 0) (S 1)  (rfl : IvX8 (gR (S 0) 7) (S 0)) h1
  exact ⟨y2, e2, y1, e1, ⟨⟨p2.1, ((p2.2.1 20 (by decide)).trans h20), Tall.eq ht rfl rfl rfl rfl rfl (rfl : gR (S 0) 7 = gR (S 0) 7) p2.2 (by decide) (by decide) (by decide) (by decide) (by decide) (by decide) (by decide)⟩, hpl, h1, h2, h3, h4, h5, h6, h7, h8, h9, h10, h11, h12, h13, hik, hi0, hi1⟩⟩
theorem okp_13 : ok_13 JI := by
  intro S pl im0 im1  hJ
  obtain ⟨⟨h14, h20, ht⟩, hpl, h1, h2, h3, h4, h5, h6, h7, h8, h9, h10, h11, h12, h13, hik, hi0, hi1⟩ := hJ
  obtain ⟨y2, e2, p2⟩ := s_X9_stopped (S 14)  h14 
  obtain ⟨y1, e1, p1⟩ := s_X8_stopped (S 0)  (rfl : IvX8 (gR (S 0) 7) (S 0))
  exact ⟨y2, e2, y1, e1, ⟨⟨p2.1, ((p2.2.1 20 (by decide)).trans h20), Tall.eq ht rfl rfl rfl rfl rfl (rfl : gR (S 0) 7 = gR (S 0) 7) p2.2 (by decide) (by decide) (by decide) (by decide) (by decide) (by decide) (by decide)⟩, hpl, h1, h2, h3, h4, h5, h6, h7, h8, h9, h10, h11, h12, h13, hik, hi0, hi1⟩⟩
theorem okp_14 : ok_14 JI := by
  intro S pl im0 im1 a1 hJ
  obtain ⟨⟨h14, h20, ht⟩, hpl, h1, h2, h3, h4, h5, h6, h7, h8, h9, h10, h11, h12, h13, hik, hi0, hi1⟩ := hJ
  obtain ⟨y2, e2, p2⟩ := s_X9_force (S 14) a1 h14 
  obtain ⟨y1, e1, p1⟩ := s_X8_force (S 0) (S 4) a1 (rfl : IvX8 (gR (S 0) 7) (S 0)) h4
  exact ⟨y2, e2, y1, e1, ⟨⟨p2.2.1, ((p2.2.2.1 20 (by decide)).trans h20), Tall.eq ht rfl (p1.2.2.2.1 7 (by decide)) (p1.2.2.2.1 8 (by decide)) (p1.2.2.2.2.1 1 (by decide)) (p1.2.2.2.2.1 3 (by decide)) p1.1 p2.2.2 (by decide) (by decide) (by decide) (by decide) (by decide) (by decide) (by decide)⟩, hpl, h1, h2, h3, p1.2.2.1, h5, h6, h7, h8, h9, h10, h11, h12, h13, (IK.eq p1.1 hik), hi0, hi1⟩⟩
theorem okp_15 : ok_15 JI := by
  intro S pl im0 im1 a1 hJ
  obtain ⟨⟨h14, h20, ht⟩, hpl, h1, h2, h3, h4, h5, h6, h7, h8, h9, h10, h11, h12, h13, hik, hi0, hi1⟩ := hJ
  obtain ⟨y2, e2, p2⟩ := s_X9_race (S 14) a1 h14 ⟨by rw [h20]; decide, by rw [h20]; decide⟩
  obtain ⟨y1, e1, p1⟩ := s_X8_race (S 0) (S 3) (S 4) (S 5) (S 6) (S 11) pl a1 (rfl : IvX8 (gR (S 0) 7) (S 0)) h3 h4 h5 h6 h11 hpl
  exact ⟨y2, e2, y1, e1, ⟨⟨p2.2.1, ((p2.2.2.1 20 (by decide)).trans h20), Tall.eq ht rfl rfl rfl rfl rfl p1.1 p2.2.2 (by decide) (by decide) (by decide) (by decide) (by decide) (by decide) (by decide)⟩, hpl, h1, h2, p1.2.2.1, h4, p1.2.2.2.2.1, p1.2.2.2.2.2.2.1, h7, h8, h9, h10, p1.2.2.2.2.2.2.2.2.1, h12, h13, (IK.eq p1.1 hik), hi0, hi1⟩⟩
theorem okp_16 : ok_16 JI := by
  intro S pl im0 im1 a1 hJ
  obtain ⟨⟨h14, h20, ht⟩, hpl, h1, h2, h3, h4, h5, h6, h7, h8, h9, h10, h11, h12, h13, hik, hi0, hi1⟩ := hJ
  obtain ⟨y2, e2, p2⟩ := s_X9_enter (S 14) a1 h14 ⟨by rw [h20]; decide, by rw [h20]; decide⟩
  obtain ⟨y1, e1, p1⟩ := s_X8_enter (S 0) (S 3) (S 4) (S 5) (S 6) (S 11) pl a1 (rfl : IvX8 (gR (S 0) 7) (S 0)) h3 h4 h5 h6 h11 hpl
  exact ⟨y2, e2, y1, e1, ⟨⟨p2.2.1, ((p2.2.2.1 20 (by decide)).trans h20), Tall.eq ht rfl rfl rfl rfl rfl p1.1 p2.2.2 (by decide) (by decide) (by decide) (by decide) (by decide) (by decide) (by decide)⟩, hpl, h1, h2, p1.2.2.1, h4, p1.2.2.2.2.1, p1.2.2.2.2.2.2.1, h7, h8, h9, h10, p1.2.2.2.2.2.2.2.2.1, h12, h13, (IK.eq p1.1 hik), hi0, hi1⟩⟩
theorem okp_17 : ok_17 JI := by
  intro S pl im0 im1 a1 hJ
  obtain ⟨⟨h14, h20, ht⟩, hpl, h1, h2, h3, h4, h5, h6, h7, h8, h9, h10, h11, h12, h13, hik, hi0, hi1⟩ := hJ
  obtain ⟨y2, e2, p2⟩ := s_X9_take (S 14) a1 h14 
  obtain ⟨y1, e1, p1⟩ := s_X8_take (S 0) (S 3) (S 4) (S 5) (S 6) (S 11) pl a1 (rfl : IvX8 (gR (S 0) 7) (S 0)) h3 h4 h5 h6 h11 hpl
  exact ⟨y2, e2, y1, e1, ⟨⟨p2.2.1, ((p2.2.2.1 20 (by decide)).trans h20), Tall.eq ht rfl rfl rfl rfl rfl p1.1 p2.2.2 (by decide) (by decide) (by decide) (by decide) (by decide) (by decide) (by decide)⟩, hpl, h1, h2, p1.2.2.1, h4, p1.2.2.2.2.1, p1.2.2.2.2.2.2.1, h7, h8, h9, h10, p1.2.2.2.2.2.2.2.2.1, h12, h13, (IK.eq p1.1 hik), hi0, hi1⟩⟩
theorem okp_18 : ok_18 JI := by
  intro S pl im0 im1  hJ
  obtain ⟨⟨h14, h20, ht⟩, hpl, h1, h2, h3, h4, h5, h6, h7, h8, h9, h10, h11, h12, h13, hik, hi0, hi1⟩ := hJ
  obtain ⟨y2, e2, p2⟩ := s_X9_pass (S 14)  h14 ⟨by rw [h20]; decide, by rw [h20]; decide⟩
  obtain ⟨y1, e1, p1⟩ := s_X8_pass (S 0) (S 3) (S 4) (S 5) (S 6) (S 11) pl  (rfl : IvX8 (gR (S 0) 7) (S 0)) h3 h4 h5 h6 h11 hpl
  exact ⟨y2, e2, y1, e1, ⟨⟨p2.2.1, ((p2.2.2.1 20 (by decide)).trans h20), Tall.eq ht rfl rfl rfl rfl rfl p1.1 p2.2.2 (by decide) (by decide) (by decide) (by decide) (by decide) (by decide) (by decide)⟩, hpl, h1, h2, p1.2.2.1, h4, p1.2.2.2.2.1, p1.2.2.2.2.2.2.1, h7, h8, h9, h10, p1.2.2.2.2.2.2.2.2.1, h12, h13, (IK.eq p1.1 hik), hi0, hi1⟩⟩
theorem okp_19 : ok_19 JI := by
  intro S pl im0 im1  hJ
  obtain ⟨⟨h14, h20, ht⟩, hpl, h1, h2, h3, h4, h5, h6, h7, h8, h9, h10, h11, h12, h13, hik, hi0, hi1⟩ := hJ
  obtain ⟨y2, e2, p2⟩ := s_X9_undo (S 14)  h14 
  obtain ⟨y1, e1, p1⟩ := s_X8_undo (S 0) (S 4) (S 5) (S 11)  (rfl : IvX8 (gR (S 0) 7) (S 0)) h4 h5 h11
  exact ⟨y2, e2, y1, e1, ⟨⟨p2.2.1, ((p2.2.2.1 20 (by decide)).trans h20), Tall.eq ht rfl rfl rfl rfl rfl p1.1 p2.2.2 (by decide) (by decide) (by decide) (by decide) (by decide) (by decide) (by decide)⟩, hpl, h1, h2, h3, h4, p1.2.2.1, h6, h7, h8, h9, h10, p1.2.2.2.2.1, h12, h13, (IK.eq p1.1 hik), hi0, hi1⟩⟩
theorem okp_20 : ok_20 JI := by
  intro S pl im0 im1 a1 a2 a3 a4 hJ
  obtain ⟨⟨h14, h20, ht⟩, hpl, h1, h2, h3, h4, h5, h6, h7, h8, h9, h10, h11, h12, h13, hik, hi0, hi1⟩ := hJ
  obtain ⟨y2, e2, p2⟩ := s_X9_be (S 14) a1 a2 a3 a4 h14 ⟨by rw [h20]; decide, by rw [h20]; decide⟩
  obtain ⟨y1, e1, p1⟩ := s_X8_be (S 0) (S 3) (S 4) (S 5) (S 6) (S 7) pl a1 a2 a3 a4 (rfl : IvX8 (gR (S 0) 7) (S 0)) h3 h4 h5 h6 h7 hpl
  exact ⟨y2, e2, y1, e1, ⟨⟨p2.1, ((p2.2.1 20 (by decide)).trans h20), Tall.eq ht rfl rfl rfl rfl rfl (rfl : gR (S 0) 7 = gR (S 0) 7) p2.2 (by decide) (by decide) (by decide) (by decide) (by decide) (by decide) (by decide)⟩, hpl, h1, h2, p1.1, h4, h5, h6, p1.2.2.1, h8, h9, h10, h11, h12, h13, hik, hi0, hi1⟩⟩
theorem okp_21 : ok_21 JI := by
  intro S pl im0 im1 a1 a2 hJ
  obtain ⟨⟨h14, h20, ht⟩, hpl, h1, h2, h3, h4, h5, h6, h7, h8, h9, h10, h11, h12, h13, hik, hi0, hi1⟩ := hJ
  obtain ⟨y2, e2, p2⟩ := s_X9_seen (S 14) a1 a2 h14 
  obtain ⟨y1, e1, p1⟩ := s_X8_seen (S 0) (S 4) a1 a2 (rfl : IvX8 (gR (S 0) 7) (S 0)) h4
  exact ⟨y2, e2, y1, e1, ⟨⟨p2.2.1, ((p2.2.2.1 20 (by decide)).trans h20), Tall.tis ht rfl p1.1 p2.2.2 (by decide) (by decide) (by decide) (t_seen h4 ht.2.1 e1 e2).2⟩, hpl, h1, h2, h3, p1.2.2.1, h5, h6, h7, h8, h9, h10, h11, h12, h13, (IK.eq p1.1 hik), hi0, hi1⟩⟩
theorem okp_22 : ok_22 JI := by
  intro S pl im0 im1  hJ
  obtain ⟨⟨h14, h20, ht⟩, hpl, h1, h2, h3, h4, h5, h6, h7, h8, h9, h10, h11, h12, h13, hik, hi0, hi1⟩ := hJ
  obtain ⟨y2, e2, p2⟩ := s_X9_forget (S 14)  h14 
  obtain ⟨y1, e1, p1⟩ := s_X8_forget (S 0) (S 4)  (rfl : IvX8 (gR (S 0) 7) (S 0)) h4
  exact ⟨y2, e2, y1, e1, ⟨⟨p2.2.1, ((p2.2.2.1 20 (by decide)).trans h20), Tall.tis ht rfl (rfl : gR (S 0) 7 = gR (S 0) 7) p2.2.2 (by decide) (by decide) (by decide) (t_forget ht.2.1 e1 e2).2⟩, hpl, h1, h2, h3, p1.2.1, h5, h6, h7, h8, h9, h10, h11, h12, h13, hik, hi0, hi1⟩⟩
theorem okp_23 : ok_23 JI := by
  intro S pl im0 im1  hJ
  obtain ⟨⟨h14, h20, ht⟩, hpl, h1, h2, h3, h4, h5, h6, h7, h8, h9, h10, h11, h12, h13, hik, hi0, hi1⟩ := hJ
  obtain ⟨y2, e2, p2⟩ := s_X9_canBe (S 14)  h14 ⟨by rw [h20]; decide, by rw [h20]; decide⟩
  obtain ⟨y1, e1, p1⟩ := s_X8_canBe (S 0) (S 3) (S 4) (S 5) (S 6) (S 7) pl  (rfl : IvX8 (gR (S 0) 7) (S 0)) h3 h4 h5 h6 h7 hpl
  exact ⟨y2, e2, y1, e1, ⟨⟨p2.2.1, ((p2.2.2.1 20 (by decide)).trans h20), Tall.eq ht rfl rfl rfl rfl rfl (rfl : gR (S 0) 7 = gR (S 0) 7) p2.2.2 (by decide) (by decide) (by decide) (by decide) (by decide) (by decide) (by decide)⟩, hpl, h1, h2, p1.2.1, h4, h5, h6, h7, h8, h9, h10, h11, h12, h13, hik, hi0, hi1⟩⟩
theorem okp_24 : ok_24 JI := by
  intro S pl im0 im1 a1 hJ
  obtain ⟨⟨h14, h20, ht⟩, hpl, h1, h2, h3, h4, h5, h6, h7, h8, h9, h10, h11, h12, h13, hik, hi0, hi1⟩ := hJ
  obtain ⟨y2, e2, p2⟩ := s_X9_look (S 14) a1 h14 ⟨by rw [h20]; decide, by rw [h20]; decide⟩
  obtain ⟨y1, e1, p1⟩ := s_X8_look (S 0) (S 3) (S 4) (S 5) (S 6) (S 7) pl a1 (rfl : IvX8 (gR (S 0) 7) (S 0)) h3 h4 h5 h6 h7 hpl
  exact ⟨y2, e2, y1, e1, ⟨⟨p2.2.1, ((p2.2.2.1 20 (by decide)).trans h20), Tall.eq ht rfl rfl rfl rfl rfl (rfl : gR (S 0) 7 = gR (S 0) 7) p2.2.2 (by decide) (by decide) (by decide) (by decide) (by decide) (by decide) (by decide)⟩, hpl, h1, h2, p1.1, h4, h5, h6, p1.2.2.1, h8, h9, h10, h11, h12, h13, hik, hi0, hi1⟩⟩
theorem okp_25 : ok_25 JI := by
  intro S pl im0 im1 a1 hJ
  obtain ⟨⟨h14, h20, ht⟩, hpl, h1, h2, h3, h4, h5, h6, h7, h8, h9, h10, h11, h12, h13, hik, hi0, hi1⟩ := hJ
  obtain ⟨y2, e2, p2⟩ := s_X9_ranking (S 14) a1 h14 
  obtain ⟨y1, e1, p1⟩ := s_X8_ranking (S 0) (S 4) (S 7) a1 (rfl : IvX8 (gR (S 0) 7) (S 0)) h4 h7
  exact ⟨y2, e2, y1, e1, rank_eq h4 h14 ht.2.1 e1 e2, ⟨⟨p2.1, ((p2.2.1 20 (by decide)).trans h20), Tall.eq ht rfl rfl rfl rfl rfl (rfl : gR (S 0) 7 = gR (S 0) 7) p2.2 (by decide) (by decide) (by decide) (by decide) (by decide) (by decide) (by decide)⟩, hpl, h1, h2, h3, h4, h5, h6, p1.1, h8, h9, h10, h11, h12, h13, hik, hi0, hi1⟩⟩
theorem okp_26 : ok_26 JI := by
  intro S pl im0 im1  hJ
  obtain ⟨⟨h14, h20, ht⟩, hpl, h1, h2, h3, h4, h5, h6, h7, h8, h9, h10, h11, h12, h13, hik, hi0, hi1⟩ := hJ
  obtain ⟨y2, e2, p2⟩ := s_X9_circles (S 14)  h14 
  obtain ⟨y1, e1, p1⟩ := s_X8_circles (S 0) (S 4) (S 7)  (rfl : IvX8 (gR (S 0) 7) (S 0)) h4 h7
  exact ⟨y2, e2, y1, e1, ⟨⟨p2.1, ((p2.2.1 20 (by decide)).trans h20), Tall.eq ht rfl rfl rfl rfl rfl (rfl : gR (S 0) 7 = gR (S 0) 7) p2.2 (by decide) (by decide) (by decide) (by decide) (by decide) (by decide) (by decide)⟩, hpl, h1, h2, h3, h4, h5, h6, h7, h8, h9, h10, h11, h12, h13, hik, hi0, hi1⟩⟩
theorem okp_27 : ok_27 JI := by
  intro S pl im0 im1 a1 hJ
  obtain ⟨⟨h14, h20, ht⟩, hpl, h1, h2, h3, h4, h5, h6, h7, h8, h9, h10, h11, h12, h13, hik, hi0, hi1⟩ := hJ
  obtain ⟨y2, e2, p2⟩ := s_X9_crowned (S 14) a1 h14 ⟨by rw [h20]; decide, by rw [h20]; decide⟩
  obtain ⟨y1, e1, p1⟩ := s_X8_crowned (S 0) (S 3) (S 4) (S 5) (S 6) (S 7) pl a1 (rfl : IvX8 (gR (S 0) 7) (S 0)) h3 h4 h5 h6 h7 hpl
  exact ⟨y2, e2, y1, e1, ⟨⟨p2.1, ((p2.2.1 20 (by decide)).trans h20), Tall.eq ht rfl rfl rfl rfl rfl (rfl : gR (S 0) 7 = gR (S 0) 7) p2.2 (by decide) (by decide) (by decide) (by decide) (by decide) (by decide) (by decide)⟩, hpl, h1, h2, p1.1, h4, h5, h6, p1.2.2.1, h8, h9, h10, h11, h12, h13, hik, hi0, hi1⟩⟩
theorem okp_28 : ok_28 JI := by
  intro S pl im0 im1 a1 hJ
  obtain ⟨⟨h14, h20, ht⟩, hpl, h1, h2, h3, h4, h5, h6, h7, h8, h9, h10, h11, h12, h13, hik, hi0, hi1⟩ := hJ
  obtain ⟨y2, e2, p2⟩ := s_X9_heir (S 14) a1 h14 
  obtain ⟨y1, e1, p1⟩ := s_X8_heir (S 0) (S 4) (S 7) a1 (rfl : IvX8 (gR (S 0) 7) (S 0)) h4 h7
  exact ⟨y2, e2, y1, e1, ⟨⟨p2.2.1, ((p2.2.2.1 20 (by decide)).trans h20), Tall.eq ht rfl rfl rfl rfl rfl (rfl : gR (S 0) 7 = gR (S 0) 7) p2.2.2 (by decide) (by decide) (by decide) (by decide) (by decide) (by decide) (by decide)⟩, hpl, h1, h2, h3, h4, h5, h6, p1.2.1, h8, h9, h10, h11, h12, h13, hik, hi0, hi1⟩⟩
theorem okp_29 : ok_29 JI := by
  intro S pl im0 im1 a1 a2 hJ
  obtain ⟨⟨h14, h20, ht⟩, hpl, h1, h2, h3, h4, h5, h6, h7, h8, h9, h10, h11, h12, h13, hik, hi0, hi1⟩ := hJ
  obtain ⟨y2, e2, p2⟩ := s_X9_ladder (S 14) a1 a2 h14 
  obtain ⟨y1, e1, p1⟩ := s_X8_ladder (S 0) (S 7) a1 a2 (rfl : IvX8 (gR (S 0) 7) (S 0)) h7
  exact ⟨y2, e2, y1, e1, ⟨⟨p2.1, ((p2.2.1 20 (by decide)).trans h20), Tall.eq ht rfl rfl rfl rfl rfl (rfl : gR (S 0) 7 = gR (S 0) 7) p2.2 (by decide) (by decide) (by decide) (by decide) (by decide) (by decide) (by decide)⟩, hpl, h1, h2, h3, h4, h5, h6, p1.1, h8, h9, h10, h11, h12, h13, hik, hi0, hi1⟩⟩
theorem okp_30 : ok_30 JI := by
  intro S pl im0 im1  hJ
  obtain ⟨⟨h14, h20, ht⟩, hpl, h1, h2, h3, h4, h5, h6, h7, h8, h9, h10, h11, h12, h13, hik, hi0, hi1⟩ := hJ
  obtain ⟨y2, e2, p2⟩ := s_X9_never (S 14)  h14 ⟨by rw [h20]; decide, by rw [h20]; decide⟩
  obtain ⟨y1, e1, p1⟩ := s_X8_never (S 0) (S 3) (S 4) (S 5) (S 6) (S 7) pl  (rfl : IvX8 (gR (S 0) 7) (S 0)) h3 h4 h5 h6 h7 hpl
  exact ⟨y2, e2, y1, e1, ⟨⟨p2.1, ((p2.2.1 20 (by decide)).trans h20), Tall.eq ht rfl rfl rfl rfl rfl (rfl : gR (S 0) 7 = gR (S 0) 7) p2.2 (by decide) (by decide) (by decide) (by decide) (by decide) (by decide) (by decide)⟩, hpl, h1, h2, p1.1, h4, h5, h6, p1.2.2.1, h8, h9, h10, h11, h12, h13, hik, hi0, hi1⟩⟩
theorem okp_31 : ok_31 JI := by
  intro S pl im0 im1 a1 a2 hJ
  obtain ⟨⟨h14, h20, ht⟩, hpl, h1, h2, h3, h4, h5, h6, h7, h8, h9, h10, h11, h12, h13, hik, hi0, hi1⟩ := hJ
  obtain ⟨y2, e2, p2⟩ := s_X9_few (S 14) a1 a2 h14 
  obtain ⟨y1, e1, p1⟩ := s_X8_few (S 0) (S 4) (S 7) a1 a2 (rfl : IvX8 (gR (S 0) 7) (S 0)) h4 h7
  exact ⟨y2, e2, y1, e1, ⟨⟨p2.1, ((p2.2.1 20 (by decide)).trans h20), Tall.eq ht rfl rfl rfl rfl rfl (rfl : gR (S 0) 7 = gR (S 0) 7) p2.2 (by decide) (by decide) (by decide) (by decide) (by decide) (by decide) (by decide)⟩, hpl, h1, h2, h3, h4, h5, h6, p1.1, h8, h9, h10, h11, h12, h13, hik, hi0, hi1⟩⟩
theorem okp_32 : ok_32 JI := by
  intro S pl im0 im1 a1 a2 hJ
  obtain ⟨⟨h14, h20, ht⟩, hpl, h1, h2, h3, h4, h5, h6, h7, h8, h9, h10, h11, h12, h13, hik, hi0, hi1⟩ := hJ
  obtain ⟨y2, e2, p2⟩ := s_X9_compare (S 14) a1 a2 h14 ⟨by rw [h20]; decide, by rw [h20]; decide⟩
  obtain ⟨y1, e1, p1⟩ := s_X8_compare (S 0) (S 3) (S 4) (S 5) (S 6) pl a1 a2 (rfl : IvX8 (gR (S 0) 7) (S 0)) h3 h4 h5 h6 hpl
  exact ⟨y2, e2, y1, e1, ⟨⟨p2.2.1, ((p2.2.2.1 20 (by decide)).trans h20), Tall.eq ht rfl rfl rfl rfl rfl (rfl : gR (S 0) 7 = gR (S 0) 7) p2.2.2 (by decide) (by decide) (by decide) (by decide) (by decide) (by decide) (by decide)⟩, hpl, h1, h2, p1.2.1, h4, h5, p1.2.2.2.1, h7, h8, h9, h10, h11, h12, h13, hik, hi0, hi1⟩⟩
theorem okp_33 : ok_33 JI := by
  intro S pl im0 im1 a1 a2 hJ
  obtain ⟨⟨h14, h20, ht⟩, hpl, h1, h2, h3, h4, h5, h6, h7, h8, h9, h10, h11, h12, h13, hik, hi0, hi1⟩ := hJ
  obtain ⟨y2, e2, p2⟩ := s_X9_centuries (S 14) a1 a2 h14 ⟨by rw [h20]; decide, by rw [h20]; decide⟩
  obtain ⟨y1, e1, p1⟩ := s_X8_centuries (S 0) (S 3) (S 4) (S 5) (S 8) (S 9) (S 10) pl a1 a2 (rfl : IvX8 (gR (S 0) 7) (S 0)) h3 h4 h5 h8 h9 h10 hpl
  exact ⟨y2, e2, y1, e1, ⟨⟨p2.2.1, ((p2.2.2.1 20 (by decide)).trans h20), Tall.eq ht rfl rfl rfl rfl rfl p1.1 p2.2.2 (by decide) (by decide) (by decide) (by decide) (by decide) (by decide) (by decide)⟩, hpl, h1, h2, p1.2.2.1, h4, h5, h6, h7, p1.2.2.2.2.1, p1.2.2.2.2.2.2.1, p1.2.2.2.2.2.2.2.2.1, h11, h12, h13, (IK.eq p1.1 hik), hi0, hi1⟩⟩
theorem okp_34 : ok_34 JI := by
  intro S pl im0 im1 a1 a2 hJ
  obtain ⟨⟨h14, h20, ht⟩, hpl, h1, h2, h3, h4, h5, h6, h7, h8, h9, h10, h11, h12, h13, hik, hi0, hi1⟩ := hJ
  obtain ⟨y2, e2, p2⟩ := s_X9_drawn (S 14) a1 a2 h14 
  obtain ⟨y1, e1, p1⟩ := s_X8_drawn (S 0) (S 8) (S 9) a1 a2 (rfl : IvX8 (gR (S 0) 7) (S 0)) h8 h9
  exact ⟨y2, e2, y1, e1, ⟨⟨p2.1, ((p2.2.1 20 (by decide)).trans h20), Tall.eq ht rfl rfl rfl rfl rfl (rfl : gR (S 0) 7 = gR (S 0) 7) p2.2 (by decide) (by decide) (by decide) (by decide) (by decide) (by decide) (by decide)⟩, hpl, h1, h2, h3, h4, h5, h6, h7, h8, h9, h10, h11, h12, h13, hik, hi0, hi1⟩⟩
theorem okp_35 : ok_35 JI := by
  intro S pl im0 im1 a1 hJ
  obtain ⟨⟨h14, h20, ht⟩, hpl, h1, h2, h3, h4, h5, h6, h7, h8, h9, h10, h11, h12, h13, hik, hi0, hi1⟩ := hJ
  obtain ⟨y2, e2, p2⟩ := s_X9_image (S 14) a1 h14 
  refine ⟨y2, e2, ?_⟩
  have hsz : gI y2.2 13 = gI (S 14) 13 := p2.2.1 13 (by decide)
  obtain ⟨z1, ez1, g1, -⟩ := s_X8_refuse (S 0) (-1) (rfl : IvX8 (gR (S 0) 7) (S 0))
  have href : ∀ q : Int32 × Ob, bk_X8_image_R_9 (S 0) = some (z1.1, z1.2) := by
    intro _
    unfold bk_X8_image_R_9
    rw [ez1]; rfl
  have tno : ¬ (0 ≤ a1.toInt ∧ a1.toInt ≤ 1) → Tall z1.2 (S 1) (S 4) y2.2 im0 im1 := fun q => by
    obtain ⟨q3, q4, q5⟩ := image9n e2 q
    exact ⟨ht.1.trans hsz.symm, by rw [q3]; exact ht.2.1, ht.2.2.eq g1 q5 q4⟩
  by_cases c1 : a1 < (0 : Int32)
  · refine Or.inl ⟨(z1.1, z1.2), ?_, ⟨⟨p2.1, ((p2.2.1 20 (by decide)).trans h20), tno (by have c1 := cv_lt (a := a1.toInt) (b := 0) rfl (by decide) c1; omega)⟩, hpl, h1, h2, h3, h4, h5, h6, h7, h8, h9, h10, h11, h12, h13, IK.eq g1 hik, hi0, hi1⟩⟩
    unfold f_X8_image_R
    rw [if_pos c1]; exact href z1
  by_cases c2 : a1 < (2 : Int32)
  rotate_left
  · refine Or.inl ⟨(z1.1, z1.2), ?_, ⟨⟨p2.1, ((p2.2.1 20 (by decide)).trans h20), tno (by have c2 := cv_nlt (a := a1.toInt) (b := 2) rfl (by decide) c2; omega)⟩, hpl, h1, h2, h3, h4, h5, h6, h7, h8, h9, h10, h11, h12, h13, IK.eq g1 hik, hi0, hi1⟩⟩
    unfold f_X8_image_R
    rw [if_neg c1, if_neg c2]; exact href z1
  have d1 := cv_nlt (a := a1.toInt) (b := 0) rfl (by decide) c1
  have d2 := cv_lt (a := a1.toInt) (b := 2) rfl (by decide) c2
  have hz : zin a1 2 = true := zin_of (m := 2) rfl (by omega) (by omega)
  obtain ⟨k, ek⟩ : ∃ k : Nat, a1.toInt = (k : Int) := ⟨a1.toInt.toNat, by omega⟩
  have hk : k < 2 := by omega
  have ik : a1.toNatClampNeg = k := tnc_eq ek
  obtain ⟨q4, q4', q3, q5⟩ := image9 e2 ek hk
  have tis' : Tis (S 4) (gA y2.2 3) := by rw [q3]; exact ht.2.1
  have hset : ∀ {oi on : Ob} {z : Ob × Ob}, f_X2_set_O oi on pl (S 4) (S 5) = some z → Tis z.1 (fun j => gA y2.2 4 (5484 * k + j)) := fun h => Tis.cp h ht.2.1 (fun j hj => q4 j (by omega))
  have himO : ∀ oi on : Ob, IvX2 pl oi → IvX4 on → ∃ y1 : Int32 × Ob × Ob × Ob, f_X8_image_O (S 0) (S 4) (S 5) pl oi on a1 = some y1 ∧ IvX8 (gR (S 0) 7) y1.2.1 ∧ IvX2 pl y1.2.2.1 ∧ IvX4 y1.2.2.2 ∧ Tis y1.2.2.1 (fun j => gA y2.2 4 (5484 * k + j)) := by
    intro oi on hoi hon
    obtain ⟨z4, e4, q1, -, q2, -⟩ := s_X2_set_O oi on pl (S 4) (S 5) hoi hon hpl h4 h5
    obtain ⟨z5, e5, q3, -⟩ := s_X8_grant (S 0) 0 (rfl : IvX8 (gR (S 0) 7) (S 0))
    refine ⟨(z5.1, z5.2, z4.1, z4.2), ?_, q3, q1, q2, hset e4⟩
    unfold f_X8_image_O
    rw [if_neg c1, if_pos c2, hz, e4]
    show ((f_X8_grant (S 0) 0).bind fun z5 => some (z5.1, z5.2, z4.1, z4.2)) = _
    rw [e5]; rfl
  have hima : f_X8_image_a (S 0) a1 = some () := by
    unfold f_X8_image_a
    rw [if_neg c1, if_pos c2, hz]; rfl
  have himb : ∀ a : Nat, ∃ y, f_X8_image_b (S 4) (S 5) pl (tR (S 0) 7 a1.toNatClampNeg (some a)) ob2 ob0 = some y ∧ IvX8 (gR (tR (S 0) 7 a1.toNatClampNeg (some a)) 7) y.2.1 ∧ IvX2 pl y.2.2.1 ∧ IvX4 y.2.2.2 := fun a => h_imgb pl hpl (S 4) (S 5) _ ob2 ob0 h4 h5 (iv2_0 pl) iv4_0
  have hnew : ∀ {o0' : Ob} {a : Nat}, IvX8 (gR (tR (S 0) 7 a1.toNatClampNeg (some a)) 7) o0' → ∀ j, gR o0' 7 j = if j = k then some a else gR (S 0) 7 j := fun w j => by
    have w := congrFun w j
    rw [ik] at w
    exact w
  have hold : ∀ {o0' : Ob} {a : Nat}, IvX8 (gR (S 0) 7) o0' → gR (S 0) 7 k = some a → ∀ j, gR o0' 7 j = if j = k then some a else gR (S 0) 7 j := fun w q j => by
    have w := congrFun w j
    by_cases c : j = k
    · rw [if_pos c, w, c, q]
    · rw [if_neg c]; exact w
  have h2n : ∀ {o0' : Ob} {a : Nat}, (∀ j, gR o0' 7 j = if j = k then some a else gR (S 0) 7 j) → ∀ j, 2 ≤ j → gR o0' 7 j = none := fun w j hj => by
    rw [w j, if_neg (by omega)]; exact hik.1 j hj
  obtain ⟨s, hs, ta, tb⟩ := ht.2.2
  rcases (show k = s ∨ s = 1 - k by omega) with es | es
  · rw [← es] at ta tb
    rcases opt_c im0 with e0 | ⟨r, e0⟩
    · subst e0
      have q : gR (S 0) 7 a1.toNatClampNeg = none := by rw [ik]; exact (ta.1 rfl).1
      refine Or.inr (Or.inr (Or.inr (Or.inl ⟨rfl, q, hz, hima, fun a => ?_, fun x hx => ?_⟩)))
      · obtain ⟨y, ey, -⟩ := himb a; exact ⟨y, ey⟩
      · obtain ⟨y, ey, w1, w2, w3⟩ := himb x.1
        obtain ⟨z, ez, ezy⟩ := image_bset ey
        have exy : y = x.2.2.2.2.2.2 := Option.some.inj (ey.symm.trans hx)
        have w4 : Tis y.2.2.1 (fun j => gA y2.2 4 (5484 * k + j)) := by rw [ezy]; exact hset ez
        rw [exy] at w1 w2 w3 w4
        have tm : Tim x.2.2.2.2.2.2.2.1 y2.2 (some (x.1, x.2.1, x.2.2.1, x.2.2.2.1, x.2.2.2.2.1, x.2.2.2.2.2.1, x.2.2.2.2.2.2.2.2.1, x.2.2.2.2.2.2.2.2.2)) im1 := Tim.put0 hk ta tb (hnew w1) q5 q4' w4
        refine ⟨⟨p2.1, ((p2.2.1 20 (by decide)).trans h20), ⟨ht.1.trans hsz.symm, tis', tm⟩⟩, hpl, h1, h2, h3, h4, h5, h6, h7, h8, h9, h10, h11, h12, h13, IK.of tm (h2n (hnew w1)), fun r hr => ?_, hi1⟩
        rw [← Option.some.inj hr]; exact ⟨w2, w3⟩
    · have q : gR (S 0) 7 a1.toNatClampNeg = some r.1 := by rw [ik]; exact (ta.2 r e0).1
      obtain ⟨y1, ey1, w1, w2, w3, w4⟩ := himO _ _ (hi0 r e0).1 (hi0 r e0).2
      subst e0
      have tm : Tim y1.2.1 y2.2 (some (r.1, r.2.1, r.2.2.1, r.2.2.2.1, r.2.2.2.2.1, r.2.2.2.2.2.1, y1.2.2.1, y1.2.2.2)) im1 := Tim.put0 hk ta tb (hold w1 (by rw [← ik]; exact q)) q5 q4' w4
      refine Or.inr (Or.inl ⟨r, rfl, q, y1, ey1, ⟨⟨p2.1, ((p2.2.1 20 (by decide)).trans h20), ⟨ht.1.trans hsz.symm, tis', tm⟩⟩, hpl, h1, h2, h3, h4, h5, h6, h7, h8, h9, h10, h11, h12, h13, IK.eq w1 (hik.rep0 rfl), fun r' hr => ?_, hi1⟩⟩)
      rw [← Option.some.inj hr]; exact ⟨w2, w3⟩
  · have es' : 1 - s = k := by omega
    rw [es'] at tb
    rw [es] at ta
    rcases opt_c im1 with e0 | ⟨r, e0⟩
    · subst e0
      have q : gR (S 0) 7 a1.toNatClampNeg = none := by rw [ik]; exact (tb.1 rfl).1
      refine Or.inr (Or.inr (Or.inr (Or.inr ⟨rfl, q, hz, hima, fun a => ?_, fun x hx => ?_⟩)))
      · obtain ⟨y, ey, -⟩ := himb a; exact ⟨y, ey⟩
      · obtain ⟨y, ey, w1, w2, w3⟩ := himb x.1
        obtain ⟨z, ez, ezy⟩ := image_bset ey
        have exy : y = x.2.2.2.2.2.2 := Option.some.inj (ey.symm.trans hx)
        have w4 : Tis y.2.2.1 (fun j => gA y2.2 4 (5484 * k + j)) := by rw [ezy]; exact hset ez
        rw [exy] at w1 w2 w3 w4
        have tm : Tim x.2.2.2.2.2.2.2.1 y2.2 im0 (some (x.1, x.2.1, x.2.2.1, x.2.2.2.1, x.2.2.2.2.1, x.2.2.2.2.2.1, x.2.2.2.2.2.2.2.2.1, x.2.2.2.2.2.2.2.2.2)) := Tim.put1 hk ta tb (hnew w1) q5 q4' w4
        refine ⟨⟨p2.1, ((p2.2.1 20 (by decide)).trans h20), ⟨ht.1.trans hsz.symm, tis', tm⟩⟩, hpl, h1, h2, h3, h4, h5, h6, h7, h8, h9, h10, h11, h12, h13, IK.of tm (h2n (hnew w1)), hi0, fun r hr => ?_⟩
        rw [← Option.some.inj hr]; exact ⟨w2, w3⟩
    · have q : gR (S 0) 7 a1.toNatClampNeg = some r.1 := by rw [ik]; exact (tb.2 r e0).1
      obtain ⟨y1, ey1, w1, w2, w3, w4⟩ := himO _ _ (hi1 r e0).1 (hi1 r e0).2
      subst e0
      have tm : Tim y1.2.1 y2.2 im0 (some (r.1, r.2.1, r.2.2.1, r.2.2.2.1, r.2.2.2.2.1, r.2.2.2.2.2.1, y1.2.2.1, y1.2.2.2)) := Tim.put1 hk ta tb (hold w1 (by rw [← ik]; exact q)) q5 q4' w4
      refine Or.inr (Or.inr (Or.inl ⟨r, rfl, q, y1, ey1, ⟨⟨p2.1, ((p2.2.1 20 (by decide)).trans h20), ⟨ht.1.trans hsz.symm, tis', tm⟩⟩, hpl, h1, h2, h3, h4, h5, h6, h7, h8, h9, h10, h11, h12, h13, IK.eq w1 (hik.rep1 rfl), hi0, fun r' hr => ?_⟩⟩))
      rw [← Option.some.inj hr]; exact ⟨w2, w3⟩
theorem okp_36 : ok_36 JI := by
  intro S pl im0 im1 a1 hJ
  obtain ⟨⟨h14, h20, ht⟩, hpl, h1, h2, h3, h4, h5, h6, h7, h8, h9, h10, h11, h12, h13, hik, hi0, hi1⟩ := hJ
  obtain ⟨y2, e2, p2⟩ := s_X9_back (S 14) a1 h14 
  refine ⟨y2, e2, ?_⟩
  have hsz : gI y2.2 13 = gI (S 14) 13 := p2.2.1 13 (by decide)
  obtain ⟨z1, ez1, g1, -⟩ := s_X8_refuse (S 0) (-1) (rfl : IvX8 (gR (S 0) 7) (S 0))
  have hn9 : bk_X8_back_N_9 (S 0) = some (z1.1, z1.2) := by
    unfold bk_X8_back_N_9
    rw [ez1]; rfl
  have hN : ∃ y1 : Int32 × Ob, f_X8_back_N (S 0) a1 = some y1 ∧ IvX8 (gR (S 0) 7) y1.2 := by
    unfold f_X8_back_N
    by_cases c1 : a1 < (0 : Int32)
    · rw [if_pos c1]; exact ⟨_, hn9, g1⟩
    · rw [if_neg c1]
      by_cases c2 : a1 < (2 : Int32)
      · have d1 := cv_nlt (a := a1.toInt) (b := 0) rfl (by decide) c1
        have d2 := cv_lt (a := a1.toInt) (b := 2) rfl (by decide) c2
        have hz : zin a1 2 = true := zin_of (m := 2) rfl (by omega) (by omega)
        obtain ⟨z3, ez3, g3, -⟩ := s_X8_refuse (S 0) (-2) (rfl : IvX8 (gR (S 0) 7) (S 0))
        rw [if_pos c2, hz, ez3]
        exact ⟨(z3.1, z3.2), rfl, g3⟩
      · rw [if_neg c2]; exact ⟨_, hn9, g1⟩
  have hO : ∀ oi on : Ob, IvX2 pl oi → IvX4 on → ∃ y1 : Int32 × Ob × Ob × Ob × Ob, f_X8_back_O (S 0) (S 4) (S 5) (S 11) pl oi on a1 = some y1 ∧ IvX8 (gR (S 0) 7) y1.2.1 ∧ IvX2 pl y1.2.2.1 ∧ IvX4 y1.2.2.2.1 ∧ IvX5 y1.2.2.2.2 := by
    intro oi on hoi hon
    have h9' : bk_X8_back_O_9 pl oi on (S 0) (S 4) (S 5) (S 11) = some (z1.1, z1.2, S 4, S 5, S 11) := by
      unfold bk_X8_back_O_9
      rw [ez1]; rfl
    unfold f_X8_back_O
    by_cases c1 : a1 < (0 : Int32)
    · rw [if_pos c1]; exact ⟨_, h9', g1, h4, h5, h11⟩
    · rw [if_neg c1]
      by_cases c2 : a1 < (2 : Int32)
      · have d1 := cv_nlt (a := a1.toInt) (b := 0) rfl (by decide) c1
        have d2 := cv_lt (a := a1.toInt) (b := 2) rfl (by decide) c2
        have hz : zin a1 2 = true := zin_of (m := 2) rfl (by omega) (by omega)
        obtain ⟨z4, e4, q1, -, q2, -⟩ := s_X2_set_O (S 4) (S 5) pl oi on h4 h5 hpl hoi hon
        obtain ⟨z5, e5, q3, -⟩ := s_X5_clear (S 11) h11
        obtain ⟨z6, e6, q4, -⟩ := s_X8_grant (S 0) 0 (rfl : IvX8 (gR (S 0) 7) (S 0))
        refine ⟨(z6.1, z6.2, z4.1, z4.2, z5), ?_, q4, q1, q2, q3⟩
        rw [if_pos c2, hz, e4]
        show ((f_X5_clear (S 11)).bind fun z5 => (f_X8_grant (S 0) 0).bind fun z6 => some (z6.1, z6.2, z4.1, z4.2, z5)) = _
        rw [e5]
        show ((f_X8_grant (S 0) 0).bind fun z6 => some (z6.1, z6.2, z4.1, z4.2, z5)) = _
        rw [e6]; rfl
      · rw [if_neg c2]; exact ⟨_, h9', g1, h4, h5, h11⟩
  have hcase : gR (S 0) 7 a1.toNatClampNeg = none ∨ (∃ r : IR, im0 = some r ∧ gR (S 0) 7 a1.toNatClampNeg = some r.1 ∧ ¬ gA (S 14) 5 a1.toNatClampNeg = 0 ∧ Tis r.2.2.2.2.2.2.1 (fun j => gA (S 14) 4 (5484 * a1.toNatClampNeg + j))) ∨ (∃ r : IR, im1 = some r ∧ gR (S 0) 7 a1.toNatClampNeg = some r.1 ∧ ¬ gA (S 14) 5 a1.toNatClampNeg = 0 ∧ Tis r.2.2.2.2.2.2.1 (fun j => gA (S 14) 4 (5484 * a1.toNatClampNeg + j))) := by
    rcases (show a1.toNatClampNeg < 2 ∨ 2 ≤ a1.toNatClampNeg by omega) with h | h
    · obtain ⟨s, hs, ta, tb⟩ := ht.2.2
      rcases (show a1.toNatClampNeg = s ∨ a1.toNatClampNeg = 1 - s by omega) with e | e
      · rw [e]
        rcases opt_c im0 with e0 | ⟨r, e0⟩
        · exact Or.inl (ta.1 e0).1
        · exact Or.inr (Or.inl ⟨r, e0, ta.2 r e0⟩)
      · rw [e]
        rcases opt_c im1 with e0 | ⟨r, e0⟩
        · exact Or.inl (tb.1 e0).1
        · exact Or.inr (Or.inr ⟨r, e0, tb.2 r e0⟩)
    · exact Or.inl (hik.1 _ h)
  rcases hcase with q | ⟨r, er, q, r5, rt⟩ | ⟨r, er, q, r5, rt⟩
  · obtain ⟨y1, ey1, w1⟩ := hN
    have tt := t_backN ht ey1 e2 q w1 hsz
    exact Or.inl ⟨q, y1, ey1, ⟨⟨p2.1, ((p2.2.1 20 (by decide)).trans h20), tt.2⟩, hpl, h1, h2, h3, h4, h5, h6, h7, h8, h9, h10, h11, h12, h13, IK.eq w1 hik, hi0, hi1⟩⟩
  · obtain ⟨y1, ey1, w1, w2, w3, w4⟩ := hO _ _ (hi0 r er).1 (hi0 r er).2
    have tt := t_backO ht ey1 e2 r5 rt w1 hsz
    subst er
    exact Or.inr (Or.inl ⟨r, rfl, q, y1, ey1, ⟨⟨p2.1, ((p2.2.1 20 (by decide)).trans h20), tt.2⟩, hpl, h1, h2, h3, w2, w3, h6, h7, h8, h9, h10, w4, h12, h13, IK.eq w1 hik, hi0, hi1⟩⟩)
  · obtain ⟨y1, ey1, w1, w2, w3, w4⟩ := hO _ _ (hi1 r er).1 (hi1 r er).2
    have tt := t_backO ht ey1 e2 r5 rt w1 hsz
    subst er
    exact Or.inr (Or.inr ⟨r, rfl, q, y1, ey1, ⟨⟨p2.1, ((p2.2.1 20 (by decide)).trans h20), tt.2⟩, hpl, h1, h2, h3, w2, w3, h6, h7, h8, h9, h10, w4, h12, h13, IK.eq w1 hik, hi0, hi1⟩⟩)
theorem okp_37 : ok_37 JI := by
  intro S pl im0 im1 a1 hJ
  obtain ⟨⟨h14, h20, ht⟩, hpl, h1, h2, h3, h4, h5, h6, h7, h8, h9, h10, h11, h12, h13, hik, hi0, hi1⟩ := hJ
  obtain ⟨y2, e2, p2⟩ := s_X9_count (S 14) a1 h14 
  obtain ⟨y1, e1, p1⟩ := s_X8_count (S 0) (S 1) (S 4) (S 5) (S 11) a1 (rfl : IvX8 (gR (S 0) 7) (S 0)) h1 h4 h5 h11
  exact ⟨y2, e2, y1, e1, ⟨⟨p2.1, ((p2.2.1 20 (by decide)).trans h20), Tall.eq ht rfl rfl rfl rfl rfl (rfl : gR (S 0) 7 = gR (S 0) 7) p2.2 (by decide) (by decide) (by decide) (by decide) (by decide) (by decide) (by decide)⟩, hpl, h1, h2, h3, h4, h5, h6, h7, h8, h9, h10, h11, h12, h13, hik, hi0, hi1⟩⟩
theorem okp_38 : ok_38 JI := by
  intro S pl im0 im1  hJ
  obtain ⟨⟨h14, h20, ht⟩, hpl, h1, h2, h3, h4, h5, h6, h7, h8, h9, h10, h11, h12, h13, hik, hi0, hi1⟩ := hJ
  obtain ⟨y2, e2, p2⟩ := s_X9_status (S 14)  h14 
  obtain ⟨y1, e1, p1⟩ := s_X8_status (S 0)  (rfl : IvX8 (gR (S 0) 7) (S 0))
  exact ⟨y2, e2, y1, e1, ⟨⟨p2.1, ((p2.2.1 20 (by decide)).trans h20), Tall.eq ht rfl rfl rfl rfl rfl (rfl : gR (S 0) 7 = gR (S 0) 7) p2.2 (by decide) (by decide) (by decide) (by decide) (by decide) (by decide) (by decide)⟩, hpl, h1, h2, h3, h4, h5, h6, h7, h8, h9, h10, h11, h12, h13, hik, hi0, hi1⟩⟩
theorem okp_all : okS JI := ⟨okp_0, okp_1, okp_2, okp_3, okp_4, okp_5, okp_6, okp_7, okp_8, okp_9, okp_10, okp_11, okp_12, okp_13, okp_14, okp_15, okp_16, okp_17, okp_18, okp_19, okp_20, okp_21, okp_22, okp_23, okp_24, okp_25, okp_26, okp_27, okp_28, okp_29, okp_30, okp_31, okp_32, okp_33, okp_34, okp_35, okp_36, okp_37, okp_38⟩
def row0 : Nat → Int32 := upd (upd (fun _ => 0) (3 : Int32).toNatClampNeg (-1)) (5 : Int32).toNatClampNeg 1
theorem row0_z {j : Nat} (h3 : j ≠ 3) (h5 : j ≠ 5) : row0 j = 0 := by
  have n3 : (3 : Int32).toNatClampNeg = 3 := by decide
  have n5 : (5 : Int32).toNatClampNeg = 5 := by decide
  unfold row0
  rw [n3, n5, upd_n h5, upd_n h3]
theorem sg_row0 : sgd rowS row0 := by
  refine ⟨fun j h1 h2 => ?_, fun j h1 h2 => ?_, fun j h1 h2 => ?_, fun j h1 h2 => ?_, fun j h1 h2 => ?_, fun j h1 h2 => ?_, fun j h1 h2 => ?_, fun j h1 h2 => ?_, fun j h1 h2 => ?_, trivial⟩
  · rw [row0_z (by omega) (by omega)]; decide
  · rw [row0_z (by omega) (by omega)]; decide
  · rw [row0_z (by omega) (by omega)]; decide
  · have e : j = 3 := by omega
    subst e; exact (by decide : -1 ≤ (row0 3).toInt ∧ (row0 3).toInt ≤ 5)
  · rw [row0_z (by omega) (by omega)]; decide
  · rw [row0_z (by omega) (by omega)]; decide
  · rw [row0_z (by omega) (by omega)]; decide
  · rw [row0_z (by omega) (by omega)]; decide
  · rw [row0_z (by omega) (by omega)]; decide
theorem pw_0 (j : Nat) : PW rowS j 0 := by
  have h : ∀ s ∈ rowS, s.2.2.1 ≤ (0 : Int32).toInt ∧ (0 : Int32).toInt ≤ s.2.2.2 := by decide
  exact fun s hs _ _ => h s hs
theorem wl_0 {g : Nat → Int32} {s : Nat} (h : g (s + 1) = 0) : WL g s := by
  refine ⟨by rw [h]; decide, fun c hc => ?_⟩
  rw [h] at hc
  have z : (0 : Int32).toInt = 0 := by decide
  omega
theorem ex_0 : EX9 row0 (fun _ => 0) (fun _ => 0) (fun _ => 0) := ⟨fun l hl => wl_0 (row0_z (by omega) (by omega)), fun k hk => ⟨fun l hl => wl_0 rfl, fun j hj => pw_0 j⟩, fun k i hk hi => pw_0 _, fun k i hk hi => pw_0 _⟩
theorem iv9_0 : IvX9 (S0 14) := ⟨⟨by decide, by decide⟩, ⟨by decide, by decide⟩, ⟨by decide, by decide⟩, ⟨by decide, by decide⟩, ⟨by decide, by decide⟩, ⟨by decide, by decide⟩, ⟨by decide, by decide⟩, ⟨by decide, by decide⟩, ⟨by decide, by decide⟩, ⟨by decide, by decide⟩, ⟨by decide, by decide⟩, ⟨by decide, by decide⟩, ⟨by decide, by decide⟩, ⟨by decide, by decide⟩, ⟨by decide, by decide⟩, sg_row0, ⟨fun _ _ _ => (show 0 ≤ (0 : Int32).toInt ∧ (0 : Int32).toInt ≤ 3 by decide), trivial⟩, ⟨fun _ _ _ => (show 0 ≤ (0 : Int32).toInt ∧ (0 : Int32).toInt ≤ 3 by decide), trivial⟩, ⟨fun _ _ _ => (show 0 ≤ (0 : Int32).toInt ∧ (0 : Int32).toInt ≤ 6 by decide), trivial⟩, ⟨fun _ _ _ => (show (-1) ≤ (0 : Int32).toInt ∧ (0 : Int32).toInt ≤ 8 by decide), trivial⟩, ⟨fun _ _ _ => (show 0 ≤ (0 : Int32).toInt ∧ (0 : Int32).toInt ≤ 6 by decide), trivial⟩, ⟨fun _ _ _ => (show 0 ≤ (0 : Int32).toInt ∧ (0 : Int32).toInt ≤ 6 by decide), trivial⟩, ⟨ex_0, by decide, by decide⟩⟩
theorem ivX6_0 : IvX6 (S0 1) := ⟨⟨by decide, by decide⟩, ⟨by decide, by decide⟩, ⟨by decide, by decide⟩, ⟨by decide, by decide⟩, ⟨by decide, by decide⟩, ⟨by decide, by decide⟩, trivial⟩
theorem ivX1_0 : IvX1 (S0 6) := ⟨⟨by decide, by decide⟩, ⟨fun _ _ _ => (show 0 ≤ (0 : Int32).toInt ∧ (0 : Int32).toInt ≤ 6 by decide), trivial⟩, trivial⟩
theorem ivX7_0 : IvX7 (S0 7) := ⟨⟨fun _ _ _ => (show 0 ≤ (0 : Int32).toInt ∧ (0 : Int32).toInt ≤ 7 by decide), trivial⟩, ⟨fun _ _ _ => (show 0 ≤ (0 : Int32).toInt ∧ (0 : Int32).toInt ≤ 6 by decide), trivial⟩, trivial⟩
theorem ivX0_0 : IvX0 12 400 (S0 2) := ⟨⟨by decide, by decide, by decide⟩, ⟨by decide, by decide, by decide⟩, fun _ _ _ => (show 0 ≤ (0 : Int32).toInt ∧ (0 : Int32).toInt ≤ 20 by decide), trivial⟩
theorem ivX5_0 : IvX5 (S0 11) := ⟨⟨by decide, by decide⟩, ⟨by decide, by decide⟩, fun _ _ _ _ => (show 0 ≤ (0 : Int32).toInt ∧ (0 : Int32).toInt ≤ 9 by decide)⟩
theorem ji_0 : JI S0 [] none none := ⟨⟨iv9_0, by decide, (⟨rfl, ⟨(row0_z (j := 0) (by decide) (by decide)).symm, (row0_z (j := 1) (by decide) (by decide)).symm, fun j _ => (row0_z (j := 29 + j) (by omega) (by omega)).symm, fun j _ => (row0_z (j := 64 + j) (by omega) (by omega)).symm, fun _ _ _ => rfl⟩, 0, by decide, ⟨fun _ => ⟨rfl, rfl⟩, fun r q => by cases q⟩, ⟨fun _ => ⟨rfl, rfl⟩, fun r q => by cases q⟩⟩ : Tall (S0 0) (S0 1) (S0 4) (S0 14) none none)⟩, fun c hc => absurd hc List.not_mem_nil, ivX6_0, ivX0_0, trivial, iv2_0 [], iv4_0, ivX1_0, ivX7_0, iv2_0 [], iv4_0, ivX1_0, ivX5_0, ivX5_0, iv4_0, ⟨fun _ _ => rfl, fun _ _ => Or.inl rfl, fun _ => ⟨rfl, rfl⟩, fun _ => Or.inl rfl⟩, (fun r hr => by cases hr), (fun r hr => by cases hr)⟩
