-- what the small calls answer
theorem in_iff (x a b : Int64) (z : Int32) (h : f_X9_in x a b = some z) : (z = 0 ∧ ¬ (a.toInt ≤ x.toInt ∧ x.toInt ≤ b.toInt)) ∨ (¬ z = 0 ∧ a.toInt ≤ x.toInt ∧ x.toInt ≤ b.toInt) := by
  unfold f_X9_in at h
  by_cases c1 : (lg_cmp x a) < (0 : Int32)
  · have h := z_t h c1
    have c1 := cvl_lt (a := x.toInt) (b := a.toInt) rfl rfl c1
    exact Or.inl ⟨(Option.some.inj h).symm, by omega⟩
  · have h := z_f h c1
    have c1 := cvl_nlt (a := x.toInt) (b := a.toInt) rfl rfl c1
    by_cases c2 : (0 : Int32) < (lg_cmp x b)
    · have h := z_t h c2
      have c2 := cvl_gt (a := x.toInt) (b := b.toInt) rfl rfl c2
      exact Or.inl ⟨(Option.some.inj h).symm, by omega⟩
    · have h := z_f h c2
      have c2 := cvl_ngt (a := x.toInt) (b := b.toInt) rfl rfl c2
      exact Or.inr ⟨by rw [← Option.some.inj h]; decide, c1, c2⟩
theorem tell_ret {o : Ob} {p : Int32} {y : Int32 × Ob} (h : f_X9_tell o p = some y) : y.1 = p := by
  have hb : ∀ s, bk_X9_tell_10 p s o = some y → y.1 = p := by
    intro s h
    unfold bk_X9_tell_10 at h
    obtain ⟨o1, -, h⟩ := z_lt h
    by_cases c : (0 : Int32) ≤ p
    · have h := z_t h c
      rw [← Option.some.inj h]
    · have h := z_f h c
      obtain ⟨x2, -, h⟩ := z_lt h
      obtain ⟨-, h⟩ := z_gd h
      obtain ⟨-, h⟩ := z_gd h
      obtain ⟨o5, -, h⟩ := z_lt h
      rw [← Option.some.inj h]
  unfold f_X9_tell at h
  by_cases c : (0 : Int32) ≤ p
  · exact hb _ (z_t h c)
  · exact hb _ (z_f h c)
theorem settled_ret {o : Ob} {p : Int32} {y : Int32 × Ob} (h : f_X9_settled o p = some y) : y.1 = p := by
  have hb : ∀ s, bk_X9_settled_13 p s o = some y → y.1 = p := by
    intro s h
    unfold bk_X9_settled_13 at h
    obtain ⟨o1, -, h⟩ := z_lt h
    obtain ⟨z2, ez, h⟩ := z_bd h
    rw [← Option.some.inj h]
    exact tell_ret ez
  unfold f_X9_settled at h
  by_cases c : (0 : Int32) ≤ p
  · exact hb _ (z_t h c)
  · exact hb _ (z_f h c)
theorem refuse_ret {o : Ob} {p : Int32} {y : Int32 × Ob} (h : f_X8_refuse o p = some y) : y.1 = p := by
  unfold f_X8_refuse at h
  obtain ⟨o1, -, h⟩ := z_lt h
  by_cases c : (0 : Int32) ≤ p
  · rw [← Option.some.inj (z_t h c)]
  · have h := z_f h c
    by_cases c : p < (-6 : Int32)
    · rw [← Option.some.inj (z_t h c)]
    · have h := z_f h c
      obtain ⟨x2, -, h⟩ := z_lt h
      obtain ⟨-, h⟩ := z_gd h
      obtain ⟨-, h⟩ := z_gd h
      obtain ⟨o5, -, h⟩ := z_lt h
      rw [← Option.some.inj h]
theorem grant_ret {o : Ob} {p : Int32} {y : Int32 × Ob} (h : f_X8_grant o p = some y) : y.1 = p := by
  unfold f_X8_grant at h
  obtain ⟨o1, -, h⟩ := z_lt h
  rw [← Option.some.inj h]
theorem l9_image {y : Int32 × Ob} : ∀ (N : Nat) (v1 v2 : Int32) (o : Ob), lp_X9_image_23 N (v1, v2, o) = some y → y.1 = 0 := by
  intro N
  induction N with
  | zero => intro v1 v2 o h; cases h
  | succ N ih =>
    intro v1 v2 o h
    have h : lb_X9_image_23 (lp_X9_image_23 N) v1 v2 o = some y := h
    unfold lb_X9_image_23 at h
    by_cases c : (5484 : Int32) ≤ v2
    · obtain ⟨-, h⟩ := z_gd (z_t h c)
      obtain ⟨o4, -, h⟩ := z_lt h
      obtain ⟨z5, ez, h⟩ := z_bd h
      rw [← Option.some.inj h]
      exact tell_ret ez
    · obtain ⟨-, h⟩ := z_gd (z_f h c)
      obtain ⟨-, h⟩ := z_gd h
      obtain ⟨o8, -, h⟩ := z_lt h
      obtain ⟨x9, -, h⟩ := z_lt h
      exact ih _ _ _ h
theorem image_ret9 {o : Ob} {p : Int32} {y : Int32 × Ob} (h : f_X9_image o p = some y) : (0 ≤ p.toInt ∧ p.toInt ≤ 1 ∧ y.1 = 0) ∨ (¬ (0 ≤ p.toInt ∧ p.toInt ≤ 1) ∧ y.1 = -1) := by
  have e0 : (0 : Int64).toInt = 0 := by decide
  have e1 : (1 : Int64).toInt = 1 := by decide
  have ep : p.toInt64.toInt = p.toInt := Int32.toInt_toInt64 p
  unfold f_X9_image at h
  obtain ⟨o1, -, h⟩ := z_lt h
  obtain ⟨z2, ez2, h⟩ := z_bd h
  rcases in_iff _ _ _ _ ez2 with ⟨a1, a2⟩ | ⟨a1, a2, a3⟩
  · obtain ⟨z, ez, h⟩ := z_bd (z_t h a1)
    refine Or.inr ⟨by omega, ?_⟩
    rw [← Option.some.inj h]
    exact tell_ret ez
  · exact Or.inl ⟨by omega, by omega, l9_image _ _ _ _ (z_f h a1)⟩
theorem l9_back {y : Int32 × Ob} : ∀ (N : Nat) (v1 v2 : Int32) (o : Ob), lp_X9_back_39 N (v1, v2, o) = some y → y.1 = 0 := by
  intro N
  induction N with
  | zero => intro v1 v2 o h; cases h
  | succ N ih =>
    intro v1 v2 o h
    have h : lb_X9_back_39 (lp_X9_back_39 N) v1 v2 o = some y := h
    unfold lb_X9_back_39 at h
    by_cases c : (5484 : Int32) ≤ v2
    · obtain ⟨z4, ez, h⟩ := z_bd (z_t h c)
      rw [← Option.some.inj h]
      exact settled_ret ez
    · obtain ⟨-, h⟩ := z_gd (z_f h c)
      obtain ⟨-, h⟩ := z_gd h
      obtain ⟨o7, -, h⟩ := z_lt h
      obtain ⟨x8, -, h⟩ := z_lt h
      exact ih _ _ _ h
theorem back_ret9 {o : Ob} {p : Int32} {y : Int32 × Ob} (h : f_X9_back o p = some y) : (¬ (0 ≤ p.toInt ∧ p.toInt ≤ 1) ∧ y.1 = -1) ∨ (0 ≤ p.toInt ∧ p.toInt ≤ 1 ∧ ((gA o 5 p.toNatClampNeg = 0 ∧ y.1 = -2) ∨ (¬ gA o 5 p.toNatClampNeg = 0 ∧ y.1 = 0))) := by
  have e0 : (0 : Int64).toInt = 0 := by decide
  have e1 : (1 : Int64).toInt = 1 := by decide
  have ep : p.toInt64.toInt = p.toInt := Int32.toInt_toInt64 p
  unfold f_X9_back at h
  obtain ⟨o1, eo1, h⟩ := z_lt h
  obtain ⟨z2, ez2, h⟩ := z_bd h
  rcases in_iff _ _ _ _ ez2 with ⟨a1, a2⟩ | ⟨a1, a2, a3⟩
  · obtain ⟨z, ez, h⟩ := z_bd (z_t h a1)
    refine Or.inl ⟨by omega, ?_⟩
    rw [← Option.some.inj h]
    exact tell_ret ez
  · obtain ⟨-, h⟩ := z_gd (z_f h a1)
    have eg : gA o1 5 = gA o 5 := by rw [eo1]; rfl
    rw [eg] at h
    refine Or.inr ⟨by omega, by omega, ?_⟩
    by_cases c : gA o 5 p.toNatClampNeg = (0 : Int32)
    · obtain ⟨z, ez, h⟩ := z_bd (z_t h c)
      refine Or.inl ⟨c, ?_⟩
      rw [← Option.some.inj h]
      exact tell_ret ez
    · exact Or.inr ⟨c, l9_back _ _ _ _ (z_f h c)⟩
theorem image_retb {o4 o5 : Ob} {pl : List CR} {o9 oi on : Ob} {y : Int32 × Ob × Ob × Ob} (h : f_X8_image_b o4 o5 pl o9 oi on = some y) : y.1 = 0 := by
  unfold f_X8_image_b at h
  obtain ⟨z2, -, h⟩ := z_bd h
  obtain ⟨z3, ez, h⟩ := z_bd h
  rw [← Option.some.inj h]
  exact grant_ret ez
theorem image_retO {o o4 o5 : Ob} {pl : List CR} {oi on : Ob} {p : Int32} {y : Int32 × Ob × Ob × Ob} (h : f_X8_image_O o o4 o5 pl oi on p = some y) (c1 : ¬ p < (0 : Int32)) (c2 : p < (2 : Int32)) : y.1 = 0 := by
  unfold f_X8_image_O at h
  obtain ⟨-, h⟩ := z_gd (z_t (z_f h c1) c2)
  obtain ⟨-, h⟩ := z_gd h
  obtain ⟨z4, -, h⟩ := z_bd h
  obtain ⟨z5, ez, h⟩ := z_bd h
  rw [← Option.some.inj h]
  exact grant_ret ez
-- small calls: what they ask, what they write
theorem rg8 {p z b : Int32} {n : Int} (hb : b.toInt = n) (h : (if p < (0 : Int32) then some (0 : Int32) else (if b ≤ p then some (0 : Int32) else some (1 : Int32))) = some z) : (z = 0 ∧ ¬ (0 ≤ p.toInt ∧ p.toInt < n)) ∨ (¬ z = 0 ∧ 0 ≤ p.toInt ∧ p.toInt < n) := by
  by_cases c1 : p < (0 : Int32)
  · have c := cv_lt (a := p.toInt) (b := 0) rfl (by decide) c1
    exact Or.inl ⟨(Option.some.inj (z_t h c1)).symm, by omega⟩
  · have h := z_f h c1
    have c := cv_nlt (a := p.toInt) (b := 0) rfl (by decide) c1
    by_cases c2 : b ≤ p
    · have d := cv_le (a := n) (b := p.toInt) hb rfl c2
      exact Or.inl ⟨(Option.some.inj (z_t h c2)).symm, by omega⟩
    · have d := cv_nle (a := n) (b := p.toInt) hb rfl c2
      exact Or.inr ⟨by rw [← Option.some.inj (z_f h c2)]; decide, by omega, by omega⟩
theorem isP2 {o : Ob} {p z : Int32} (h : f_X2_isPerson o p = some z) : (z = 0 ∧ ¬ (0 ≤ p.toInt ∧ p.toInt < (gI o 7).toInt)) ∨ (¬ z = 0 ∧ 0 ≤ p.toInt ∧ p.toInt < (gI o 7).toInt) := rg8 (b := gI o 7) rfl h
theorem isR8 {p z : Int32} (h : f_X8_isRace p = some z) : (z = 0 ∧ ¬ (0 ≤ p.toInt ∧ p.toInt < 4)) ∨ (¬ z = 0 ∧ 0 ≤ p.toInt ∧ p.toInt < 4) := rg8 (b := 4) (by decide) h
theorem isT8 {p z : Int32} (h : f_X8_isTrade p = some z) : (z = 0 ∧ ¬ (0 ≤ p.toInt ∧ p.toInt < 10)) ∨ (¬ z = 0 ∧ 0 ≤ p.toInt ∧ p.toInt < 10) := rg8 (b := 10) (by decide) h
theorem in9 {p z : Int32} {a b : Int64} {m n : Int} (ha : a.toInt = m) (hb : b.toInt = n) (h : f_X9_in p.toInt64 a b = some z) : (z = 0 ∧ ¬ (m ≤ p.toInt ∧ p.toInt ≤ n)) ∨ (¬ z = 0 ∧ m ≤ p.toInt ∧ p.toInt ≤ n) := by
  have ep : p.toInt64.toInt = p.toInt := Int32.toInt_toInt64 p
  rcases in_iff _ _ _ _ h with ⟨c, d⟩ | ⟨c, d, e⟩
  · exact Or.inl ⟨c, by omega⟩
  · exact Or.inr ⟨c, by omega, by omega⟩
theorem isR9 {p z : Int32} (h : f_X9_isRace p = some z) : (z = 0 ∧ ¬ (0 ≤ p.toInt ∧ p.toInt < 4)) ∨ (¬ z = 0 ∧ 0 ≤ p.toInt ∧ p.toInt < 4) := by
  unfold f_X9_isRace at h
  obtain ⟨z1, ez, h⟩ := z_bd h
  obtain ⟨-, h⟩ := z_gd h
  rw [← Option.some.inj h]
  rcases in9 (m := 0) (n := 3) (by decide) (by decide) ez with ⟨c, d⟩ | ⟨c, d⟩
  · exact Or.inl ⟨c, by omega⟩
  · exact Or.inr ⟨c, by omega, by omega⟩
theorem isP9 {o : Ob} {p z : Int32} (h : f_X9_isPerson o p = some z) (hr : 0 ≤ (gA o 3 0).toInt ∧ (gA o 3 0).toInt ≤ 7) : (z = 0 ∧ ¬ (0 ≤ p.toInt ∧ p.toInt < (gA o 3 0).toInt)) ∨ (¬ z = 0 ∧ 0 ≤ p.toInt ∧ p.toInt < (gA o 3 0).toInt) := by
  unfold f_X9_isPerson at h
  obtain ⟨z1, ez, h⟩ := z_bd h
  obtain ⟨-, h⟩ := z_gd h
  rw [← Option.some.inj h]
  have n0 : (0 : Int32).toNatClampNeg = 0 := by decide
  rw [n0] at ez
  have eg : ((gA o 3 0).toInt64 - (1 : Int64)).toInt = (gA o 3 0).toInt - 1 := i64_sub (Int32.toInt_toInt64 _) (by decide) (by omega) (by omega)
  rcases in9 (m := 0) (n := (gA o 3 0).toInt - 1) (by decide) eg ez with ⟨a, b⟩ | ⟨a, b⟩
  · exact Or.inl ⟨a, by omega⟩
  · exact Or.inr ⟨a, by omega, by omega⟩
theorem t3_at {o : Ob} {j i : Nat} {v : Int32} : gA (tA o 3 j v) 3 i = if i = j then v else gA o 3 i := rfl
theorem t3_ne {o : Ob} {j v : Int32} {i : Nat} {n : Int} (hj : j.toInt = n) (h0 : 0 ≤ n) (h : (i : Int) ≠ n) : gA (tA o 3 j.toNatClampNeg v) 3 i = gA o 3 i := by
  have e : j.toNatClampNeg = j.toInt.toNat := rfl
  exact if_neg (show ¬ i = j.toNatClampNeg by rw [e]; omega)
theorem tell_3 {o : Ob} {p : Int32} {y : Int32 × Ob} (h : f_X9_tell o p = some y) : y.1 = p ∧ gA y.2 3 = gA o 3 ∧ gA y.2 4 = gA o 4 ∧ gI y.2 13 = gI o 13 ∧ gA y.2 5 = gA o 5 := by
  have hb : ∀ s, bk_X9_tell_10 p s o = some y → y.1 = p ∧ gA y.2 3 = gA o 3 ∧ gA y.2 4 = gA o 4 ∧ gI y.2 13 = gI o 13 ∧ gA y.2 5 = gA o 5 := by
    intro s h
    unfold bk_X9_tell_10 at h
    obtain ⟨o1, eo1, h⟩ := z_lt h
    by_cases c : (0 : Int32) ≤ p
    · have h := z_t h c
      rw [← Option.some.inj h, eo1]; exact ⟨rfl, rfl, rfl, rfl, rfl⟩
    · have h := z_f h c
      obtain ⟨x2, -, h⟩ := z_lt h
      obtain ⟨-, h⟩ := z_gd h
      obtain ⟨-, h⟩ := z_gd h
      obtain ⟨o5, eo5, h⟩ := z_lt h
      rw [← Option.some.inj h, eo5, eo1]; exact ⟨rfl, rfl, rfl, rfl, rfl⟩
  unfold f_X9_tell at h
  by_cases c : (0 : Int32) ≤ p
  · exact hb _ (z_t h c)
  · exact hb _ (z_f h c)
theorem settled_3 {o : Ob} {p : Int32} {y : Int32 × Ob} (h : f_X9_settled o p = some y) : y.1 = p ∧ gA y.2 3 = gA o 3 ∧ gA y.2 4 = gA o 4 ∧ gA y.2 5 = gA o 5 := by
  have hb : ∀ s, bk_X9_settled_13 p s o = some y → y.1 = p ∧ gA y.2 3 = gA o 3 ∧ gA y.2 4 = gA o 4 ∧ gA y.2 5 = gA o 5 := by
    intro s h
    unfold bk_X9_settled_13 at h
    obtain ⟨o1, eo1, h⟩ := z_lt h
    obtain ⟨z2, ez, h⟩ := z_bd h
    obtain ⟨a, b, c, -, d⟩ := tell_3 ez
    rw [← Option.some.inj h]
    refine ⟨a, ?_, ?_, ?_⟩
    · show gA z2.2 3 = _
      rw [b, eo1]; rfl
    · show gA z2.2 4 = _
      rw [c, eo1]; rfl
    · show gA z2.2 5 = _
      rw [d, eo1]; rfl
  unfold f_X9_settled at h
  by_cases c : (0 : Int32) ≤ p
  · exact hb _ (z_t h c)
  · exact hb _ (z_f h c)
-- seen, forget
theorem seen9 {o : Ob} {p0 p1 : Int32} {y : Int32 × Ob} (h : f_X9_seen o p0 p1 = some y) (hr : 0 ≤ (gA o 3 1).toInt ∧ (gA o 3 1).toInt ≤ 6) :
    (¬ ((0 ≤ p0.toInt ∧ p0.toInt < 4) ∧ 0 ≤ p1.toInt ∧ p1.toInt ≤ 9) ∧ y.1 = -1 ∧ gA y.2 3 = gA o 3) ∨
    (((0 ≤ p0.toInt ∧ p0.toInt < 4) ∧ 0 ≤ p1.toInt ∧ p1.toInt ≤ 9) ∧ ((gA o 3 1 = 6 ∧ y.1 = -5 ∧ gA y.2 3 = gA o 3) ∨ (¬ gA o 3 1 = 6 ∧ y.1 = gA o 3 1 + 1 ∧ gA y.2 3 1 = gA o 3 1 + 1 ∧ ∀ j, j ≠ 1 → j < 71 → gA y.2 3 j = gA o 3 j))) := by
  unfold f_X9_seen at h
  obtain ⟨o1, eo1, h⟩ := z_lt h
  have g1 : gA o1 3 = gA o 3 := by rw [eo1]; rfl
  have h24 : bk_X9_seen_24 o1 = some y → y.1 = -1 ∧ gA y.2 3 = gA o 3 := by
    intro h
    unfold bk_X9_seen_24 at h
    obtain ⟨z, ez, h⟩ := z_bd h
    rw [← Option.some.inj h, ← g1]; exact ⟨(tell_3 ez).1, (tell_3 ez).2.1⟩
  obtain ⟨z2, ez2, h⟩ := z_bd h
  rcases isR9 ez2 with ⟨a, b⟩ | ⟨a, b⟩
  · exact Or.inl ⟨fun q => b q.1, h24 (z_t h a)⟩
  · have h := z_f h a
    obtain ⟨z4, ez4, h⟩ := z_bd h
    rcases in9 (m := 0) (n := 9) (by decide) (by decide) ez4 with ⟨c, d⟩ | ⟨c, d⟩
    · exact Or.inl ⟨fun q => d q.2, h24 (z_t h c)⟩
    · refine Or.inr ⟨⟨b, d⟩, ?_⟩
      obtain ⟨x5, ex, h⟩ := z_lt (z_f h c)
      have n1 : (1 : Int32).toNatClampNeg = 1 := by decide
      rw [n1, g1] at ex
      by_cases c6 : x5 = (6 : Int32)
      · obtain ⟨z, ez, h⟩ := z_bd (z_t h c6)
        refine Or.inl ⟨by rw [← ex]; exact c6, ?_⟩
        rw [← Option.some.inj h, ← g1]; exact ⟨(tell_3 ez).1, (tell_3 ez).2.1⟩
      · have h := z_f h c6
        obtain ⟨-, h⟩ := z_gd h
        obtain ⟨o7, e7, h⟩ := z_lt h
        obtain ⟨-, h⟩ := z_gd h
        obtain ⟨o9, e9, h⟩ := z_lt h
        obtain ⟨o10, e10, h⟩ := z_lt h
        obtain ⟨z, ez, h⟩ := z_bd h
        have hx : x5.toInt = (gA o 3 1).toInt := by rw [ex]
        have m1 : ((2 : Int32) * x5).toInt = 2 * x5.toInt := i32_mul (by decide) rfl (by omega) (by omega)
        have m2 : ((71 : Int32) + ((2 : Int32) * x5)).toInt = 71 + 2 * x5.toInt := i32_add (by decide) m1 (by omega) (by omega)
        have m3 : (((71 : Int32) + ((2 : Int32) * x5)) + (1 : Int32)).toInt = 71 + 2 * x5.toInt + 1 := i32_add m2 (by decide) (by omega) (by omega)
        have lo : ∀ j, j < 71 → gA o9 3 j = gA o 3 j := fun j hj => by
          rw [e9, t3_ne m3 (by omega) (by omega), e7, t3_ne m2 (by omega) (by omega), g1]
        have hy := tell_3 ez
        refine Or.inr ⟨by rw [← ex]; exact c6, ?_, ?_, ?_⟩
        · rw [← Option.some.inj h]; show z.1 = _
          rw [hy.1, ex]
        · rw [← Option.some.inj h]; show gA z.2 3 1 = _
          rw [hy.2.1, e10, n1, t3_at, if_pos rfl, lo 1 (by decide)]
        · intro j hj hj'
          rw [← Option.some.inj h]; show gA z.2 3 j = _
          rw [hy.2.1, e10, n1, t3_at, if_neg hj, lo j hj']
theorem seen8 {o0 o4 : Ob} {p0 p1 : Int32} {y : Int32 × Ob × Ob} (h : f_X8_seen o0 o4 p0 p1 = some y) (hr : 0 ≤ (gI o4 8).toInt ∧ (gI o4 8).toInt ≤ 6) :
    (¬ ((0 ≤ p0.toInt ∧ p0.toInt < 4) ∧ 0 ≤ p1.toInt ∧ p1.toInt ≤ 9) ∧ y.1 = -1 ∧ y.2.2 = o4) ∨
    (((0 ≤ p0.toInt ∧ p0.toInt < 4) ∧ 0 ≤ p1.toInt ∧ p1.toInt ≤ 9) ∧ ((gI o4 8 = 6 ∧ y.1 = -5 ∧ y.2.2 = o4) ∨ (¬ gI o4 8 = 6 ∧ y.1 = gI o4 8 + 1 ∧ gI y.2.2 8 = gI o4 8 + 1 ∧ gI y.2.2 7 = gI o4 7 ∧ gA y.2.2 1 = gA o4 1 ∧ gA y.2.2 2 = gA o4 2 ∧ gA y.2.2 3 = gA o4 3))) := by
  unfold f_X8_seen at h
  have h14 : bk_X8_seen_14 o0 o4 = some y → y.1 = -1 ∧ y.2.2 = o4 := by
    intro h
    unfold bk_X8_seen_14 at h
    obtain ⟨z, ez, h⟩ := z_bd h
    rw [← Option.some.inj h]; exact ⟨refuse_ret ez, rfl⟩
  obtain ⟨z1, ez1, h⟩ := z_bd h
  rcases isR8 ez1 with ⟨a, b⟩ | ⟨a, b⟩
  · exact Or.inl ⟨fun q => b q.1, h14 (z_t h a)⟩
  · have h := z_f h a
    obtain ⟨z3, ez3, h⟩ := z_bd h
    rcases isT8 ez3 with ⟨c, d⟩ | ⟨c, d⟩
    · exact Or.inl ⟨fun q => d ⟨q.2.1, by omega⟩, h14 (z_t h c)⟩
    · refine Or.inr ⟨⟨b, d.1, by omega⟩, ?_⟩
      have h := z_f h c
      by_cases c6 : gI o4 8 < (6 : Int32)
      · have d6 := cv_lt (a := (gI o4 8).toInt) (b := 6) rfl (by decide) c6
        obtain ⟨z4, ez4, h⟩ := z_bd (z_t h c6)
        obtain ⟨z5, ez5, h⟩ := z_bd h
        unfold f_X2_addSeen at ez4
        have ez4 := z_f ez4 (fun q => by have q := cv_le (a := 6) (b := (gI o4 8).toInt) (by decide) rfl q; omega)
        obtain ⟨-, ez4⟩ := z_gd ez4
        obtain ⟨u2, f2, ez4⟩ := z_lt ez4
        obtain ⟨-, ez4⟩ := z_gd ez4
        obtain ⟨u4, f4, ez4⟩ := z_lt ez4
        obtain ⟨u5, f5, ez4⟩ := z_lt ez4
        unfold bk_X2_addSeen_39 at ez4
        have ez4 := Option.some.inj ez4
        have k8 : gI u5 8 = gI o4 8 + 1 := by rw [f5, f4, f2]; rfl
        refine Or.inr ⟨fun q => by rw [q] at d6; revert d6; decide, ?_, ?_, ?_, ?_, ?_, ?_⟩
        · rw [← Option.some.inj h]; show z5.1 = _
          rw [grant_ret ez5, ← ez4]; exact k8
        · rw [← Option.some.inj h]; show gI z4.2 8 = _
          rw [← ez4]; exact k8
        · rw [← Option.some.inj h]; show gI z4.2 7 = _
          rw [← ez4]; show gI u5 7 = _
          rw [f5, f4, f2]; rfl
        · rw [← Option.some.inj h]; show gA z4.2 1 = _
          rw [← ez4]; show gA u5 1 = _
          rw [f5, f4, f2]; rfl
        · rw [← Option.some.inj h]; show gA z4.2 2 = _
          rw [← ez4]; show gA u5 2 = _
          rw [f5, f4, f2]; rfl
        · rw [← Option.some.inj h]; show gA z4.2 3 = _
          rw [← ez4]; show gA u5 3 = _
          rw [f5, f4, f2]; rfl
      · have d6 := cv_nlt (a := (gI o4 8).toInt) (b := 6) rfl (by decide) c6
        obtain ⟨z6, ez6, h⟩ := z_bd (z_f h c6)
        refine Or.inl ⟨Int32.toInt_inj.mp ((show (gI o4 8).toInt = 6 by omega).trans (by decide)), ?_⟩
        rw [← Option.some.inj h]; exact ⟨refuse_ret ez6, rfl⟩
theorem forget9 {o : Ob} {y : Int32 × Ob} (h : f_X9_forget o = some y) : y.1 = gA o 3 1 ∧ gA y.2 3 1 = 0 ∧ ∀ j, j ≠ 1 → gA y.2 3 j = gA o 3 j := by
  unfold f_X9_forget at h
  obtain ⟨o1, eo1, h⟩ := z_lt h
  obtain ⟨x2, ex, h⟩ := z_lt h
  obtain ⟨o3, eo3, h⟩ := z_lt h
  have n1 : (1 : Int32).toNatClampNeg = 1 := by decide
  have g1 : gA o1 3 = gA o 3 := by rw [eo1]; rfl
  rw [← Option.some.inj h]
  refine ⟨by rw [ex, n1, g1], ?_, fun j hj => ?_⟩
  · show gA o3 3 1 = 0
    rw [eo3, n1, t3_at, if_pos rfl]
  · show gA o3 3 j = _
    rw [eo3, n1, t3_at, if_neg hj, g1]
theorem forget8 {o0 o4 : Ob} {y : Int32 × Ob} (h : f_X8_forget o0 o4 = some y) : y.1 = gI o4 8 ∧ y.2 = sI o4 8 0 := by
  unfold f_X8_forget at h
  obtain ⟨x1, ex, h⟩ := z_lt h
  obtain ⟨o2, eo2, h⟩ := z_lt h
  rw [← Option.some.inj h]
  exact ⟨ex, eo2⟩
-- the tie of p8 and p9: both tapes are of one size (the calls feed and end)
theorem four1 {N : Nat} {v1 v2 : Int32} {o y : Ob} (h : lp_X9_four_3 (N + 1) (v1, v2, o) = some y) (c : ¬ v2 < (0 : Int32)) : ∃ o', lp_X9_four_3 N (v1, v2 + (-8), o') = some y ∧ gI o' 13 = gI o 13 + 1 := by
  have h : lb_X9_four_3 (lp_X9_four_3 N) v1 v2 o = some y := h
  unfold lb_X9_four_3 at h
  obtain ⟨-, h⟩ := z_gd (z_f h c)
  obtain ⟨o2, e2, h⟩ := z_lt h
  obtain ⟨o3, e3, h⟩ := z_lt h
  obtain ⟨x4, e4, h⟩ := z_lt h
  refine ⟨o3, by rw [← e4]; exact h, ?_⟩
  rw [e3, e2]; rfl
theorem four0 {N : Nat} {v1 v2 : Int32} {o y : Ob} (h : lp_X9_four_3 (N + 1) (v1, v2, o) = some y) (c : v2 < (0 : Int32)) : o = y := by
  have h : lb_X9_four_3 (lp_X9_four_3 N) v1 v2 o = some y := h
  unfold lb_X9_four_3 at h
  exact Option.some.inj (z_t h c)
theorem four_sz {o y : Ob} {p : Int32} (h : f_X9_four o p = some y) : gI y 13 = gI o 13 + 1 + 1 + 1 + 1 := by
  have h : lp_X9_four_3 (99995 + 1 + 1 + 1 + 1 + 1) (p, 24, o) = some y := h
  obtain ⟨o1, h, e1⟩ := four1 h (by decide)
  obtain ⟨o2, h, e2⟩ := four1 h (by decide)
  obtain ⟨o3, h, e3⟩ := four1 h (by decide)
  obtain ⟨o4, h, e4⟩ := four1 h (by decide)
  have e5 := four0 h (by decide)
  rw [← e5, e4, e3, e2, e1]
theorem addn1 {N : Nat} {v1 v2 : Int32} {o y : Ob} (h : lp_X6_addNumber_3 (N + 1) (v1, v2, o) = some y) (c : ¬ v2 < (0 : Int32)) {n : Int} (hn : (gI o 2).toInt = n) (h0 : 0 ≤ n) (h1 : n < 400) : ∃ o', lp_X6_addNumber_3 N (v1, v2 + (-8), o') = some y ∧ gI o' 2 = gI o 2 + 1 ∧ (gI o' 2).toInt = n + 1 := by
  have h : lb_X6_addNumber_3 (lp_X6_addNumber_3 N) v1 v2 o = some y := h
  unfold lb_X6_addNumber_3 at h
  have c4 : ¬ (400 : Int32) ≤ gI o 2 := fun q => by have q := cv_le (a := 400) (b := n) (by decide) hn q; omega
  obtain ⟨-, h⟩ := z_gd (z_f (z_f h c) c4)
  obtain ⟨o3, e3, h⟩ := z_lt h
  obtain ⟨o4, e4, h⟩ := z_lt h
  unfold bk_X6_addNumber_43 at h
  obtain ⟨x1, ex, h⟩ := z_lt h
  have eg : gI o4 2 = gI o 2 + 1 := by rw [e4, e3]; rfl
  exact ⟨o4, by rw [← ex]; exact h, eg, by rw [eg]; exact i32_add hn (by decide) (by omega) (by omega)⟩
theorem addn0 {N : Nat} {v1 v2 : Int32} {o y : Ob} (h : lp_X6_addNumber_3 (N + 1) (v1, v2, o) = some y) (c : v2 < (0 : Int32)) : o = y := by
  have h : lb_X6_addNumber_3 (lp_X6_addNumber_3 N) v1 v2 o = some y := h
  unfold lb_X6_addNumber_3 at h
  exact Option.some.inj (z_t h c)
theorem addn_sz {o y : Ob} {p : Int32} {n : Int} (h : f_X6_addNumber o p = some y) (hn : (gI o 2).toInt = n) (h0 : 0 ≤ n) (h1 : n ≤ 396) : gI y 2 = gI o 2 + 1 + 1 + 1 + 1 ∧ (gI y 2).toInt = n + 4 := by
  have h : lp_X6_addNumber_3 (99995 + 1 + 1 + 1 + 1 + 1) (p, 24, o) = some y := h
  obtain ⟨o1, h, e1, n1⟩ := addn1 h (by decide) hn h0 (by omega)
  obtain ⟨o2, h, e2, n2⟩ := addn1 h (by decide) n1 (by omega) (by omega)
  obtain ⟨o3, h, e3, n3⟩ := addn1 h (by decide) n2 (by omega) (by omega)
  obtain ⟨o4, h, e4, n4⟩ := addn1 h (by decide) n3 (by omega) (by omega)
  have e5 := addn0 h (by decide)
  rw [← e5]
  exact ⟨by rw [e4, e3, e2, e1], by omega⟩
theorem feed_ts {o0 o1 o9 : Ob} {p0 p1 p2 p3 p4 : Int32} {y1 y2 : Int32 × Ob} (ht : gI o1 2 = gI o9 13) (hr : 0 ≤ (gI o1 2).toInt ∧ (gI o1 2).toInt ≤ 400) (h1 : f_X8_feed o0 o1 p0 p1 p2 p3 p4 = some y1) (h2 : f_X9_feed o9 p0 p1 p2 p3 p4 = some y2) : y1.1 = y2.1 ∧ gI y1.2 2 = gI y2.2 13 := by
  unfold f_X8_feed at h1
  obtain ⟨z1, ez1, h1⟩ := z_bd h1
  unfold f_X6_hasRoom at ez1
  unfold f_X9_feed at h2
  obtain ⟨a1, ea1, h2⟩ := z_lt h2
  have eg : gI a1 13 = gI o9 13 := by rw [ea1]; rfl
  have es : (gI o1 2 + (20 : Int32)).toInt = (gI o1 2).toInt + 20 := i32_add rfl (by decide) (by omega) (by omega)
  rw [eg, ← ht] at h2
  by_cases c : (400 : Int32) < gI o1 2 + 20
  · have ez := Option.some.inj (z_t ez1 c)
    have h1 := z_t h1 ez.symm
    have c := cv_lt (a := 400) (b := (gI o1 2).toInt + 20) (by decide) es c
    have c' : ¬ gI o1 2 + (20 : Int32) ≤ 400 := fun q => by have q := cv_le (a := (gI o1 2).toInt + 20) (b := 400) es (by decide) q; omega
    have h2 := z_f h2 c'
    rw [← Option.some.inj h1, ← Option.some.inj h2]
    exact ⟨rfl, by show gI o1 2 = gI a1 13; rw [eg]; exact ht⟩
  · have ez := Option.some.inj (z_f ez1 c)
    have h1 := z_f h1 (by rw [← ez]; decide)
    have c := cv_nlt (a := 400) (b := (gI o1 2).toInt + 20) (by decide) es c
    have c' : gI o1 2 + (20 : Int32) ≤ 400 := Int32.le_iff_toInt_le.mpr (by have e : (400 : Int32).toInt = 400 := (by decide); omega)
    have h2 := z_t h2 c'
    obtain ⟨b1, f1, h1⟩ := z_bd h1
    obtain ⟨b2, f2, h1⟩ := z_bd h1
    obtain ⟨b3, f3, h1⟩ := z_bd h1
    obtain ⟨b4, f4, h1⟩ := z_bd h1
    obtain ⟨b5, f5, h1⟩ := z_bd h1
    obtain ⟨d1, g1, h2⟩ := z_bd h2
    obtain ⟨d2, g2, h2⟩ := z_bd h2
    obtain ⟨d3, g3, h2⟩ := z_bd h2
    obtain ⟨d4, g4, h2⟩ := z_bd h2
    obtain ⟨d5, g5, h2⟩ := z_bd h2
    obtain ⟨q1, r1⟩ := addn_sz f1 rfl hr.1 (by omega)
    obtain ⟨q2, r2⟩ := addn_sz f2 r1 (by omega) (by omega)
    obtain ⟨q3, r3⟩ := addn_sz f3 r2 (by omega) (by omega)
    obtain ⟨q4, r4⟩ := addn_sz f4 r3 (by omega) (by omega)
    obtain ⟨q5, r5⟩ := addn_sz f5 r4 (by omega) (by omega)
    have e : gI b5 2 = gI d5 13 := by rw [q5, q4, q3, q2, q1, four_sz g5, four_sz g4, four_sz g3, four_sz g2, four_sz g1, eg, ht]
    rw [← Option.some.inj h1, ← Option.some.inj h2]
    exact ⟨e, e⟩
theorem end_ts {o0 o1 o9 : Ob} {p : Int32} {y1 y2 : Int32 × Ob} (ht : gI o1 2 = gI o9 13) (h1 : f_X8_end o0 o1 p = some y1) (h2 : f_X9_end o9 p = some y2) : y1.1 = y2.1 ∧ gI y1.2 2 = gI y2.2 13 := by
  unfold f_X8_end at h1
  unfold f_X9_end at h2
  obtain ⟨a1, ea1, h2⟩ := z_lt h2
  have eg : gI a1 13 = gI o9 13 := by rw [ea1]; rfl
  have hx : gI o1 2 = gI a1 13 := by rw [eg]; exact ht
  by_cases c : p < (0 : Int32)
  · rw [← Option.some.inj (z_t h1 c), ← Option.some.inj (z_t h2 c)]
    exact ⟨rfl, hx⟩
  · have h1 := z_f h1 c
    have h2 := z_f h2 c
    rw [← hx] at h2
    by_cases c : p ≤ gI o1 2
    · obtain ⟨u1, eu1, h1⟩ := z_lt (z_t h1 c)
      obtain ⟨u2, eu2, h2⟩ := z_lt (z_t h2 c)
      rw [← Option.some.inj h1, ← Option.some.inj h2]
      exact ⟨rfl, by rw [eu1, eu2]; rfl⟩
    · rw [← Option.some.inj (z_f h1 c), ← Option.some.inj (z_f h2 c)]
      exact ⟨rfl, hx⟩
-- person
theorem l9_pers {y : Int32 × Ob} {v3 : Int32} {n : Nat} (en : v3.toInt = (n : Int)) (hn : n < 7) : ∀ (N : Nat) (v4 : Int32) (o : Ob) (k : Nat), v4.toInt = (k : Int) → lp_X9_person_109 N (v3, v4, o) = some y → y.1 = v3 ∧ gA y.2 3 0 = gA o 3 0 + 1 ∧ ∀ j, j ≠ 0 → gA y.2 3 j = if 36 + 4 * n + k ≤ j ∧ j < 36 + 4 * n + 4 then 0 else gA o 3 j := by
  intro N
  induction N with
  | zero => intro v4 o k _ h; cases h
  | succ N ih =>
    intro v4 o k ek h
    have h : lb_X9_person_109 (lp_X9_person_109 N) v3 v4 o = some y := h
    unfold lb_X9_person_109 at h
    by_cases c : (4 : Int32) ≤ v4
    · have d := cv_le (a := 4) (b := (k : Int)) (by decide) ek c
      obtain ⟨o15, e15, h⟩ := z_lt (z_t h c)
      obtain ⟨z, ez, h⟩ := z_bd h
      have n0 : (0 : Int32).toNatClampNeg = 0 := by decide
      have hs := settled_3 ez
      rw [← Option.some.inj h]
      refine ⟨hs.1, ?_, fun j hj => ?_⟩
      · show gA z.2 3 0 = _
        rw [hs.2.1, e15, n0, t3_at, if_pos rfl]
      · show gA z.2 3 j = _
        rw [hs.2.1, e15, n0, t3_at, if_neg hj, if_neg (by omega)]
    · have d := cv_nle (a := 4) (b := (k : Int)) (by decide) ek c
      obtain ⟨-, h⟩ := z_gd (z_f h c)
      obtain ⟨o18, e18, h⟩ := z_lt h
      obtain ⟨x19, e19, h⟩ := z_lt h
      have m1 : ((4 : Int32) * v3).toInt = 4 * (n : Int) := i32_mul (by decide) en (by omega) (by omega)
      have m2 : ((36 : Int32) + ((4 : Int32) * v3)).toInt = 36 + 4 * (n : Int) := i32_add (by decide) m1 (by omega) (by omega)
      have m3 : (((36 : Int32) + ((4 : Int32) * v3)) + v4).toInt = 36 + 4 * (n : Int) + (k : Int) := i32_add m2 ek (by omega) (by omega)
      have i3 : (((36 : Int32) + ((4 : Int32) * v3)) + v4).toNatClampNeg = 36 + 4 * n + k := tnc_eq (by omega)
      have t19 : x19.toInt = (k : Int) + 1 := by rw [e19]; exact i32_add ek (by decide) (by omega) (by omega)
      rw [i3] at e18
      obtain ⟨a, b, l⟩ := ih x19 o18 (k + 1) (by omega) h
      refine ⟨a, ?_, fun j hj => ?_⟩
      · rw [b, e18, t3_at, if_neg (by omega)]
      · rw [l j hj, e18, t3_at]
        by_cases q : 36 + 4 * n + (k + 1) ≤ j ∧ j < 36 + 4 * n + 4
        · rw [if_pos q, if_pos ⟨by omega, by omega⟩]
        · rw [if_neg q]
          by_cases q2 : j = 36 + 4 * n + k
          · rw [if_pos q2, if_pos ⟨by omega, by omega⟩]
          · rw [if_neg q2, if_neg (by omega)]
theorem pers36 {o : Ob} {v1 v2 : Int32} {y : Int32 × Ob} {n : Nat} (en : (gA o 3 0).toInt = (n : Int)) (hn : n ≤ 7) (h : bk_X9_person_36 v1 v2 o = some y) : (n = 7 ∧ y.1 = -5 ∧ gA y.2 3 = gA o 3) ∨
    (n < 7 ∧ y.1 = gA o 3 0 ∧ gA y.2 3 0 = gA o 3 0 + 1 ∧ gA y.2 3 1 = gA o 3 1 ∧ (∀ j, j < 7 → gA y.2 3 (29 + j) = if j = n then v2 else gA o 3 (29 + j)) ∧ (∀ j, j < 28 → gA y.2 3 (36 + j) = if 4 * n ≤ j ∧ j < 4 * n + 4 then 0 else gA o 3 (36 + j)) ∧ (∀ j, j < 7 → gA y.2 3 (64 + j) = if j = n then 0 else gA o 3 (64 + j))) := by
  unfold bk_X9_person_36 at h
  obtain ⟨x4, ex, h⟩ := z_lt h
  have n0 : (0 : Int32).toNatClampNeg = 0 := by decide
  rw [n0] at ex
  have tx : x4.toInt = (n : Int) := by rw [ex]; exact en
  by_cases c : x4 = (7 : Int32)
  · have d := cv_eq (a := (n : Int)) (b := 7) tx (by decide) c
    obtain ⟨z, ez, h⟩ := z_bd (z_t h c)
    refine Or.inl ⟨by omega, ?_⟩
    rw [← Option.some.inj h]; exact ⟨(tell_3 ez).1, (tell_3 ez).2.1⟩
  · have d := cv_ne (a := (n : Int)) (b := 7) tx (by decide) c
    have h := z_f h c
    obtain ⟨-, h⟩ := z_gd h
    obtain ⟨o6, e6, h⟩ := z_lt h
    obtain ⟨-, h⟩ := z_gd h
    obtain ⟨o8, e8, h⟩ := z_lt h
    obtain ⟨-, h⟩ := z_gd h
    obtain ⟨o10, e10, h⟩ := z_lt h
    obtain ⟨-, h⟩ := z_gd h
    obtain ⟨o12, e12, h⟩ := z_lt h
    obtain ⟨-, h⟩ := z_gd h
    obtain ⟨o14, e14, h⟩ := z_lt h
    have s6 : ((8 : Int32) + x4).toInt = 8 + (n : Int) := i32_add (by decide) tx (by omega) (by omega)
    have s8 : ((15 : Int32) + x4).toInt = 15 + (n : Int) := i32_add (by decide) tx (by omega) (by omega)
    have s10 : ((22 : Int32) + x4).toInt = 22 + (n : Int) := i32_add (by decide) tx (by omega) (by omega)
    have s12 : ((29 : Int32) + x4).toInt = 29 + (n : Int) := i32_add (by decide) tx (by omega) (by omega)
    have s14 : ((64 : Int32) + x4).toInt = 64 + (n : Int) := i32_add (by decide) tx (by omega) (by omega)
    have i6 : ((8 : Int32) + x4).toNatClampNeg = 8 + n := tnc_eq (by omega)
    have i8 : ((15 : Int32) + x4).toNatClampNeg = 15 + n := tnc_eq (by omega)
    have i10 : ((22 : Int32) + x4).toNatClampNeg = 22 + n := tnc_eq (by omega)
    have i12 : ((29 : Int32) + x4).toNatClampNeg = 29 + n := tnc_eq (by omega)
    have i14 : ((64 : Int32) + x4).toNatClampNeg = 64 + n := tnc_eq (by omega)
    rw [i6] at e6
    rw [i8] at e8
    rw [i10] at e10
    rw [i12] at e12
    rw [i14] at e14
    obtain ⟨a, b, l⟩ := l9_pers tx (by omega) zfu 0 o14 0 (by decide) h
    have lo : ∀ k, gA o14 3 k = if k = 64 + n then 0 else if k = 29 + n then v2 else if k = 22 + n then 0 else if k = 15 + n then 0 else if k = 8 + n then v1 else gA o 3 k := by
      intro k
      rw [e14, t3_at, e12, t3_at, e10, t3_at, e8, t3_at, e6, t3_at]
    refine Or.inr ⟨by omega, by rw [a]; exact ex, ?_, ?_, fun j hj => ?_, fun j hj => ?_, fun j hj => ?_⟩
    · rw [b, lo 0, if_neg (by omega), if_neg (by omega), if_neg (by omega), if_neg (by omega), if_neg (by omega)]
    · rw [l 1 (by decide), if_neg (by omega), lo 1, if_neg (by omega), if_neg (by omega), if_neg (by omega), if_neg (by omega), if_neg (by omega)]
    · rw [l (29 + j) (by omega), if_neg (by omega), lo (29 + j), if_neg (by omega)]
      by_cases q : j = n
      · rw [if_pos (by omega), if_pos q]
      · rw [if_neg (by omega), if_neg (by omega), if_neg (by omega), if_neg (by omega), if_neg q]
    · rw [l (36 + j) (by omega)]
      by_cases q : 4 * n ≤ j ∧ j < 4 * n + 4
      · rw [if_pos ⟨by omega, by omega⟩, if_pos q]
      · rw [if_neg (by omega), lo (36 + j), if_neg (by omega), if_neg (by omega), if_neg (by omega), if_neg (by omega), if_neg (by omega), if_neg q]
    · rw [l (64 + j) (by omega), if_neg (by omega), lo (64 + j)]
      by_cases q : j = n
      · rw [if_pos (by omega), if_pos q]
      · rw [if_neg (by omega), if_neg (by omega), if_neg (by omega), if_neg (by omega), if_neg (by omega), if_neg q]
theorem person9 {o : Ob} {p0 p1 : Int32} {y : Int32 × Ob} {n : Nat} (en : (gA o 3 0).toInt = (n : Int)) (hn : n ≤ 7) (h : f_X9_person o p0 p1 = some y) :
    (¬ ((0 ≤ p0.toInt ∧ p0.toInt ≤ 9) ∧ (p1 = -1 ∨ (0 ≤ p1.toInt ∧ p1.toInt < (n : Int)))) ∧ y.1 = -1 ∧ gA y.2 3 = gA o 3) ∨
    (((0 ≤ p0.toInt ∧ p0.toInt ≤ 9) ∧ (p1 = -1 ∨ (0 ≤ p1.toInt ∧ p1.toInt < (n : Int)))) ∧ ((n = 7 ∧ y.1 = -5 ∧ gA y.2 3 = gA o 3) ∨
      (n < 7 ∧ y.1 = gA o 3 0 ∧ gA y.2 3 0 = gA o 3 0 + 1 ∧ gA y.2 3 1 = gA o 3 1 ∧ (∀ j, j < 7 → gA y.2 3 (29 + j) = if j = n then p1 else gA o 3 (29 + j)) ∧ (∀ j, j < 28 → gA y.2 3 (36 + j) = if 4 * n ≤ j ∧ j < 4 * n + 4 then 0 else gA o 3 (36 + j)) ∧ (∀ j, j < 7 → gA y.2 3 (64 + j) = if j = n then 0 else gA o 3 (64 + j))))) := by
  unfold f_X9_person at h
  obtain ⟨o1, eo1, h⟩ := z_lt h
  have g1 : gA o1 3 = gA o 3 := by rw [eo1]; rfl
  have h30 : bk_X9_person_30 o1 = some y → y.1 = -1 ∧ gA y.2 3 = gA o 3 := by
    intro h
    unfold bk_X9_person_30 at h
    obtain ⟨z, ez, h⟩ := z_bd h
    rw [← Option.some.inj h, ← g1]; exact ⟨(tell_3 ez).1, (tell_3 ez).2.1⟩
  have h36 := fun h => pers36 (o := o1) (v1 := p0) (v2 := p1) (y := y) (n := n) (by rw [g1]; exact en) hn h
  rw [g1] at h36
  obtain ⟨z2, ez2, h⟩ := z_bd h
  rcases in9 (m := 0) (n := 9) (by decide) (by decide) ez2 with ⟨a, b⟩ | ⟨a, b⟩
  · exact Or.inl ⟨fun q => b q.1, h30 (z_t h a)⟩
  · have h := z_f h a
    by_cases c : p1 = (-1 : Int32)
    · exact Or.inr ⟨⟨b, Or.inl c⟩, h36 (z_t h c)⟩
    · obtain ⟨z, ez, h⟩ := z_bd (z_f h c)
      rcases isP9 ez (by rw [g1]; omega) with ⟨d, e⟩ | ⟨d, e⟩
      · rw [g1, en] at e
        exact Or.inl ⟨fun q => q.2.elim c e, h30 (z_t h d)⟩
      · rw [g1, en] at e
        exact Or.inr ⟨⟨b, Or.inr e⟩, h36 (z_f h d)⟩
theorem pers29 {o0 o4 o5 o11 : Ob} {v1 v2 : Int32} {y : Int32 × Ob × Ob × Ob × Ob} {n : Nat} (en : (gI o4 7).toInt = (n : Int)) (hn : n ≤ 7) (h : bk_X8_person_29 v1 v2 o0 o4 o5 o11 = some y) : (n = 7 ∧ y.1 = -5 ∧ y.2.2.1 = o4) ∨
    (n < 7 ∧ y.1 = gI o4 7 ∧ gI y.2.2.1 7 = gI o4 7 + 1 ∧ gI y.2.2.1 8 = gI o4 8 ∧ (∀ j, gA y.2.2.1 1 j = if j = n then v2 else gA o4 1 j) ∧ gA y.2.2.1 2 = gA o4 2 ∧ gA y.2.2.1 3 = gA o4 3) := by
  unfold bk_X8_person_29 at h
  by_cases c : gI o4 7 < (7 : Int32)
  · have d := cv_lt (a := (n : Int)) (b := 7) en (by decide) c
    obtain ⟨z3, -, h⟩ := z_bd (z_t h c)
    obtain ⟨z4, ez4, h⟩ := z_bd h
    obtain ⟨z5, ez5, h⟩ := z_bd h
    unfold f_X2_addPerson at ez4
    obtain ⟨-, ez4⟩ := z_gd (z_t ez4 c)
    obtain ⟨u2, f2, ez4⟩ := z_lt ez4
    obtain ⟨-, ez4⟩ := z_gd ez4
    obtain ⟨u4, f4, ez4⟩ := z_lt ez4
    obtain ⟨u5, f5, ez4⟩ := z_lt ez4
    have ez4 := Option.some.inj ez4
    have i7 : (gI o4 7).toNatClampNeg = n := tnc_eq en
    rw [i7] at f4
    have k7 : gI u5 7 = gI o4 7 + 1 := by rw [f5, f4]; rfl
    have w1 : ((gI o4 7 + 1) - (1 : Int32)).toInt = (n : Int) + 1 - 1 := i32_sub (i32_add en (by decide) (by omega) (by omega)) (by decide) (by omega) (by omega)
    have ey : y.2.2.1 = u5 := by rw [← Option.some.inj h, ← ez4]
    refine Or.inr ⟨by omega, ?_, ?_, ?_, ?_, ?_, ?_⟩
    · rw [← Option.some.inj h]; show z5.1 = _
      rw [grant_ret ez5, ← ez4]; show gI u5 7 - 1 = _
      rw [k7]; exact Int32.toInt_inj.mp (by omega)
    · rw [ey]; exact k7
    · rw [ey, f5, f4]; rfl
    · intro j
      rw [ey, f5, f4]; rfl
    · rw [ey, f5, f4]; rfl
    · rw [ey, f5, f4]; rfl
  · have d := cv_nlt (a := (n : Int)) (b := 7) en (by decide) c
    obtain ⟨z6, ez6, h⟩ := z_bd (z_f h c)
    refine Or.inl ⟨by omega, ?_⟩
    rw [← Option.some.inj h]; exact ⟨refuse_ret ez6, rfl⟩
theorem person8 {o0 o4 o5 o11 : Ob} {p0 p1 : Int32} {y : Int32 × Ob × Ob × Ob × Ob} {n : Nat} (en : (gI o4 7).toInt = (n : Int)) (hn : n ≤ 7) (h : f_X8_person o0 o4 o5 o11 p0 p1 = some y) :
    (¬ ((0 ≤ p0.toInt ∧ p0.toInt ≤ 9) ∧ (p1 = -1 ∨ (0 ≤ p1.toInt ∧ p1.toInt < (n : Int)))) ∧ y.1 = -1 ∧ y.2.2.1 = o4) ∨
    (((0 ≤ p0.toInt ∧ p0.toInt ≤ 9) ∧ (p1 = -1 ∨ (0 ≤ p1.toInt ∧ p1.toInt < (n : Int)))) ∧ ((n = 7 ∧ y.1 = -5 ∧ y.2.2.1 = o4) ∨
      (n < 7 ∧ y.1 = gI o4 7 ∧ gI y.2.2.1 7 = gI o4 7 + 1 ∧ gI y.2.2.1 8 = gI o4 8 ∧ (∀ j, gA y.2.2.1 1 j = if j = n then p1 else gA o4 1 j) ∧ gA y.2.2.1 2 = gA o4 2 ∧ gA y.2.2.1 3 = gA o4 3))) := by
  unfold f_X8_person at h
  have h23 : bk_X8_person_23 o0 o4 o5 o11 = some y → y.1 = -1 ∧ y.2.2.1 = o4 := by
    intro h
    unfold bk_X8_person_23 at h
    obtain ⟨z, ez, h⟩ := z_bd h
    rw [← Option.some.inj h]; exact ⟨refuse_ret ez, rfl⟩
  have h29 := fun h => pers29 (o0 := o0) (o4 := o4) (o5 := o5) (o11 := o11) (v1 := p0) (v2 := p1) (y := y) (n := n) en hn h
  obtain ⟨z1, ez1, h⟩ := z_bd h
  rcases isT8 ez1 with ⟨a, b⟩ | ⟨a, b⟩
  · exact Or.inl ⟨fun q => b ⟨q.1.1, by omega⟩, h23 (z_t h a)⟩
  · have h := z_f h a
    by_cases c : p1 = (-1 : Int32)
    · exact Or.inr ⟨⟨⟨b.1, by omega⟩, Or.inl c⟩, h29 (z_t h c)⟩
    · obtain ⟨z, ez, h⟩ := z_bd (z_f h c)
      rcases isP2 ez with ⟨d, e⟩ | ⟨d, e⟩
      · rw [en] at e
        exact Or.inl ⟨fun q => q.2.elim c e, h23 (z_t h d)⟩
      · rw [en] at e
        exact Or.inr ⟨⟨⟨b.1, by omega⟩, Or.inr e⟩, h29 (z_f h d)⟩
-- beats
theorem xor01 {x p s : Int32} (hx : 0 ≤ x.toInt ∧ x.toInt ≤ 1) (hp : 0 ≤ p.toInt ∧ p.toInt ≤ 1) (hs : 0 ≤ s.toInt ∧ s.toInt ≤ 7) : (x ^^^ p) <<< (s &&& 31) = if x = p then 0 else (1 : Int32) <<< (s &&& 31) := by
  have e : ∀ z : Int32, 0 ≤ z.toInt → z.toInt ≤ 1 → z = 0 ∨ z = 1 := by
    intro z h0 h1
    rcases (show z.toInt = 0 ∨ z.toInt = 1 by omega) with h | h
    · exact Or.inl (Int32.toInt_inj.mp (h.trans (by decide)))
    · exact Or.inr (Int32.toInt_inj.mp (h.trans (by decide)))
  rcases e x hx.1 hx.2 with h | h <;> rcases e p hp.1 hp.2 with h' | h' <;> rcases i32_cases8 hs.1 hs.2 with q | q | q | q | q | q | q | q <;> rw [h, h', q] <;> decide
theorem beats9 {o : Ob} {p0 p1 p2 : Int32} {y : Int32 × Ob} {n : Nat} (en : (gA o 3 0).toInt = (n : Int)) (hn : n ≤ 7) (h : f_X9_beats o p0 p1 p2 = some y) :
    (¬ (¬ p0 = p1 ∧ 0 ≤ p2.toInt ∧ p2.toInt ≤ 1) ∧ y.1 = -1 ∧ gA y.2 3 = gA o 3) ∨
    ((¬ p0 = p1 ∧ 0 ≤ p2.toInt ∧ p2.toInt ≤ 1) ∧ ((¬ ((0 ≤ p0.toInt ∧ p0.toInt < (n : Int)) ∧ 0 ≤ p1.toInt ∧ p1.toInt < (n : Int)) ∧ y.1 = -2 ∧ gA y.2 3 = gA o 3) ∨
      (((0 ≤ p0.toInt ∧ p0.toInt < (n : Int)) ∧ 0 ≤ p1.toInt ∧ p1.toInt < (n : Int)) ∧ y.1 = ((gA o 3 (64 + p0.toNatClampNeg)) >>> (p1 &&& 31)) &&& (1 : Int32) ∧
        ∀ j, gA y.2 3 j = if j = 64 + p0.toNatClampNeg then (gA o 3 (64 + p0.toNatClampNeg)) ^^^ (if y.1 = p2 then 0 else (1 : Int32) <<< (p1 &&& 31)) else gA o 3 j))) := by
  unfold f_X9_beats at h
  obtain ⟨o1, eo1, h⟩ := z_lt h
  have g1 : gA o1 3 = gA o 3 := by rw [eo1]; rfl
  have h20 : bk_X9_beats_20 o1 = some y → y.1 = -1 ∧ gA y.2 3 = gA o 3 := by
    intro h
    unfold bk_X9_beats_20 at h
    obtain ⟨z, ez, h⟩ := z_bd h
    rw [← Option.some.inj h, ← g1]; exact ⟨(tell_3 ez).1, (tell_3 ez).2.1⟩
  have h42 : bk_X9_beats_42 o1 = some y → y.1 = -2 ∧ gA y.2 3 = gA o 3 := by
    intro h
    unfold bk_X9_beats_42 at h
    obtain ⟨z, ez, h⟩ := z_bd h
    rw [← Option.some.inj h, ← g1]; exact ⟨(tell_3 ez).1, (tell_3 ez).2.1⟩
  by_cases c : p0 = p1
  · exact Or.inl ⟨fun q => q.1 c, h20 (z_t h c)⟩
  · obtain ⟨z3, ez3, h⟩ := z_bd (z_f h c)
    rcases in9 (m := 0) (n := 1) (by decide) (by decide) ez3 with ⟨a, b⟩ | ⟨a, b⟩
    · exact Or.inl ⟨fun q => b q.2, h20 (z_t h a)⟩
    · refine Or.inr ⟨⟨c, b⟩, ?_⟩
      have hp : 0 ≤ (gA o1 3 0).toInt ∧ (gA o1 3 0).toInt ≤ 7 := by rw [g1]; omega
      obtain ⟨z4, ez4, h⟩ := z_bd (z_f h a)
      rcases isP9 ez4 hp with ⟨d, e⟩ | ⟨d, e⟩
      · rw [g1, en] at e
        exact Or.inl ⟨fun q => e q.1, h42 (z_t h d)⟩
      · rw [g1, en] at e
        obtain ⟨z6, ez6, h⟩ := z_bd (z_f h d)
        rcases isP9 ez6 hp with ⟨f, g⟩ | ⟨f, g⟩
        · rw [g1, en] at g
          exact Or.inl ⟨fun q => g q.2, h42 (z_t h f)⟩
        · rw [g1, en] at g
          obtain ⟨-, h⟩ := z_gd (z_f h f)
          obtain ⟨x8, e8, h⟩ := z_lt h
          obtain ⟨x9, e9, h⟩ := z_lt h
          obtain ⟨-, h⟩ := z_gd h
          have s9 : ((64 : Int32) + p0).toInt = 64 + p0.toInt := i32_add (by decide) rfl (by omega) (by omega)
          have ec : p0.toNatClampNeg = p0.toInt.toNat := rfl
          have i9 : ((64 : Int32) + p0).toNatClampNeg = 64 + p0.toNatClampNeg := tnc_eq (by rw [s9, ec]; omega)
          have j9 : x9.toNatClampNeg = 64 + p0.toNatClampNeg := by rw [e9]; exact i9
          rw [i9, g1] at e8
          have h87 : ∀ s0 : Int32, bk_X9_beats_87 x8 s0 (gA o1 3 x9.toNatClampNeg) x9 o1 = some y → y.1 = x8 ∧ ∀ j, gA y.2 3 j = if j = 64 + p0.toNatClampNeg then (gA o 3 (64 + p0.toNatClampNeg)) ^^^ s0 else gA o 3 j := by
            intro s0 h
            unfold bk_X9_beats_87 at h
            obtain ⟨-, h⟩ := z_gd h
            obtain ⟨o12, e12, h⟩ := z_lt h
            obtain ⟨z, ez, h⟩ := z_bd h
            rw [j9] at e12
            rw [← Option.some.inj h]
            refine ⟨(tell_3 ez).1, fun j => ?_⟩
            show gA z.2 3 j = _
            rw [(tell_3 ez).2.1, e12, t3_at, g1]
          refine Or.inr ⟨⟨e, g⟩, ?_⟩
          by_cases k : x8 = p2
          · obtain ⟨q1, q2⟩ := h87 _ (z_t h k)
            refine ⟨q1.trans e8, fun j => ?_⟩
            rw [q2 j, q1, if_pos k]
          · obtain ⟨q1, q2⟩ := h87 _ (z_f h k)
            refine ⟨q1.trans e8, fun j => ?_⟩
            rw [q2 j, q1, if_neg k]
theorem beats8 {o0 o4 : Ob} {p0 p1 p2 : Int32} {y : Int32 × Ob × Ob} {n : Nat} (en : (gI o4 7).toInt = (n : Int)) (hn : n ≤ 7) (h : f_X8_beats o0 o4 p0 p1 p2 = some y) :
    (¬ (¬ p0 = p1 ∧ 0 ≤ p2.toInt ∧ p2.toInt ≤ 1) ∧ y.1 = -1 ∧ y.2.2 = o4) ∨
    ((¬ p0 = p1 ∧ 0 ≤ p2.toInt ∧ p2.toInt ≤ 1) ∧ ((¬ ((0 ≤ p0.toInt ∧ p0.toInt < (n : Int)) ∧ 0 ≤ p1.toInt ∧ p1.toInt < (n : Int)) ∧ y.1 = -2 ∧ y.2.2 = o4) ∨
      (((0 ≤ p0.toInt ∧ p0.toInt < (n : Int)) ∧ 0 ≤ p1.toInt ∧ p1.toInt < (n : Int)) ∧ y.1 = ((gA o4 3 p0.toNatClampNeg) >>> (p1 &&& 31)) &&& (1 : Int32) ∧
        y.2.2 = tA o4 3 p0.toNatClampNeg ((gA o4 3 p0.toNatClampNeg) ^^^ (if y.1 = p2 then 0 else (1 : Int32) <<< (p1 &&& 31)))))) := by
  unfold f_X8_beats at h
  have h14 : bk_X8_beats_14 o0 o4 = some y → y.1 = -1 ∧ y.2.2 = o4 := by
    intro h
    unfold bk_X8_beats_14 at h
    obtain ⟨z, ez, h⟩ := z_bd h
    rw [← Option.some.inj h]; exact ⟨refuse_ret ez, rfl⟩
  have h42 : bk_X8_beats_42 o0 o4 = some y → y.1 = -2 ∧ y.2.2 = o4 := by
    intro h
    unfold bk_X8_beats_42 at h
    obtain ⟨z, ez, h⟩ := z_bd h
    rw [← Option.some.inj h]; exact ⟨refuse_ret ez, rfl⟩
  by_cases c : p0 = p1
  · exact Or.inl ⟨fun q => q.1 c, h14 (z_t h c)⟩
  · have h := z_f h c
    by_cases c1 : p2 < (0 : Int32)
    · have d := cv_lt (a := p2.toInt) (b := 0) rfl (by decide) c1
      exact Or.inl ⟨fun q => by omega, h14 (z_t h c1)⟩
    · have h := z_f h c1
      have d := cv_nlt (a := p2.toInt) (b := 0) rfl (by decide) c1
      by_cases c2 : p2 ≤ (1 : Int32)
      · have d2 := cv_le (a := p2.toInt) (b := 1) rfl (by decide) c2
        have h := z_t h c2
        refine Or.inr ⟨⟨c, d, d2⟩, ?_⟩
        obtain ⟨z2, ez2, h⟩ := z_bd h
        rcases isP2 ez2 with ⟨e, f⟩ | ⟨e, f⟩
        · rw [en] at f
          exact Or.inl ⟨fun q => f q.1, h42 (z_t h e)⟩
        · rw [en] at f
          obtain ⟨z4, ez4, h⟩ := z_bd (z_f h e)
          rcases isP2 ez4 with ⟨g, k⟩ | ⟨g, k⟩
          · rw [en] at k
            exact Or.inl ⟨fun q => k q.2, h42 (z_t h g)⟩
          · rw [en] at k
            obtain ⟨-, h⟩ := z_gd (z_f h g)
            obtain ⟨x6, e6, h⟩ := z_lt h
            obtain ⟨-, h⟩ := z_gd h
            obtain ⟨-, h⟩ := z_gd h
            obtain ⟨o9, e9, h⟩ := z_lt h
            obtain ⟨z10, ez10, h⟩ := z_bd h
            have r6 : 0 ≤ x6.toInt ∧ x6.toInt ≤ 1 := by rw [e6]; exact i32_and ⟨by decide, by decide⟩
            rw [xor01 r6 ⟨d, d2⟩ ⟨k.1, by omega⟩] at e9
            have q1 : y.1 = x6 := by rw [← Option.some.inj h]; exact grant_ret ez10
            refine Or.inr ⟨⟨f, k⟩, q1.trans e6, ?_⟩
            rw [q1, ← Option.some.inj h]; exact e9
      · have d2 := cv_nle (a := p2.toInt) (b := 1) rfl (by decide) c2
        exact Or.inl ⟨fun q => by omega, h14 (z_f h c2)⟩
-- the tape's size behind row, law, orders
theorem endText_13 {o z : Ob} (e : f_X9_endText o = some z) : gI z 13 = 0 := by
  unfold f_X9_endText at e
  have h19 : ∀ q : Ob, bk_X9_endText_19 q = some z → gI z 13 = 0 := by
    intro q hq
    have hq : some (sI (sI q 20 (0 : Int32)) 13 (0 : Int32)) = some z := hq
    rw [← Option.some.inj hq]; rfl
  by_cases c : gI o 19 = 0
  · have e := z_t e c
    by_cases d : gI o 16 = 0
    · exact h19 _ (z_t e d)
    · obtain ⟨w, -, e⟩ := z_bd (z_f e d)
      exact h19 _ e
  · exact h19 _ (z_f e c)
theorem l145_13 {y : Int32 × Ob} : ∀ (N : Nat) (v1 v2 : Int32) (o : Ob), lp_X9_law_145 N (v1, v2, o) = some y → gI y.2 13 = gI o 13 := by
  intro N
  induction N with
  | zero => intro v1 v2 o h; cases h
  | succ N ih =>
    intro v1 v2 o h
    have h : lb_X9_law_145 (lp_X9_law_145 N) v1 v2 o = some y := h
    unfold lb_X9_law_145 at h
    by_cases c : gI o 23 ≤ v2
    · obtain ⟨o8, e8, h⟩ := z_lt (z_t h c)
      obtain ⟨z, ez, h⟩ := z_bd h
      rw [← Option.some.inj h]; show gI z.2 13 = _
      rw [(tell_3 ez).2.2.2.1, e8]; rfl
    · obtain ⟨-, h⟩ := z_gd (z_f h c)
      obtain ⟨-, h⟩ := z_gd h
      obtain ⟨o12, e12, h⟩ := z_lt h
      obtain ⟨-, h⟩ := z_gd h
      obtain ⟨-, h⟩ := z_gd h
      obtain ⟨o15, e15, h⟩ := z_lt h
      obtain ⟨x16, -, h⟩ := z_lt h
      rw [ih _ _ _ h, e15, e12]; rfl
theorem l110_13 {y : Int32 × Ob} : ∀ (N : Nat) (v1 v2 : Int32) (o : Ob), lp_X9_law_110 N (v1, v2, o) = some y → gI y.2 13 = gI o 13 := by
  intro N
  induction N with
  | zero => intro v1 v2 o h; cases h
  | succ N ih =>
    intro v1 v2 o h
    have h : lb_X9_law_110 (lp_X9_law_110 N) v1 v2 o = some y := h
    unfold lb_X9_law_110 at h
    by_cases c : (8 : Int32) * gI o 21 ≤ v2
    · exact l145_13 _ _ _ _ (z_t h c)
    · obtain ⟨-, h⟩ := z_gd (z_f h c)
      obtain ⟨-, h⟩ := z_gd h
      obtain ⟨o19, e19, h⟩ := z_lt h
      obtain ⟨x20, -, h⟩ := z_lt h
      rw [ih _ _ _ h, e19]; rfl
theorem law64_13 {o : Ob} {y : Int32 × Ob} (h : bk_X9_law_64 o = some y) : gI y.2 13 = 0 := by
  unfold bk_X9_law_64 at h
  obtain ⟨z4, ez4, h⟩ := z_bd h
  have e := endText_13 ez4
  by_cases c : gI z4 19 = 0
  · obtain ⟨x5, -, h⟩ := z_lt (z_t h c)
    obtain ⟨-, h⟩ := z_gd h
    obtain ⟨o7, e7, h⟩ := z_lt h
    rw [l110_13 _ _ _ _ h, e7]; exact e
  · obtain ⟨z, ez, h⟩ := z_bd (z_f h c)
    rw [← Option.some.inj h]; show gI z.2 13 = _
    rw [(tell_3 ez).2.2.2.1]; exact e
theorem l37_13 {y : Int32 × Ob} : ∀ (N : Nat) (o : Ob), lp_X9_law_37 N o = some y → gI y.2 13 = 0 := by
  intro N
  induction N with
  | zero => intro o h; cases h
  | succ N ih =>
    intro o h
    have h : lb_X9_law_37 (lp_X9_law_37 N) o = some y := h
    unfold lb_X9_law_37 at h
    by_cases c : gI o 19 = 0
    · obtain ⟨z22, -, h⟩ := z_bd (z_t h c)
      by_cases d : z22 = 0
      · exact law64_13 (z_t h d)
      · obtain ⟨z23, -, h⟩ := z_bd (z_f h d)
        obtain ⟨z24, -, h⟩ := z_bd h
        exact ih _ h
    · exact law64_13 (z_f h c)
theorem law9_13 {o : Ob} {y : Int32 × Ob} (h : f_X9_law o = some y) : gI y.2 13 = 0 := by
  unfold f_X9_law at h
  obtain ⟨o1, -, h⟩ := z_lt h
  by_cases c : gA o1 3 (2 : Int32).toNatClampNeg = 6
  · obtain ⟨o25, e25, h⟩ := z_lt (z_t h c)
    obtain ⟨z, ez, h⟩ := z_bd h
    rw [← Option.some.inj h]; show gI z.2 13 = _
    rw [(tell_3 ez).2.2.2.1, e25]; rfl
  · obtain ⟨z2, -, h⟩ := z_bd (z_f h c)
    obtain ⟨z3, -, h⟩ := z_bd h
    exact l37_13 _ _ h
theorem l58_13 {y : Int32 × Ob} {rec35 : Int32 × Int32 × Int32 × Ob → Option (Int32 × Ob)} {v1 v2 v3 : Int32} (hrec : ∀ (w2 w3 : Int32) (o' : Ob), rec35 (v1, w2, w3, o') = some y → gI y.2 13 = gI o' 13) : ∀ (N : Nat) (v4 : Int32) (o : Ob), lp_X9_row_58 rec35 N (v1, v2, v3, v4, o) = some y → gI y.2 13 = gI o 13 := by
  intro N
  induction N with
  | zero => intro v4 o h; cases h
  | succ N ih =>
    intro v4 o h
    have h : lb_X9_row_58 rec35 (lp_X9_row_58 rec35 N) v1 v2 v3 v4 o = some y := h
    unfold lb_X9_row_58 at h
    by_cases c : (4 : Int32) ≤ v4
    · obtain ⟨x9, -, h⟩ := z_lt (z_t h c)
      unfold bk_X9_row_116 at h
      obtain ⟨x7, -, h⟩ := z_lt h
      exact hrec _ _ _ h
    · obtain ⟨-, h⟩ := z_gd (z_f h c)
      obtain ⟨-, h⟩ := z_gd h
      obtain ⟨-, h⟩ := z_gd h
      obtain ⟨o13, e13, h⟩ := z_lt h
      obtain ⟨x14, -, h⟩ := z_lt h
      rw [ih _ _ h, e13]; rfl
theorem l35_13 {y : Int32 × Ob} {v1 : Int32} : ∀ (N : Nat) (v2 v3 : Int32) (o : Ob), lp_X9_row_35 N (v1, v2, v3, o) = some y → gI y.2 13 = gI o 13 := by
  intro N
  induction N with
  | zero => intro v2 v3 o h; cases h
  | succ N ih =>
    intro v2 v3 o h
    have h : lb_X9_row_35 (lp_X9_row_35 N) v1 v2 v3 o = some y := h
    unfold lb_X9_row_35 at h
    have h106 : bk_X9_row_106 (lp_X9_row_35 N) v1 v2 v3 o = some y → gI y.2 13 = gI o 13 := by
      intro h
      unfold bk_X9_row_106 at h
      obtain ⟨o6, e6, h⟩ := z_lt h
      unfold bk_X9_row_116 at h
      obtain ⟨x7, -, h⟩ := z_lt h
      rw [ih _ _ _ h, e6]; rfl
    by_cases c : v1 ≤ v3
    · obtain ⟨z, ez, h⟩ := z_bd (z_t h c)
      rw [← Option.some.inj h]; exact (tell_3 ez).2.2.2.1
    · have h := z_f h c
      by_cases d : v1 ≤ v3 + (4 : Int32)
      · exact h106 (z_t h d)
      · obtain ⟨z8, -, h⟩ := z_bd (z_f h d)
        by_cases e : z8 = 0
        · exact h106 (z_t h e)
        · exact l58_13 (fun w2 w3 o' q => ih w2 w3 o' q) _ _ _ (z_f h e)
theorem row9_13 {o : Ob} {y : Int32 × Ob} (h : f_X9_row o = some y) : gI y.2 13 = 0 := by
  unfold f_X9_row at h
  obtain ⟨o1, -, h⟩ := z_lt h
  obtain ⟨x2, -, h⟩ := z_lt h
  obtain ⟨o3, e3, h⟩ := z_lt h
  by_cases c : x2 = 0
  · obtain ⟨z, ez, h⟩ := z_bd (z_t h c)
    rw [← Option.some.inj h]; show gI z.2 13 = _
    rw [(tell_3 ez).2.2.2.1, e3]; rfl
  · obtain ⟨o4, e4, h⟩ := z_lt (z_f h c)
    rw [l35_13 _ _ _ _ h, e4, e3]; rfl
theorem l26_2 {y : Int32 × Ob × Ob × Ob} : ∀ (N : Nat) (v1 v2 : Int32) (o0 o1 o4 : Ob), lp_X8_row_26 N (v1, v2, o0, o1, o4) = some y → gI y.2.2.1 2 = 0 := by
  intro N
  induction N with
  | zero => intro v1 v2 o0 o1 o4 h; cases h
  | succ N ih =>
    intro v1 v2 o0 o1 o4 h
    have h : lb_X8_row_26 (lp_X8_row_26 N) v1 v2 o0 o1 o4 = some y := h
    unfold lb_X8_row_26 at h
    by_cases c : gI o1 2 ≤ v2
    · obtain ⟨o2, e2, h⟩ := z_lt (z_t h c)
      obtain ⟨z, -, h⟩ := z_bd h
      rw [← Option.some.inj h]; show gI o2 2 = _
      rw [e2]; rfl
    · obtain ⟨z4, -, h⟩ := z_bd (z_f h c)
      by_cases d : z4.1 = 0
      · obtain ⟨o5, -, h⟩ := z_lt (z_t h d)
        unfold bk_X8_row_61 at h
        obtain ⟨x6, -, h⟩ := z_lt h
        exact ih _ _ _ _ _ h
      · obtain ⟨x7, -, h⟩ := z_lt (z_f h d)
        unfold bk_X8_row_61 at h
        obtain ⟨x6, -, h⟩ := z_lt h
        exact ih _ _ _ _ _ h
theorem row8_2 {o0 o1 o4 : Ob} {y : Int32 × Ob × Ob × Ob} (h : f_X8_row o0 o1 o4 = some y) : gI y.2.2.1 2 = 0 := by
  unfold f_X8_row at h
  by_cases c : gI o1 2 = 0
  · obtain ⟨z, -, h⟩ := z_bd (z_t h c)
    rw [← Option.some.inj h]; exact c
  · obtain ⟨x, -, h⟩ := z_lt (z_f h c)
    exact l26_2 _ _ _ _ _ _ h
theorem l89_2 {nc ns : Nat} {o4 : Ob} {pl : List CR} {y : Int32 × Ob × Ob × Ob × Ob × Ob × Ob × Ob × Ob × Ob} {r78 : Int32 × Ob × Ob × Ob × Ob × Ob × Ob × Ob × Ob × Ob → Option (Int32 × Ob × Ob × Ob × Ob × Ob × Ob × Ob × Ob × Ob)} (hrec : ∀ x, r78 x = some y → y.2.2.1 = x.2.2.1) : ∀ (N : Nat) (v3 v4 : Int32) (a b c d e f g i k : Ob), lp_X8_orders_89 nc ns o4 pl r78 N (v3, v4, a, b, c, d, e, f, g, i, k) = some y → y.2.2.1 = b := by
  intro N
  induction N with
  | zero => intro v3 v4 a b c d e f g i k h; cases h
  | succ N ih =>
    intro v3 v4 a b c d e f g i k h
    have h : lb_X8_orders_89 nc ns o4 pl r78 (lp_X8_orders_89 nc ns o4 pl r78 N) v3 v4 a b c d e f g i k = some y := h
    unfold lb_X8_orders_89 at h
    obtain ⟨-, h⟩ := z_gd h
    by_cases q : gA c 1 v3.toNatClampNeg ≤ v4
    · obtain ⟨x10, -, h⟩ := z_lt (z_t h q)
      exact hrec _ h
    · obtain ⟨z11, -, h⟩ := z_bd (z_f h q)
      by_cases q2 : z11.1 = 0
      · obtain ⟨o13, -, h⟩ := z_lt (z_t h q2)
        obtain ⟨z14, -, h⟩ := z_bd h
        obtain ⟨z15, -, h⟩ := z_bd h
        obtain ⟨z16, -, h⟩ := z_bd h
        rw [← Option.some.inj h]
      · obtain ⟨x12, -, h⟩ := z_lt (z_f h q2)
        exact ih _ _ _ _ _ _ _ _ _ _ _ h
theorem l78_2 {nc ns : Nat} {o4 : Ob} {pl : List CR} {y : Int32 × Ob × Ob × Ob × Ob × Ob × Ob × Ob × Ob × Ob} : ∀ (N : Nat) (x : Int32 × Ob × Ob × Ob × Ob × Ob × Ob × Ob × Ob × Ob), lp_X8_orders_78 nc ns o4 pl N x = some y → y.2.2.1 = x.2.2.1 := by
  intro N
  induction N with
  | zero => intro x h; cases h
  | succ N ih =>
    intro x h
    obtain ⟨v3, a, b, c, d, e, f, g, i, k⟩ := x
    have h : lb_X8_orders_78 nc ns o4 pl (lp_X8_orders_78 nc ns o4 pl N) v3 a b c d e f g i k = some y := h
    unfold lb_X8_orders_78 at h
    by_cases q : gI c 7 ≤ v3
    · obtain ⟨z8, -, h⟩ := z_bd (z_t h q)
      rw [← Option.some.inj h]
    · exact l89_2 (fun x q => ih x q) _ _ _ _ _ _ _ _ _ _ _ _ (z_f h q)
theorem orders8_2 {nc ns : Nat} {a b c d e f g i k l : Ob} {pl : List CR} {y : Int32 × Ob × Ob × Ob × Ob × Ob × Ob × Ob × Ob × Ob} (h : f_X8_orders nc ns a b c d e f g i k l pl = some y) : gI y.2.2.1 2 = 0 := by
  unfold f_X8_orders at h
  obtain ⟨o1, -, h⟩ := z_lt h
  obtain ⟨z2, -, h⟩ := z_bd h
  obtain ⟨o3, e3, h⟩ := z_lt h
  have k3 : gI o3 2 = 0 := by rw [e3]; rfl
  by_cases q : z2.1 = 0
  · obtain ⟨z17, -, h⟩ := z_bd (z_t h q)
    rw [← Option.some.inj h]; exact k3
  · obtain ⟨z4, -, h⟩ := z_bd (z_f h q)
    obtain ⟨z5, -, h⟩ := z_bd h
    obtain ⟨o6, -, h⟩ := z_lt h
    obtain ⟨o7, -, h⟩ := z_lt h
    have w := l78_2 _ _ h
    rw [w]; exact k3
-- an isles' copy
theorem cpy0 {f g : Nat → Int32} {m : Int32} {n j : Nat} (hm : m.toNatClampNeg = n) (hj : j < n) : va_cpy f g (0 : Int32).toNatClampNeg (0 : Int32).toNatClampNeg m.toNatClampNeg j = f j := by
  unfold va_cpy
  have n0 : (0 : Int32).toNatClampNeg = 0 := by decide
  rw [n0, hm]
  split
  · have e : 0 + (j - 0) = j := by omega
    rw [e]
  · rename_i q
    exact absurd (by omega) q
theorem setO_l {pl : List CR} {a0 a0n : Ob} {y : Ob × Ob} : ∀ (N : Nat) (v2 : Int32) (o on : Ob), lp_X2_set_O_88 pl a0 a0n N (v2, o, on) = some y → gI y.1 7 = gI a0 7 ∧ gI y.1 8 = gI a0 8 ∧ gA y.1 1 = gA o 1 ∧ gA y.1 2 = gA o 2 ∧ gA y.1 3 = gA o 3 := by
  intro N
  induction N with
  | zero => intro v2 o on h; cases h
  | succ N ih =>
    intro v2 o on h
    have h : lb_X2_set_O_88 pl a0 a0n (lp_X2_set_O_88 pl a0 a0n N) v2 o on = some y := h
    unfold lb_X2_set_O_88 at h
    by_cases c : (6 : Int32) ≤ v2
    · obtain ⟨o12, e12, h⟩ := z_lt (z_t h c)
      obtain ⟨o13, e13, h⟩ := z_lt h
      obtain ⟨o14, e14, h⟩ := z_lt h
      obtain ⟨o15, e15, h⟩ := z_lt h
      obtain ⟨o16, e16, h⟩ := z_lt h
      obtain ⟨o17, e17, h⟩ := z_lt h
      rw [← Option.some.inj h, e17, e16, e15, e14, e13, e12]
      exact ⟨rfl, rfl, rfl, rfl, rfl⟩
    · obtain ⟨-, h⟩ := z_gd (z_f h c)
      obtain ⟨-, h⟩ := z_gd h
      obtain ⟨-, h⟩ := z_gd h
      obtain ⟨o21, e21, h⟩ := z_lt h
      obtain ⟨x22, -, h⟩ := z_lt h
      have w := ih _ _ _ h
      rw [e21] at w
      exact w
theorem setO_i {pl : List CR} {o on a0 a0n : Ob} {y : Ob × Ob} (h : f_X2_set_O o on pl a0 a0n = some y) : gI y.1 7 = gI a0 7 ∧ gI y.1 8 = gI a0 8 ∧ (∀ j, j < 7 → gA y.1 1 j = gA a0 1 j) ∧ (∀ j, j < 28 → gA y.1 2 j = gA a0 2 j) ∧ (∀ j, j < 7 → gA y.1 3 j = gA a0 3 j) := by
  unfold f_X2_set_O at h
  obtain ⟨z1, -, h⟩ := z_bd h
  obtain ⟨-, h⟩ := z_gd h
  obtain ⟨o3, e3, h⟩ := z_lt h
  obtain ⟨-, h⟩ := z_gd h
  obtain ⟨o5, e5, h⟩ := z_lt h
  obtain ⟨-, h⟩ := z_gd h
  obtain ⟨o7, e7, h⟩ := z_lt h
  obtain ⟨-, h⟩ := z_gd h
  obtain ⟨o9, e9, h⟩ := z_lt h
  obtain ⟨-, h⟩ := z_gd h
  obtain ⟨o11, e11, h⟩ := z_lt h
  obtain ⟨a, b, c, d, e⟩ := setO_l _ _ _ _ h
  have k1 : gA o11 1 = va_cpy (gA a0 1) (gA o 1) (0 : Int32).toNatClampNeg (0 : Int32).toNatClampNeg (7 : Int32).toNatClampNeg := by rw [e11, e9, e7, e5, e3]; rfl
  have k2 : gA o11 2 = va_cpy (gA a0 2) (gA o 2) (0 : Int32).toNatClampNeg (0 : Int32).toNatClampNeg (28 : Int32).toNatClampNeg := by rw [e11, e9, e7, e5, e3]; rfl
  have k3 : gA o11 3 = va_cpy (gA a0 3) (gA o 3) (0 : Int32).toNatClampNeg (0 : Int32).toNatClampNeg (7 : Int32).toNatClampNeg := by rw [e11, e9, e7, e5, e3]; rfl
  refine ⟨a, b, fun j hj => ?_, fun j hj => ?_, fun j hj => ?_⟩
  · rw [c, k1]; exact cpy0 (n := 7) (by decide) hj
  · rw [d, k2]; exact cpy0 (n := 28) (by decide) hj
  · rw [e, k3]; exact cpy0 (n := 7) (by decide) hj
-- images of the reference
theorem l9_img4 {y : Int32 × Ob} {v1 : Int32} {k : Nat} (e1 : v1.toInt = (k : Int)) (hk : k < 2) : ∀ (N : Nat) (v2 : Int32) (o : Ob) (n : Nat), v2.toInt = (n : Int) → n ≤ 5484 → lp_X9_image_23 N (v1, v2, o) = some y →
    (∀ i, n ≤ i → i < 5484 → gA y.2 4 (5484 * k + i) = gA o 3 i) ∧ (∀ j, j < 5484 * k + n ∨ 5484 * k + 5484 ≤ j → gA y.2 4 j = gA o 4 j) ∧ gA y.2 3 = gA o 3 ∧ (∀ j, gA y.2 5 j = if j = k then 1 else gA o 5 j) := by
  intro N
  induction N with
  | zero => intro v2 o n _ _ h; cases h
  | succ N ih =>
    intro v2 o n e2 hn h
    have h : lb_X9_image_23 (lp_X9_image_23 N) v1 v2 o = some y := h
    unfold lb_X9_image_23 at h
    by_cases c : (5484 : Int32) ≤ v2
    · have d := cv_le (a := 5484) (b := (n : Int)) (by decide) e2 c
      obtain ⟨-, h⟩ := z_gd (z_t h c)
      obtain ⟨o4, e4, h⟩ := z_lt h
      obtain ⟨z, ez, h⟩ := z_bd h
      have i1 : v1.toNatClampNeg = k := tnc_eq e1
      rw [i1] at e4
      obtain ⟨-, t3, t4, -, t5⟩ := tell_3 ez
      rw [← Option.some.inj h]
      refine ⟨fun i a b => by omega, fun j _ => ?_, ?_, fun j => ?_⟩
      · show gA z.2 4 j = _
        rw [t4, e4]; rfl
      · show gA z.2 3 = _
        rw [t3, e4]; rfl
      · show gA z.2 5 j = _
        rw [t5, e4]; rfl
    · have d := cv_nle (a := 5484) (b := (n : Int)) (by decide) e2 c
      obtain ⟨-, h⟩ := z_gd (z_f h c)
      obtain ⟨-, h⟩ := z_gd h
      obtain ⟨o8, e8, h⟩ := z_lt h
      obtain ⟨x9, e9, h⟩ := z_lt h
      have m1 : ((5484 : Int32) * v1).toInt = 5484 * (k : Int) := i32_mul (by decide) e1 (by omega) (by omega)
      have m2 : (((5484 : Int32) * v1) + v2).toInt = 5484 * (k : Int) + (n : Int) := i32_add m1 e2 (by omega) (by omega)
      have n1 : (((5484 : Int32) * v1) + v2).toNatClampNeg = 5484 * k + n := tnc_eq (by omega)
      have n2 : v2.toNatClampNeg = n := tnc_eq e2
      rw [n1, n2] at e8
      have t9 : x9.toInt = (n : Int) + 1 := by rw [e9]; exact i32_add e2 (by decide) (by omega) (by omega)
      obtain ⟨a, b, c3, c5⟩ := ih x9 o8 (n + 1) (by omega) (by omega) h
      have k3 : gA o8 3 = gA o 3 := by rw [e8]; rfl
      have k5 : gA o8 5 = gA o 5 := by rw [e8]; rfl
      have k4 : ∀ j, gA o8 4 j = if j = 5484 * k + n then gA o 3 n else gA o 4 j := by
        intro j
        rw [e8]; rfl
      refine ⟨fun i g1 g2 => ?_, fun j hj => ?_, c3.trans k3, fun j => by rw [c5 j, k5]⟩
      · by_cases q : i = n
        · rw [b _ (by omega), k4, if_pos (by omega), q]
        · rw [a i (by omega) g2, k3]
      · rw [b j (by omega), k4, if_neg (by omega)]
theorem image9 {o : Ob} {p : Int32} {y : Int32 × Ob} {k : Nat} (h : f_X9_image o p = some y) (ek : p.toInt = (k : Int)) (hk : k < 2) :
    (∀ i, i < 5484 → gA y.2 4 (5484 * k + i) = gA o 3 i) ∧ (∀ j, j < 5484 * k ∨ 5484 * k + 5484 ≤ j → gA y.2 4 j = gA o 4 j) ∧ gA y.2 3 = gA o 3 ∧ (∀ j, gA y.2 5 j = if j = k then 1 else gA o 5 j) := by
  unfold f_X9_image at h
  obtain ⟨o1, eo1, h⟩ := z_lt h
  obtain ⟨z2, ez2, h⟩ := z_bd h
  rcases in9 (m := 0) (n := 1) (by decide) (by decide) ez2 with ⟨a, b⟩ | ⟨a, b⟩
  · exact absurd ⟨by omega, by omega⟩ b
  · obtain ⟨c1, c2, c3, c5⟩ := l9_img4 ek hk _ _ _ 0 (by decide) (by decide) (z_f h a)
    have k3 : gA o1 3 = gA o 3 := by rw [eo1]; rfl
    have k4 : gA o1 4 = gA o 4 := by rw [eo1]; rfl
    have k5 : gA o1 5 = gA o 5 := by rw [eo1]; rfl
    rw [k3] at c1 c3
    rw [k4] at c2
    rw [k5] at c5
    exact ⟨fun i hi => c1 i (Nat.zero_le _) hi, fun j hj => c2 j (by omega), c3, c5⟩
theorem image9n {o : Ob} {p : Int32} {y : Int32 × Ob} (h : f_X9_image o p = some y) (hn : ¬ (0 ≤ p.toInt ∧ p.toInt ≤ 1)) : gA y.2 3 = gA o 3 ∧ gA y.2 4 = gA o 4 ∧ gA y.2 5 = gA o 5 := by
  unfold f_X9_image at h
  obtain ⟨o1, eo1, h⟩ := z_lt h
  obtain ⟨z2, ez2, h⟩ := z_bd h
  rcases in9 (m := 0) (n := 1) (by decide) (by decide) ez2 with ⟨a, b⟩ | ⟨a, b⟩
  · obtain ⟨z, ez, h⟩ := z_bd (z_t h a)
    obtain ⟨-, t3, t4, -, t5⟩ := tell_3 ez
    rw [← Option.some.inj h]
    refine ⟨?_, ?_, ?_⟩
    · show gA z.2 3 = _
      rw [t3, eo1]; rfl
    · show gA z.2 4 = _
      rw [t4, eo1]; rfl
    · show gA z.2 5 = _
      rw [t5, eo1]; rfl
  · exact absurd b hn
theorem l9_bck3 {y : Int32 × Ob} {v1 : Int32} {k : Nat} (e1 : v1.toInt = (k : Int)) (hk : k < 2) : ∀ (N : Nat) (v2 : Int32) (o : Ob) (n : Nat), v2.toInt = (n : Int) → n ≤ 5484 → lp_X9_back_39 N (v1, v2, o) = some y →
    (∀ i, n ≤ i → i < 5484 → gA y.2 3 i = gA o 4 (5484 * k + i)) ∧ (∀ i, i < n → gA y.2 3 i = gA o 3 i) ∧ gA y.2 4 = gA o 4 ∧ gA y.2 5 = gA o 5 := by
  intro N
  induction N with
  | zero => intro v2 o n _ _ h; cases h
  | succ N ih =>
    intro v2 o n e2 hn h
    have h : lb_X9_back_39 (lp_X9_back_39 N) v1 v2 o = some y := h
    unfold lb_X9_back_39 at h
    by_cases c : (5484 : Int32) ≤ v2
    · have d := cv_le (a := 5484) (b := (n : Int)) (by decide) e2 c
      obtain ⟨z, ez, h⟩ := z_bd (z_t h c)
      obtain ⟨-, t3, t4, t5⟩ := settled_3 ez
      rw [← Option.some.inj h]
      exact ⟨fun i a b => by omega, fun i _ => congrFun t3 i, t4, t5⟩
    · have d := cv_nle (a := 5484) (b := (n : Int)) (by decide) e2 c
      obtain ⟨-, h⟩ := z_gd (z_f h c)
      obtain ⟨-, h⟩ := z_gd h
      obtain ⟨o7, e7, h⟩ := z_lt h
      obtain ⟨x8, e8, h⟩ := z_lt h
      have m1 : ((5484 : Int32) * v1).toInt = 5484 * (k : Int) := i32_mul (by decide) e1 (by omega) (by omega)
      have m2 : (((5484 : Int32) * v1) + v2).toInt = 5484 * (k : Int) + (n : Int) := i32_add m1 e2 (by omega) (by omega)
      have n1 : (((5484 : Int32) * v1) + v2).toNatClampNeg = 5484 * k + n := tnc_eq (by omega)
      have n2 : v2.toNatClampNeg = n := tnc_eq e2
      rw [n1, n2] at e7
      have t8 : x8.toInt = (n : Int) + 1 := by rw [e8]; exact i32_add e2 (by decide) (by omega) (by omega)
      obtain ⟨a, b, c4, c5⟩ := ih x8 o7 (n + 1) (by omega) (by omega) h
      have k4 : gA o7 4 = gA o 4 := by rw [e7]; rfl
      have k5 : gA o7 5 = gA o 5 := by rw [e7]; rfl
      refine ⟨fun i g1 g2 => ?_, fun i hi => ?_, c4.trans k4, c5.trans k5⟩
      · by_cases q : i = n
        · rw [b i (by omega), e7, t3_at, if_pos q, q]
        · rw [a i (by omega) g2, k4]
      · rw [b i (by omega), e7, t3_at, if_neg (by omega)]
theorem back9 {o : Ob} {p : Int32} {y : Int32 × Ob} {k : Nat} (h : f_X9_back o p = some y) (ek : p.toInt = (k : Int)) (hk : k < 2) (hb : ¬ gA o 5 k = 0) : (∀ i, i < 5484 → gA y.2 3 i = gA o 4 (5484 * k + i)) ∧ gA y.2 4 = gA o 4 ∧ gA y.2 5 = gA o 5 := by
  unfold f_X9_back at h
  obtain ⟨o1, eo1, h⟩ := z_lt h
  obtain ⟨z2, ez2, h⟩ := z_bd h
  have k4 : gA o1 4 = gA o 4 := by rw [eo1]; rfl
  have k5 : gA o1 5 = gA o 5 := by rw [eo1]; rfl
  have ik : p.toNatClampNeg = k := tnc_eq ek
  rcases in9 (m := 0) (n := 1) (by decide) (by decide) ez2 with ⟨a, b⟩ | ⟨a, b⟩
  · exact absurd ⟨by omega, by omega⟩ b
  · obtain ⟨-, h⟩ := z_gd (z_f h a)
    obtain ⟨c1, c2, c4, c5⟩ := l9_bck3 ek hk _ _ _ 0 (by decide) (by decide) (z_f h (by rw [k5, ik]; exact hb))
    rw [k4] at c1 c4
    exact ⟨fun i hi => c1 i (Nat.zero_le _) hi, c4, c5.trans k5⟩
theorem back9n {o : Ob} {p : Int32} {y : Int32 × Ob} (h : f_X9_back o p = some y) (hn : ¬ (0 ≤ p.toInt ∧ p.toInt ≤ 1) ∨ gA o 5 p.toNatClampNeg = 0) : gA y.2 3 = gA o 3 ∧ gA y.2 4 = gA o 4 ∧ gA y.2 5 = gA o 5 := by
  unfold f_X9_back at h
  obtain ⟨o1, eo1, h⟩ := z_lt h
  obtain ⟨z2, ez2, h⟩ := z_bd h
  have hb : ∀ v : Int32, ((f_X9_tell o1 v).bind fun z => some (z.1, z.2)) = some y → gA y.2 3 = gA o 3 ∧ gA y.2 4 = gA o 4 ∧ gA y.2 5 = gA o 5 := by
    intro v h
    obtain ⟨z, ez, h⟩ := z_bd h
    obtain ⟨-, t3, t4, -, t5⟩ := tell_3 ez
    rw [← Option.some.inj h]
    refine ⟨?_, ?_, ?_⟩
    · show gA z.2 3 = _
      rw [t3, eo1]; rfl
    · show gA z.2 4 = _
      rw [t4, eo1]; rfl
    · show gA z.2 5 = _
      rw [t5, eo1]; rfl
  rcases in9 (m := 0) (n := 1) (by decide) (by decide) ez2 with ⟨a, b⟩ | ⟨a, b⟩
  · exact hb _ (z_t h a)
  · obtain ⟨-, h⟩ := z_gd (z_f h a)
    rcases hn with q | q
    · exact absurd b q
    · have k5 : gA o1 5 = gA o 5 := by rw [eo1]; rfl
      exact hb _ (z_t h (by rw [k5]; exact q))
theorem lawb_i {pl9 : List CR} {o8 o4 : Ob} {r : Option Nat} {y : Int32 × Ob × Ob} (h : f_X8_law_b pl9 o8 o4 r = some y) : gI y.2.2 7 = gI o4 7 ∧ gI y.2.2 8 = gI o4 8 ∧ gA y.2.2 1 = gA o4 1 ∧ gA y.2.2 3 = gA o4 3 := by
  unfold f_X8_law_b at h
  obtain ⟨z3, ez3, h⟩ := z_bd h
  obtain ⟨z4, -, h⟩ := z_bd h
  have w : gI z3.2 7 = gI o4 7 ∧ gI z3.2 8 = gI o4 8 ∧ gA z3.2 1 = gA o4 1 ∧ gA z3.2 3 = gA o4 3 := by
    unfold f_X2_addLaw_Q at ez3
    by_cases c : gI o4 9 < (6 : Int32)
    · obtain ⟨-, ez3⟩ := z_gd (z_t ez3 c)
      obtain ⟨-, ez3⟩ := z_gd ez3
      obtain ⟨o3, e3, ez3⟩ := z_lt ez3
      obtain ⟨o4', e4, ez3⟩ := z_lt ez3
      rw [← Option.some.inj ez3, e4, e3]; exact ⟨rfl, rfl, rfl, rfl⟩
    · rw [← Option.some.inj (z_f ez3 c)]; exact ⟨rfl, rfl, rfl, rfl⟩
  rw [← Option.some.inj h]; exact w
-- strength
theorem strength9 {o : Ob} {p0 p1 p2 : Int32} {y : Int32 × Ob} {n : Nat} (en : (gA o 3 0).toInt = (n : Int)) (hn : n ≤ 7) (h : f_X9_strength o p0 p1 p2 = some y) :
    (¬ ((0 ≤ p1.toInt ∧ p1.toInt < 4) ∧ 0 ≤ p2.toInt ∧ p2.toInt ≤ 9) ∧ y.1 = -1 ∧ gA y.2 3 = gA o 3) ∨
    (((0 ≤ p1.toInt ∧ p1.toInt < 4) ∧ 0 ≤ p2.toInt ∧ p2.toInt ≤ 9) ∧ ((¬ (0 ≤ p0.toInt ∧ p0.toInt < (n : Int)) ∧ y.1 = -2 ∧ gA y.2 3 = gA o 3) ∨
      ((0 ≤ p0.toInt ∧ p0.toInt < (n : Int)) ∧ y.1 = gA o 3 (36 + (4 * p0.toNatClampNeg + p1.toNatClampNeg)) ∧ ∀ j, gA y.2 3 j = if j = 36 + (4 * p0.toNatClampNeg + p1.toNatClampNeg) then p2 else gA o 3 j))) := by
  unfold f_X9_strength at h
  obtain ⟨o1, eo1, h⟩ := z_lt h
  have g1 : gA o1 3 = gA o 3 := by rw [eo1]; rfl
  have h24 : bk_X9_strength_24 o1 = some y → y.1 = -1 ∧ gA y.2 3 = gA o 3 := by
    intro h
    unfold bk_X9_strength_24 at h
    obtain ⟨z, ez, h⟩ := z_bd h
    rw [← Option.some.inj h, ← g1]; exact ⟨(tell_3 ez).1, (tell_3 ez).2.1⟩
  obtain ⟨z2, ez2, h⟩ := z_bd h
  rcases isR9 ez2 with ⟨a, b⟩ | ⟨a, b⟩
  · exact Or.inl ⟨fun q => b q.1, h24 (z_t h a)⟩
  · obtain ⟨z4, ez4, h⟩ := z_bd (z_f h a)
    rcases in9 (m := 0) (n := 9) (by decide) (by decide) ez4 with ⟨c, d⟩ | ⟨c, d⟩
    · exact Or.inl ⟨fun q => d q.2, h24 (z_t h c)⟩
    · refine Or.inr ⟨⟨b, d⟩, ?_⟩
      obtain ⟨z5, ez5, h⟩ := z_bd (z_f h c)
      rcases isP9 ez5 (by rw [g1]; omega) with ⟨e, f⟩ | ⟨e, f⟩
      · rw [g1, en] at f
        obtain ⟨z, ez, h⟩ := z_bd (z_t h e)
        refine Or.inl ⟨f, ?_⟩
        rw [← Option.some.inj h, ← g1]; exact ⟨(tell_3 ez).1, (tell_3 ez).2.1⟩
      · rw [g1, en] at f
        obtain ⟨z7, ez7, h⟩ := z_bd (z_f h e)
        refine Or.inr ⟨f, ?_⟩
        have ec : p0.toNatClampNeg = p0.toInt.toNat := rfl
        have ed : p1.toNatClampNeg = p1.toInt.toNat := rfl
        have m1 : ((4 : Int32) * p0).toInt = 4 * p0.toInt := i32_mul (by decide) rfl (by omega) (by omega)
        have m2 : ((36 : Int32) + ((4 : Int32) * p0)).toInt = 36 + 4 * p0.toInt := i32_add (by decide) m1 (by omega) (by omega)
        have m3 : (((36 : Int32) + ((4 : Int32) * p0)) + p1).toInt = 36 + 4 * p0.toInt + p1.toInt := i32_add m2 rfl (by omega) (by omega)
        have i3 : (((36 : Int32) + ((4 : Int32) * p0)) + p1).toNatClampNeg = 36 + (4 * p0.toNatClampNeg + p1.toNatClampNeg) := tnc_eq (by rw [m3, ec, ed]; omega)
        unfold f_X9_change at ez7
        obtain ⟨-, ez7⟩ := z_gd ez7
        obtain ⟨x2, e2, ez7⟩ := z_lt ez7
        obtain ⟨-, ez7⟩ := z_gd ez7
        obtain ⟨o4, e4, ez7⟩ := z_lt ez7
        obtain ⟨o5, e5, ez7⟩ := z_lt ez7
        rw [i3] at e2 e4
        have ez7 := Option.some.inj ez7
        rw [← Option.some.inj h, ← ez7]
        refine ⟨by rw [e2, g1], fun j => ?_⟩
        show gA o5 3 j = _
        rw [e5]; show gA o4 3 j = _
        rw [e4, t3_at, g1]
theorem strength8 {o0 o4 : Ob} {p0 p1 p2 : Int32} {y : Int32 × Ob × Ob} {n : Nat} (en : (gI o4 7).toInt = (n : Int)) (hn : n ≤ 7) (h : f_X8_strength o0 o4 p0 p1 p2 = some y) :
    (¬ ((0 ≤ p1.toInt ∧ p1.toInt < 4) ∧ 0 ≤ p2.toInt ∧ p2.toInt ≤ 9) ∧ y.1 = -1 ∧ y.2.2 = o4) ∨
    (((0 ≤ p1.toInt ∧ p1.toInt < 4) ∧ 0 ≤ p2.toInt ∧ p2.toInt ≤ 9) ∧ ((¬ (0 ≤ p0.toInt ∧ p0.toInt < (n : Int)) ∧ y.1 = -2 ∧ y.2.2 = o4) ∨
      ((0 ≤ p0.toInt ∧ p0.toInt < (n : Int)) ∧ y.1 = gA o4 2 (4 * p0.toNatClampNeg + p1.toNatClampNeg) ∧ y.2.2 = tA o4 2 (4 * p0.toNatClampNeg + p1.toNatClampNeg) p2))) := by
  unfold f_X8_strength at h
  have h17 : bk_X8_strength_17 o0 o4 = some y → y.1 = -1 ∧ y.2.2 = o4 := by
    intro h
    unfold bk_X8_strength_17 at h
    obtain ⟨z, ez, h⟩ := z_bd h
    rw [← Option.some.inj h]; exact ⟨refuse_ret ez, rfl⟩
  obtain ⟨z1, ez1, h⟩ := z_bd h
  rcases isR8 ez1 with ⟨a, b⟩ | ⟨a, b⟩
  · exact Or.inl ⟨fun q => b q.1, h17 (z_t h a)⟩
  · have h := z_f h a
    by_cases c1 : p2 < (0 : Int32)
    · have d := cv_lt (a := p2.toInt) (b := 0) rfl (by decide) c1
      exact Or.inl ⟨fun q => by omega, h17 (z_t h c1)⟩
    · have h := z_f h c1
      have d := cv_nlt (a := p2.toInt) (b := 0) rfl (by decide) c1
      by_cases c2 : p2 ≤ (9 : Int32)
      · have d2 := cv_le (a := p2.toInt) (b := 9) rfl (by decide) c2
        refine Or.inr ⟨⟨b, d, d2⟩, ?_⟩
        obtain ⟨z3, ez3, h⟩ := z_bd (z_t h c2)
        rcases isP2 ez3 with ⟨e, f⟩ | ⟨e, f⟩
        · rw [en] at f
          obtain ⟨z10, ez10, h⟩ := z_bd (z_t h e)
          refine Or.inl ⟨f, ?_⟩
          rw [← Option.some.inj h]; exact ⟨refuse_ret ez10, rfl⟩
        · rw [en] at f
          obtain ⟨x4, e4, h⟩ := z_lt (z_f h e)
          obtain ⟨-, h⟩ := z_gd h
          obtain ⟨x6, e6, h⟩ := z_lt h
          obtain ⟨-, h⟩ := z_gd h
          obtain ⟨o8, e8, h⟩ := z_lt h
          obtain ⟨z9, ez9, h⟩ := z_bd h
          have ec : p0.toNatClampNeg = p0.toInt.toNat := rfl
          have ed : p1.toNatClampNeg = p1.toInt.toNat := rfl
          have m1 : (p0 * (4 : Int32)).toInt = p0.toInt * 4 := i32_mul rfl (by decide) (by omega) (by omega)
          have m2 : ((p0 * (4 : Int32)) + p1).toInt = p0.toInt * 4 + p1.toInt := i32_add m1 rfl (by omega) (by omega)
          have i4 : x4.toNatClampNeg = 4 * p0.toNatClampNeg + p1.toNatClampNeg := by
            rw [e4]; exact tnc_eq (by rw [m2, ec, ed]; omega)
          rw [i4] at e6 e8
          refine Or.inr ⟨f, ?_, ?_⟩
          · rw [← Option.some.inj h]; show z9.1 = _
            rw [grant_ret ez9]; exact e6
          · rw [← Option.some.inj h]; exact e8
      · have d2 := cv_nle (a := p2.toInt) (b := 9) rfl (by decide) c2
        exact Or.inl ⟨fun q => by omega, h17 (z_f h c2)⟩
-- rows on the tape
theorem byte8 {o : Ob} {p z : Int32} {k : Nat} (ek : p.toInt = (k : Int)) (hs : 0 ≤ (gI o 2).toInt ∧ (gI o 2).toInt ≤ 400) (h : f_X6_byteAt o p = some z) : ((k : Int) < (gI o 2).toInt ∧ z = gA o 0 k) ∨ ((gI o 2).toInt ≤ (k : Int) ∧ z = -1) := by
  unfold f_X6_byteAt at h
  have h := z_f h (fun q => by have q := cv_lt (a := (k : Int)) (b := 0) ek (by decide) q; omega)
  by_cases c : gI o 2 ≤ p
  · have d := cv_le (a := (gI o 2).toInt) (b := (k : Int)) rfl ek c
    exact Or.inr ⟨d, (Option.some.inj (z_t h c)).symm⟩
  · have d := cv_nle (a := (gI o 2).toInt) (b := (k : Int)) rfl ek c
    have h := z_f (z_f h c) (fun q => by have q := cv_le (a := 400) (b := (k : Int)) (by decide) ek q; omega)
    obtain ⟨-, h⟩ := z_gd h
    have ik : p.toNatClampNeg = k := tnc_eq ek
    rw [ik] at h
    exact Or.inl ⟨d, (Option.some.inj h).symm⟩
def BG (t : Nat → Int32) (sz : Int) (k i : Nat) : Prop := ((k + 1 + i : Nat) : Int) < sz ∧ 0 ≤ (t (k + 1 + i)).toInt ∧ (t (k + 1 + i)).toInt ≤ 9
theorem l24_8 {o0 o1 is : Ob} {v1 v2 : Int32} {k : Nat} {z : Int32 × Ob} (ek : v1.toInt = (k : Int)) (hk : k ≤ 400) (hs : 0 ≤ (gI o1 2).toInt ∧ (gI o1 2).toInt ≤ 400) : ∀ (N : Nat) (v3 : Int32) (r : Nat), v3.toInt = (r : Int) → r ≤ 4 → lp_X8_tellRow_24 o0 o1 N (v1, v2, v3, is) = some z →
    (z.1 = 0 ∧ z.2 = is ∧ ∃ i, r ≤ i ∧ i < 4 ∧ ¬ BG (gA o1 0) (gI o1 2).toInt k i) ∨ ((∀ i, r ≤ i → i < 4 → BG (gA o1 0) (gI o1 2).toInt k i) ∧ lp_X8_tellRow_65 o0 o1 zfu (v1, v2, 0, is) = some z) := by
  intro N
  induction N with
  | zero => intro v3 r _ _ h; cases h
  | succ N ih =>
    intro v3 r er hr h
    have h : lb_X8_tellRow_24 o0 o1 (lp_X8_tellRow_24 o0 o1 N) v1 v2 v3 is = some z := h
    unfold lb_X8_tellRow_24 at h
    by_cases c : (4 : Int32) ≤ v3
    · have d := cv_le (a := 4) (b := (r : Int)) (by decide) er c
      exact Or.inr ⟨fun i a b => by omega, z_t h c⟩
    · have d := cv_nle (a := 4) (b := (r : Int)) (by decide) er c
      obtain ⟨z7, ez7, h⟩ := z_bd (z_f h c)
      have m1 : (v1 + (1 : Int32)).toInt = (k : Int) + 1 := i32_add ek (by decide) (by omega) (by omega)
      have m2 : ((v1 + (1 : Int32)) + v3).toInt = ((k + 1 + r : Nat) : Int) := by
        have := i32_add m1 er (by omega) (by omega)
        omega
      by_cases c1 : z7 < (0 : Int32)
      · have d1 := cv_lt (a := z7.toInt) (b := 0) rfl (by decide) c1
        have h := Option.some.inj (z_t h c1)
        refine Or.inl ⟨by rw [← h], by rw [← h], r, Nat.le_refl _, by omega, fun q => ?_⟩
        rcases byte8 m2 hs ez7 with ⟨a, b⟩ | ⟨a, b⟩
        · rw [b] at d1
          have := q.2.1
          omega
        · have := q.1
          omega
      · have h := z_f h c1
        have d1 := cv_nlt (a := z7.toInt) (b := 0) rfl (by decide) c1
        by_cases c2 : z7 ≤ (9 : Int32)
        · have d2 := cv_le (a := z7.toInt) (b := 9) rfl (by decide) c2
          obtain ⟨x8, e8, h⟩ := z_lt (z_t h c2)
          have t8 : x8.toInt = (r : Int) + 1 := by rw [e8]; exact i32_add er (by decide) (by omega) (by omega)
          have hb : BG (gA o1 0) (gI o1 2).toInt k r := by
            rcases byte8 m2 hs ez7 with ⟨a, b⟩ | ⟨a, b⟩
            · rw [b] at d1 d2
              exact ⟨a, d1, d2⟩
            · rw [b] at d1
              exact absurd d1 (by decide)
          rcases ih x8 (r + 1) (by omega) (by omega) h with ⟨a, b, i, q1, q2, q3⟩ | ⟨a, b⟩
          · exact Or.inl ⟨a, b, i, by omega, q2, q3⟩
          · refine Or.inr ⟨fun i q1 q2 => ?_, b⟩
            by_cases q : i = r
            · rw [q]; exact hb
            · exact a i (by omega) q2
        · have d2 := cv_nle (a := z7.toInt) (b := 9) rfl (by decide) c2
          have h := Option.some.inj (z_f h c2)
          refine Or.inl ⟨by rw [← h], by rw [← h], r, Nat.le_refl _, by omega, fun q => ?_⟩
          rcases byte8 m2 hs ez7 with ⟨a, b⟩ | ⟨a, b⟩
          · rw [b] at d2
            have := q.2.2
            omega
          · have := q.1
            omega
theorem l65_8 {o0 o1 : Ob} {v1 v2 : Int32} {k a : Nat} {z : Int32 × Ob} (ek : v1.toInt = (k : Int)) (hk : k ≤ 400) (ea : v2.toInt = (a : Int)) (ha : a < 7) (hs : 0 ≤ (gI o1 2).toInt ∧ (gI o1 2).toInt ≤ 400) (hB : ∀ i, i < 4 → BG (gA o1 0) (gI o1 2).toInt k i) : ∀ (N : Nat) (v3 : Int32) (r : Nat) (is : Ob), v3.toInt = (r : Int) → r ≤ 4 → lp_X8_tellRow_65 o0 o1 N (v1, v2, v3, is) = some z →
    z.1 = 1 ∧ gI z.2 7 = gI is 7 ∧ gI z.2 8 = gI is 8 ∧ gA z.2 1 = gA is 1 ∧ gA z.2 3 = gA is 3 ∧ ∀ j, gA z.2 2 j = if 4 * a + r ≤ j ∧ j < 4 * a + 4 then gA o1 0 (k + 1 + (j - 4 * a)) else gA is 2 j := by
  intro N
  induction N with
  | zero => intro v3 r is _ _ h; cases h
  | succ N ih =>
    intro v3 r is er hr h
    have h : lb_X8_tellRow_65 o0 o1 (lp_X8_tellRow_65 o0 o1 N) v1 v2 v3 is = some z := h
    unfold lb_X8_tellRow_65 at h
    by_cases c : (4 : Int32) ≤ v3
    · have d := cv_le (a := 4) (b := (r : Int)) (by decide) er c
      have h := Option.some.inj (z_t h c)
      rw [← h]
      exact ⟨rfl, rfl, rfl, rfl, rfl, fun j => by rw [if_neg (by omega)]⟩
    · have d := cv_nle (a := 4) (b := (r : Int)) (by decide) er c
      obtain ⟨z3, ez3, h⟩ := z_bd (z_f h c)
      obtain ⟨-, h⟩ := z_gd h
      obtain ⟨o5, e5, h⟩ := z_lt h
      obtain ⟨x6, e6, h⟩ := z_lt h
      have m1 : (v1 + (1 : Int32)).toInt = (k : Int) + 1 := i32_add ek (by decide) (by omega) (by omega)
      have m2 : ((v1 + (1 : Int32)) + v3).toInt = ((k + 1 + r : Nat) : Int) := by
        have := i32_add m1 er (by omega) (by omega)
        omega
      have ez : z3 = gA o1 0 (k + 1 + r) := by
        rcases byte8 m2 hs ez3 with ⟨a, b⟩ | ⟨a, b⟩
        · exact b
        · have := (hB r (by omega)).1
          omega
      have m3 : (v2 * (4 : Int32)).toInt = (a : Int) * 4 := i32_mul ea (by decide) (by omega) (by omega)
      have m4 : ((v2 * (4 : Int32)) + v3).toInt = (a : Int) * 4 + (r : Int) := i32_add m3 er (by omega) (by omega)
      have i4 : ((v2 * (4 : Int32)) + v3).toNatClampNeg = 4 * a + r := tnc_eq (by omega)
      rw [i4, ez] at e5
      have t6 : x6.toInt = (r : Int) + 1 := by rw [e6]; exact i32_add er (by decide) (by omega) (by omega)
      obtain ⟨b1, b2, b3, b4, b5, b6⟩ := ih x6 (r + 1) o5 (by omega) (by omega) h
      have k2 : ∀ j, gA o5 2 j = if j = 4 * a + r then gA o1 0 (k + 1 + r) else gA is 2 j := fun j => by rw [e5]; rfl
      refine ⟨b1, by rw [b2, e5]; rfl, by rw [b3, e5]; rfl, by rw [b4, e5]; rfl, by rw [b5, e5]; rfl, fun j => ?_⟩
      rw [b6 j, k2 j]
      by_cases q : 4 * a + (r + 1) ≤ j ∧ j < 4 * a + 4
      · rw [if_pos q, if_pos ⟨by omega, by omega⟩]
      · rw [if_neg q]
        by_cases q2 : j = 4 * a + r
        · have e : j - 4 * a = r := by omega
          rw [if_pos q2, if_pos ⟨by omega, by omega⟩, e]
        · rw [if_neg q2, if_neg (by omega)]
theorem tellRow8 {o0 o1 is : Ob} {p : Int32} {k : Nat} {z : Int32 × Ob} (ek : p.toInt = (k : Int)) (hk : (k : Int) < (gI o1 2).toInt) (hs : 0 ≤ (gI o1 2).toInt ∧ (gI o1 2).toInt ≤ 400) (hp : 0 ≤ (gI is 7).toInt ∧ (gI is 7).toInt ≤ 7) (h : f_X8_tellRow o0 o1 is p = some z) :
    (z.1 = 0 ∧ z.2 = is ∧ ¬ ((0 ≤ (gA o1 0 k).toInt ∧ (gA o1 0 k).toInt < (gI is 7).toInt) ∧ ∀ i, i < 4 → BG (gA o1 0) (gI o1 2).toInt k i)) ∨
    (¬ z.1 = 0 ∧ ((0 ≤ (gA o1 0 k).toInt ∧ (gA o1 0 k).toInt < (gI is 7).toInt) ∧ ∀ i, i < 4 → BG (gA o1 0) (gI o1 2).toInt k i) ∧ gI z.2 7 = gI is 7 ∧ gI z.2 8 = gI is 8 ∧ gA z.2 1 = gA is 1 ∧ gA z.2 3 = gA is 3 ∧ ∀ j, gA z.2 2 j = if 4 * (gA o1 0 k).toNatClampNeg ≤ j ∧ j < 4 * (gA o1 0 k).toNatClampNeg + 4 then gA o1 0 (k + 1 + (j - 4 * (gA o1 0 k).toNatClampNeg)) else gA is 2 j) := by
  unfold f_X8_tellRow at h
  obtain ⟨z1, ez1, h⟩ := z_bd h
  obtain ⟨z2, ez2, h⟩ := z_bd h
  have e1 : z1 = gA o1 0 k := by
    rcases byte8 ek hs ez1 with ⟨a, b⟩ | ⟨a, b⟩
    · exact b
    · omega
  rw [e1] at ez2 h
  rcases isP2 ez2 with ⟨a, b⟩ | ⟨a, b⟩
  · have h := Option.some.inj (z_t h a)
    exact Or.inl ⟨by rw [← h], by rw [← h], fun q => b q.1⟩
  · have h := z_f h a
    rcases l24_8 ek (by omega) hs _ _ 0 (by decide) (by decide) h with ⟨c, d, i, q1, q2, q3⟩ | ⟨c, d⟩
    · exact Or.inl ⟨c, d, fun q => q3 (q.2 i q2)⟩
    · have hB : ∀ i, i < 4 → BG (gA o1 0) (gI o1 2).toInt k i := fun i hi => c i (Nat.zero_le _) hi
      have ec : (gA o1 0 k).toNatClampNeg = (gA o1 0 k).toInt.toNat := rfl
      obtain ⟨b1, b2, b3, b4, b5, b6⟩ := l65_8 (a := (gA o1 0 k).toNatClampNeg) ek (by omega) (by rw [ec]; omega) (by rw [ec]; omega) hs hB _ _ 0 is (by decide) (by decide) d
      exact Or.inr ⟨by rw [b1]; decide, ⟨b, hB⟩, b2, b3, b4, b5, b6⟩
theorem lt13_9 {o : Ob} {v1 : Int32} {k : Nat} {y : Int32} (ek : v1.toInt = (k : Int)) (hk : k ≤ 400) : ∀ (N : Nat) (v2 v3 : Int32) (r : Nat), v3.toInt = (r : Int) → r ≤ 4 → lp_X9_isTold_13 o N (v1, v2, v3) = some y →
    (y = 0 ∧ (v2 = 0 ∨ ∃ i, r ≤ i ∧ i < 4 ∧ ¬ (0 ≤ (gA o 12 (k + 1 + i)).toInt ∧ (gA o 12 (k + 1 + i)).toInt ≤ 9))) ∨ (¬ y = 0 ∧ ¬ v2 = 0 ∧ ∀ i, r ≤ i → i < 4 → 0 ≤ (gA o 12 (k + 1 + i)).toInt ∧ (gA o 12 (k + 1 + i)).toInt ≤ 9) := by
  intro N
  induction N with
  | zero => intro v2 v3 r _ _ h; cases h
  | succ N ih =>
    intro v2 v3 r er hr h
    have h : lb_X9_isTold_13 o (lp_X9_isTold_13 o N) v1 v2 v3 = some y := h
    unfold lb_X9_isTold_13 at h
    by_cases c : (4 : Int32) ≤ v3
    · have d := cv_le (a := 4) (b := (r : Int)) (by decide) er c
      obtain ⟨-, h⟩ := z_gd (z_t h c)
      have e := Option.some.inj h
      rw [← e]
      by_cases q : v2 = 0
      · exact Or.inl ⟨q, Or.inl q⟩
      · exact Or.inr ⟨q, q, fun i a b => by omega⟩
    · have d := cv_nle (a := 4) (b := (r : Int)) (by decide) er c
      have h := z_f h c
      have hst : ∀ s0 : Int32, bk_X9_isTold_48 o (lp_X9_isTold_13 o N) v1 v3 s0 = some y → (y = 0 ∧ (s0 = 0 ∨ ∃ i, r + 1 ≤ i ∧ i < 4 ∧ ¬ (0 ≤ (gA o 12 (k + 1 + i)).toInt ∧ (gA o 12 (k + 1 + i)).toInt ≤ 9))) ∨ (¬ y = 0 ∧ ¬ s0 = 0 ∧ ∀ i, r + 1 ≤ i → i < 4 → 0 ≤ (gA o 12 (k + 1 + i)).toInt ∧ (gA o 12 (k + 1 + i)).toInt ≤ 9) := by
        intro s0 h
        unfold bk_X9_isTold_48 at h
        obtain ⟨x4, e4, h⟩ := z_lt h
        have t4 : x4.toInt = (r : Int) + 1 := by rw [e4]; exact i32_add er (by decide) (by omega) (by omega)
        exact ih s0 x4 (r + 1) (by omega) (by omega) h
      have h47 : bk_X9_isTold_47 o (lp_X9_isTold_13 o N) v1 v3 = some y → y = 0 := by
        intro h
        unfold bk_X9_isTold_47 at h
        rcases hst 0 h with ⟨a, -⟩ | ⟨-, a, -⟩
        · exact a
        · exact absurd rfl a
      by_cases c0 : v2 = 0
      · exact Or.inl ⟨h47 (z_t h c0), Or.inl c0⟩
      · obtain ⟨-, h⟩ := z_gd (z_f h c0)
        obtain ⟨z6, ez6, h⟩ := z_bd h
        have m1 : (v1 + (1 : Int32)).toInt = (k : Int) + 1 := i32_add ek (by decide) (by omega) (by omega)
        have m2 : ((v1 + (1 : Int32)) + v3).toInt = (k : Int) + 1 + (r : Int) := i32_add m1 er (by omega) (by omega)
        have i2 : ((v1 + (1 : Int32)) + v3).toNatClampNeg = k + 1 + r := tnc_eq (by omega)
        rw [i2] at ez6
        rcases in9 (m := 0) (n := 9) (by decide) (by decide) ez6 with ⟨a, b⟩ | ⟨a, b⟩
        · exact Or.inl ⟨h47 (z_t h a), Or.inr ⟨r, Nat.le_refl _, by omega, b⟩⟩
        · rcases hst 1 (z_f h a) with ⟨e, f⟩ | ⟨e, -, f⟩
          · rcases f with f | ⟨i, q1, q2, q3⟩
            · exact absurd f (by decide)
            · exact Or.inl ⟨e, Or.inr ⟨i, by omega, q2, q3⟩⟩
          · refine Or.inr ⟨e, c0, fun i q1 q2 => ?_⟩
            by_cases q : i = r
            · rw [q]; exact b
            · exact f i (by omega) q2
theorem isTold9 {o : Ob} {p y : Int32} {k : Nat} (ek : p.toInt = (k : Int)) (hk : k ≤ 400) (hp : 0 ≤ (gA o 3 0).toInt ∧ (gA o 3 0).toInt ≤ 7) (h : f_X9_isTold o p = some y) :
    (y = 0 ∧ ¬ ((0 ≤ (gA o 12 k).toInt ∧ (gA o 12 k).toInt < (gA o 3 0).toInt) ∧ ∀ i, i < 4 → 0 ≤ (gA o 12 (k + 1 + i)).toInt ∧ (gA o 12 (k + 1 + i)).toInt ≤ 9)) ∨
    (¬ y = 0 ∧ (0 ≤ (gA o 12 k).toInt ∧ (gA o 12 k).toInt < (gA o 3 0).toInt) ∧ ∀ i, i < 4 → 0 ≤ (gA o 12 (k + 1 + i)).toInt ∧ (gA o 12 (k + 1 + i)).toInt ≤ 9) := by
  unfold f_X9_isTold at h
  obtain ⟨-, h⟩ := z_gd h
  obtain ⟨z2, ez2, h⟩ := z_bd h
  have ik : p.toNatClampNeg = k := tnc_eq ek
  rw [ik] at ez2
  rcases isP9 ez2 hp with ⟨a, b⟩ | ⟨a, b⟩ <;> rcases lt13_9 ek hk _ _ _ 0 (by decide) (by decide) h with ⟨c, d⟩ | ⟨c, d, e⟩
  · exact Or.inl ⟨c, fun q => b q.1⟩
  · exact absurd a d
  · rcases d with d | ⟨i, q1, q2, q3⟩
    · exact absurd d a
    · exact Or.inl ⟨c, fun q => q3 (q.2 i q2)⟩
  · exact Or.inr ⟨c, b, fun i hi => e i (Nat.zero_le _) hi⟩
theorem l58_9 {y : Int32 × Ob} {rec35 : Int32 × Int32 × Int32 × Ob → Option (Int32 × Ob)} {v1 v2 v3 : Int32} {k a : Nat} (ek : v3.toInt = (k : Int)) (hk : k ≤ 400) (ha : a < 7) : ∀ (N : Nat) (v4 : Int32) (r : Nat) (o : Ob), v4.toInt = (r : Int) → r ≤ 4 → (gA o 12 k).toInt = (a : Int) → lp_X9_row_58 rec35 N (v1, v2, v3, v4, o) = some y →
    ∃ o' : Ob, bk_X9_row_116 rec35 v1 (v2 + 1) v3 o' = some y ∧ gA o' 12 = gA o 12 ∧ gI o' 11 = gI o 11 ∧ ∀ j, gA o' 3 j = if 36 + 4 * a + r ≤ j ∧ j < 36 + 4 * a + 4 then gA o 12 (k + 1 + (j - (36 + 4 * a))) else gA o 3 j := by
  intro N
  induction N with
  | zero => intro v4 r o _ _ _ h; cases h
  | succ N ih =>
    intro v4 r o er hr et h
    have h : lb_X9_row_58 rec35 (lp_X9_row_58 rec35 N) v1 v2 v3 v4 o = some y := h
    unfold lb_X9_row_58 at h
    by_cases c : (4 : Int32) ≤ v4
    · have d := cv_le (a := 4) (b := (r : Int)) (by decide) er c
      obtain ⟨x9, e9, h⟩ := z_lt (z_t h c)
      rw [e9] at h
      exact ⟨o, h, rfl, rfl, fun j => by rw [if_neg (by omega)]⟩
    · have d := cv_nle (a := 4) (b := (r : Int)) (by decide) er c
      obtain ⟨-, h⟩ := z_gd (z_f h c)
      obtain ⟨-, h⟩ := z_gd h
      obtain ⟨-, h⟩ := z_gd h
      obtain ⟨o13, e13, h⟩ := z_lt h
      obtain ⟨x14, e14, h⟩ := z_lt h
      have ik : v3.toNatClampNeg = k := tnc_eq ek
      rw [ik] at e13
      have m1 : (v3 + (1 : Int32)).toInt = (k : Int) + 1 := i32_add ek (by decide) (by omega) (by omega)
      have m2 : ((v3 + (1 : Int32)) + v4).toInt = (k : Int) + 1 + (r : Int) := i32_add m1 er (by omega) (by omega)
      have i2 : ((v3 + (1 : Int32)) + v4).toNatClampNeg = k + 1 + r := tnc_eq (by omega)
      have m3 : ((4 : Int32) * gA o 12 k).toInt = 4 * (a : Int) := i32_mul (by decide) et (by omega) (by omega)
      have m4 : ((36 : Int32) + ((4 : Int32) * gA o 12 k)).toInt = 36 + 4 * (a : Int) := i32_add (by decide) m3 (by omega) (by omega)
      have m5 : (((36 : Int32) + ((4 : Int32) * gA o 12 k)) + v4).toInt = 36 + 4 * (a : Int) + (r : Int) := i32_add m4 er (by omega) (by omega)
      have i5 : (((36 : Int32) + ((4 : Int32) * gA o 12 k)) + v4).toNatClampNeg = 36 + 4 * a + r := tnc_eq (by omega)
      rw [i2, i5] at e13
      have t14 : x14.toInt = (r : Int) + 1 := by rw [e14]; exact i32_add er (by decide) (by omega) (by omega)
      have k12 : gA o13 12 = gA o 12 := by rw [e13]; rfl
      have k11 : gI o13 11 = gI o 11 := by rw [e13]; rfl
      have k3 : ∀ j, gA o13 3 j = if j = 36 + 4 * a + r then gA o 12 (k + 1 + r) else gA o 3 j := fun j => by rw [e13, t3_at]
      obtain ⟨o', b1, b2, b3, b4⟩ := ih x14 (r + 1) o13 (by omega) (by omega) (by rw [k12]; exact et) h
      refine ⟨o', b1, b2.trans k12, b3.trans k11, fun j => ?_⟩
      rw [b4 j, k12, k3 j]
      by_cases q : 36 + 4 * a + (r + 1) ≤ j ∧ j < 36 + 4 * a + 4
      · rw [if_pos q, if_pos ⟨by omega, by omega⟩]
      · rw [if_neg q]
        by_cases q2 : j = 36 + 4 * a + r
        · have e : j - (36 + 4 * a) = r := by omega
          rw [if_pos q2, if_pos ⟨by omega, by omega⟩, e]
        · rw [if_neg q2, if_neg (by omega)]
-- the tape's bytes
theorem bv_byte (n : Nat) (hn : n ≤ 24) (b : BitVec 32) : (b >>> n) &&& 255#32 = (b.sshiftRight n) &&& 255#32 := by
  have hz : ∀ i : Fin 32, ¬ i.1 < 8 → (255#32).getLsbD i.1 = false := by decide
  apply BitVec.eq_of_getLsbD_eq
  intro i hi
  rw [BitVec.getLsbD_and, BitVec.getLsbD_and]
  by_cases c : i < 8
  · have q : n + i < 32 := by omega
    have r : ¬ 32 ≤ i := by omega
    have e : (b >>> n).getLsbD i = (b.sshiftRight n).getLsbD i := by
      rw [BitVec.getLsbD_sshiftRight]
      simp [q, r]
    rw [e]
  · rw [hz ⟨i, hi⟩ c, Bool.and_false, Bool.and_false]
theorem byte_eq {x s : Int32} (hs : s = 24 ∨ s = 16 ∨ s = 8 ∨ s = 0) : ((x.toUInt32 >>> (s.toUInt32 &&& Int32.toUInt32 31)).toInt32) &&& (255 : Int32) = (x >>> (s &&& 31)) &&& (255 : Int32) := by
  rcases hs with h | h | h | h
  · subst h; exact Int32.toBitVec_inj.mp (bv_byte 24 (by decide) x.toBitVec)
  · subst h; exact Int32.toBitVec_inj.mp (bv_byte 16 (by decide) x.toBitVec)
  · subst h; exact Int32.toBitVec_inj.mp (bv_byte 8 (by decide) x.toBitVec)
  · subst h; exact Int32.toBitVec_inj.mp (bv_byte 0 (by decide) x.toBitVec)
theorem four1t {N : Nat} {v1 v2 : Int32} {o y : Ob} (h : lp_X9_four_3 (N + 1) (v1, v2, o) = some y) (c : ¬ v2 < (0 : Int32)) : ∃ o', lp_X9_four_3 N (v1, v2 + (-8), o') = some y ∧ gI o' 13 = gI o 13 + 1 ∧ gA o' 12 = upd (gA o 12) (gI o 13).toNatClampNeg ((v1 >>> (v2 &&& 31)) &&& (255 : Int32)) := by
  have h : lb_X9_four_3 (lp_X9_four_3 N) v1 v2 o = some y := h
  unfold lb_X9_four_3 at h
  obtain ⟨-, h⟩ := z_gd (z_f h c)
  obtain ⟨o2, e2, h⟩ := z_lt h
  obtain ⟨o3, e3, h⟩ := z_lt h
  obtain ⟨x4, e4, h⟩ := z_lt h
  refine ⟨o3, by rw [← e4]; exact h, ?_, ?_⟩
  · rw [e3, e2]; rfl
  · rw [e3, e2]; rfl
theorem addn1t {N : Nat} {v1 v2 : Int32} {o y : Ob} (h : lp_X6_addNumber_3 (N + 1) (v1, v2, o) = some y) (c : ¬ v2 < (0 : Int32)) {n : Int} (hn : (gI o 2).toInt = n) (h0 : 0 ≤ n) (h1 : n < 400) : ∃ o', lp_X6_addNumber_3 N (v1, v2 + (-8), o') = some y ∧ gI o' 2 = gI o 2 + 1 ∧ (gI o' 2).toInt = n + 1 ∧ gA o' 0 = upd (gA o 0) (gI o 2).toNatClampNeg (((v1.toUInt32 >>> (v2.toUInt32 &&& Int32.toUInt32 31)).toInt32) &&& (255 : Int32)) := by
  have h : lb_X6_addNumber_3 (lp_X6_addNumber_3 N) v1 v2 o = some y := h
  unfold lb_X6_addNumber_3 at h
  have c4 : ¬ (400 : Int32) ≤ gI o 2 := fun q => by have q := cv_le (a := 400) (b := n) (by decide) hn q; omega
  obtain ⟨-, h⟩ := z_gd (z_f (z_f h c) c4)
  obtain ⟨o3, e3, h⟩ := z_lt h
  obtain ⟨o4, e4, h⟩ := z_lt h
  unfold bk_X6_addNumber_43 at h
  obtain ⟨x1, ex, h⟩ := z_lt h
  have eg : gI o4 2 = gI o 2 + 1 := by rw [e4, e3]; rfl
  exact ⟨o4, by rw [← ex]; exact h, eg, by rw [eg]; exact i32_add hn (by decide) (by omega) (by omega), by rw [e4, e3]; rfl⟩
theorem num1 {N : Nat} {v1 v2 : Int32} {a b a' b' : Ob} {n : Int} (h1 : lp_X6_addNumber_3 (N + 1) (v1, v2, a) = some a') (h2 : lp_X9_four_3 (N + 1) (v1, v2, b) = some b') (c : ¬ v2 < (0 : Int32)) (hv : v2 = 24 ∨ v2 = 16 ∨ v2 = 8 ∨ v2 = 0) (hz : gI a 2 = gI b 13) (ht : gA a 0 = gA b 12) (hn : (gI a 2).toInt = n) (h0 : 0 ≤ n) (h3 : n < 400) : ∃ u w, lp_X6_addNumber_3 N (v1, v2 + (-8), u) = some a' ∧ lp_X9_four_3 N (v1, v2 + (-8), w) = some b' ∧ gI u 2 = gI w 13 ∧ gA u 0 = gA w 12 ∧ (gI u 2).toInt = n + 1 := by
  obtain ⟨u, r1, r2, r3, r4⟩ := addn1t h1 c hn h0 h3
  obtain ⟨w, s1, s2, s3⟩ := four1t h2 c
  exact ⟨u, w, r1, s1, by rw [r2, s2, hz], by rw [r4, s3, hz, ht, byte_eq hv], r3⟩
theorem num_eq {a b a' b' : Ob} {p : Int32} {n : Int} (h1 : f_X6_addNumber a p = some a') (h2 : f_X9_four b p = some b') (hz : gI a 2 = gI b 13) (ht : gA a 0 = gA b 12) (hn : (gI a 2).toInt = n) (h0 : 0 ≤ n) (h3 : n ≤ 396) : gI a' 2 = gI b' 13 ∧ gA a' 0 = gA b' 12 ∧ (gI a' 2).toInt = n + 4 := by
  have h1 : lp_X6_addNumber_3 (99995 + 1 + 1 + 1 + 1 + 1) (p, 24, a) = some a' := h1
  have h2 : lp_X9_four_3 (99995 + 1 + 1 + 1 + 1 + 1) (p, 24, b) = some b' := h2
  obtain ⟨u1, w1, h1, h2, z1, t1, n1⟩ := num1 h1 h2 (by decide) (by decide) hz ht hn h0 (by omega)
  obtain ⟨u2, w2, h1, h2, z2, t2, n2⟩ := num1 h1 h2 (by decide) (by decide) z1 t1 n1 (by omega) (by omega)
  obtain ⟨u3, w3, h1, h2, z3, t3, n3⟩ := num1 h1 h2 (by decide) (by decide) z2 t2 n2 (by omega) (by omega)
  obtain ⟨u4, w4, h1, h2, z4, t4, n4⟩ := num1 h1 h2 (by decide) (by decide) z3 t3 n3 (by omega) (by omega)
  have e5 := addn0 h1 (by decide)
  have f5 := four0 h2 (by decide)
  rw [← e5, ← f5]
  exact ⟨z4, t4, by omega⟩
theorem feed_tb {o0 o1 o9 : Ob} {p0 p1 p2 p3 p4 : Int32} {y1 y2 : Int32 × Ob} (ht : gI o1 2 = gI o9 13) (htp : gA o1 0 = gA o9 12) (hr : 0 ≤ (gI o1 2).toInt ∧ (gI o1 2).toInt ≤ 400) (h1 : f_X8_feed o0 o1 p0 p1 p2 p3 p4 = some y1) (h2 : f_X9_feed o9 p0 p1 p2 p3 p4 = some y2) : gA y1.2 0 = gA y2.2 12 := by
  unfold f_X8_feed at h1
  obtain ⟨z1, ez1, h1⟩ := z_bd h1
  unfold f_X6_hasRoom at ez1
  unfold f_X9_feed at h2
  obtain ⟨a1, ea1, h2⟩ := z_lt h2
  have eg : gI a1 13 = gI o9 13 := by rw [ea1]; rfl
  have et : gA a1 12 = gA o9 12 := by rw [ea1]; rfl
  have es : (gI o1 2 + (20 : Int32)).toInt = (gI o1 2).toInt + 20 := i32_add rfl (by decide) (by omega) (by omega)
  rw [eg, ← ht] at h2
  by_cases c : (400 : Int32) < gI o1 2 + 20
  · have ez := Option.some.inj (z_t ez1 c)
    have h1 := z_t h1 ez.symm
    have c := cv_lt (a := 400) (b := (gI o1 2).toInt + 20) (by decide) es c
    have c' : ¬ gI o1 2 + (20 : Int32) ≤ 400 := fun q => by have q := cv_le (a := (gI o1 2).toInt + 20) (b := 400) es (by decide) q; omega
    have h2 := z_f h2 c'
    rw [← Option.some.inj h1, ← Option.some.inj h2]
    show gA o1 0 = gA a1 12
    rw [et]; exact htp
  · have ez := Option.some.inj (z_f ez1 c)
    have h1 := z_f h1 (by rw [← ez]; decide)
    have c := cv_nlt (a := 400) (b := (gI o1 2).toInt + 20) (by decide) es c
    have c' : gI o1 2 + (20 : Int32) ≤ 400 := Int32.le_iff_toInt_le.mpr (by have e : (400 : Int32).toInt = 400 := (by decide); omega)
    have h2 := z_t h2 c'
    obtain ⟨b1, f1, h1⟩ := z_bd h1
    obtain ⟨b2, f2, h1⟩ := z_bd h1
    obtain ⟨b3, f3, h1⟩ := z_bd h1
    obtain ⟨b4, f4, h1⟩ := z_bd h1
    obtain ⟨b5, f5, h1⟩ := z_bd h1
    obtain ⟨d1, g1, h2⟩ := z_bd h2
    obtain ⟨d2, g2, h2⟩ := z_bd h2
    obtain ⟨d3, g3, h2⟩ := z_bd h2
    obtain ⟨d4, g4, h2⟩ := z_bd h2
    obtain ⟨d5, g5, h2⟩ := z_bd h2
    obtain ⟨q1, t1, r1⟩ := num_eq f1 g1 (by rw [eg]; exact ht) (by rw [et]; exact htp) rfl hr.1 (by omega)
    obtain ⟨q2, t2, r2⟩ := num_eq f2 g2 q1 t1 r1 (by omega) (by omega)
    obtain ⟨q3, t3, r3⟩ := num_eq f3 g3 q2 t2 r2 (by omega) (by omega)
    obtain ⟨q4, t4, r4⟩ := num_eq f4 g4 q3 t3 r3 (by omega) (by omega)
    obtain ⟨q5, t5, r5⟩ := num_eq f5 g5 q4 t4 r4 (by omega) (by omega)
    rw [← Option.some.inj h1, ← Option.some.inj h2]
    exact t5
theorem grant_13 {o : Ob} {p : Int32} {y : Int32 × Ob} (h : f_X8_grant o p = some y) : gI y.2 13 = gI o 13 := by
  unfold f_X8_grant at h
  obtain ⟨o1, e1, h⟩ := z_lt h
  rw [← Option.some.inj h, e1]; rfl
theorem refuse_13 {o : Ob} {p : Int32} {y : Int32 × Ob} (h : f_X8_refuse o p = some y) : gI y.2 13 = gI o 13 := by
  unfold f_X8_refuse at h
  obtain ⟨o1, e1, h⟩ := z_lt h
  by_cases c : (0 : Int32) ≤ p
  · rw [← Option.some.inj (z_t h c), e1]; rfl
  · have h := z_f h c
    by_cases c : p < (-6 : Int32)
    · rw [← Option.some.inj (z_t h c), e1]; rfl
    · have h := z_f h c
      obtain ⟨x2, -, h⟩ := z_lt h
      obtain ⟨-, h⟩ := z_gd h
      obtain ⟨-, h⟩ := z_gd h
      obtain ⟨o5, e5, h⟩ := z_lt h
      rw [← Option.some.inj h, e5, e1]; rfl
theorem tell_11 {o : Ob} {p : Int32} {y : Int32 × Ob} (h : f_X9_tell o p = some y) : gI y.2 11 = gI o 11 := by
  have hb : ∀ s, bk_X9_tell_10 p s o = some y → gI y.2 11 = gI o 11 := by
    intro s h
    unfold bk_X9_tell_10 at h
    obtain ⟨o1, eo1, h⟩ := z_lt h
    by_cases c : (0 : Int32) ≤ p
    · rw [← Option.some.inj (z_t h c), eo1]; rfl
    · have h := z_f h c
      obtain ⟨x2, -, h⟩ := z_lt h
      obtain ⟨-, h⟩ := z_gd h
      obtain ⟨-, h⟩ := z_gd h
      obtain ⟨o5, eo5, h⟩ := z_lt h
      rw [← Option.some.inj h, eo5, eo1]; rfl
  unfold f_X9_tell at h
  by_cases c : (0 : Int32) ≤ p
  · exact hb _ (z_t h c)
  · exact hb _ (z_f h c)
theorem imgO_13 {o o4 o5 : Ob} {pl : List CR} {oi on : Ob} {p : Int32} {y : Int32 × Ob × Ob × Ob} (h : f_X8_image_O o o4 o5 pl oi on p = some y) : gI y.2.1 13 = gI o 13 := by
  have h9 : bk_X8_image_O_9 o4 o5 pl o oi on = some y → gI y.2.1 13 = gI o 13 := by
    intro h
    unfold bk_X8_image_O_9 at h
    obtain ⟨z, ez, h⟩ := z_bd h
    rw [← Option.some.inj h]; exact refuse_13 ez
  unfold f_X8_image_O at h
  by_cases c1 : p < (0 : Int32)
  · exact h9 (z_t h c1)
  · have h := z_f h c1
    by_cases c2 : p < (2 : Int32)
    · obtain ⟨-, h⟩ := z_gd (z_t h c2)
      obtain ⟨-, h⟩ := z_gd h
      obtain ⟨z4, -, h⟩ := z_bd h
      obtain ⟨z5, ez, h⟩ := z_bd h
      rw [← Option.some.inj h]; exact grant_13 ez
    · exact h9 (z_f h c2)
theorem imgb_13 {o4 o5 : Ob} {pl : List CR} {o9 oi on : Ob} {y : Int32 × Ob × Ob × Ob} (h : f_X8_image_b o4 o5 pl o9 oi on = some y) : gI y.2.1 13 = gI o9 13 := by
  unfold f_X8_image_b at h
  obtain ⟨z2, -, h⟩ := z_bd h
  obtain ⟨z3, ez, h⟩ := z_bd h
  rw [← Option.some.inj h]; exact grant_13 ez
theorem backN_13 {o : Ob} {p : Int32} {y : Int32 × Ob} (h : f_X8_back_N o p = some y) : gI y.2 13 = gI o 13 := by
  have h9 : bk_X8_back_N_9 o = some y → gI y.2 13 = gI o 13 := by
    intro h
    unfold bk_X8_back_N_9 at h
    obtain ⟨z, ez, h⟩ := z_bd h
    rw [← Option.some.inj h]; exact refuse_13 ez
  unfold f_X8_back_N at h
  by_cases c1 : p < (0 : Int32)
  · exact h9 (z_t h c1)
  · have h := z_f h c1
    by_cases c2 : p < (2 : Int32)
    · obtain ⟨-, h⟩ := z_gd (z_t h c2)
      obtain ⟨z, ez, h⟩ := z_bd h
      rw [← Option.some.inj h]; exact refuse_13 ez
    · exact h9 (z_f h c2)
theorem backO_13 {o o4 o5 o11 : Ob} {pl : List CR} {oi on : Ob} {p : Int32} {y : Int32 × Ob × Ob × Ob × Ob} (h : f_X8_back_O o o4 o5 o11 pl oi on p = some y) : gI y.2.1 13 = gI o 13 := by
  have h9 : bk_X8_back_O_9 pl oi on o o4 o5 o11 = some y → gI y.2.1 13 = gI o 13 := by
    intro h
    unfold bk_X8_back_O_9 at h
    obtain ⟨z, ez, h⟩ := z_bd h
    rw [← Option.some.inj h]; exact refuse_13 ez
  unfold f_X8_back_O at h
  by_cases c1 : p < (0 : Int32)
  · exact h9 (z_t h c1)
  · have h := z_f h c1
    by_cases c2 : p < (2 : Int32)
    · obtain ⟨-, h⟩ := z_gd (z_t h c2)
      obtain ⟨-, h⟩ := z_gd h
      obtain ⟨z4, -, h⟩ := z_bd h
      obtain ⟨z5, -, h⟩ := z_bd h
      obtain ⟨z6, ez, h⟩ := z_bd h
      rw [← Option.some.inj h]; exact grant_13 ez
    · exact h9 (z_f h c2)
theorem lawb_13 {pl9 : List CR} {o8 o4 : Ob} {r : Option Nat} {y : Int32 × Ob × Ob} (h : f_X8_law_b pl9 o8 o4 r = some y) : gI y.2.1 13 = gI o8 13 := by
  unfold f_X8_law_b at h
  obtain ⟨z3, -, h⟩ := z_bd h
  obtain ⟨z4, ez, h⟩ := z_bd h
  rw [← Option.some.inj h]; exact grant_13 ez
theorem lawb_2 {pl9 : List CR} {o8 o4 : Ob} {r : Option Nat} {y : Int32 × Ob × Ob} (h : f_X8_law_b pl9 o8 o4 r = some y) : gA y.2.2 2 = gA o4 2 := by
  unfold f_X8_law_b at h
  obtain ⟨z3, ez3, h⟩ := z_bd h
  obtain ⟨z4, -, h⟩ := z_bd h
  have w : gA z3.2 2 = gA o4 2 := by
    unfold f_X2_addLaw_Q at ez3
    by_cases c : gI o4 9 < (6 : Int32)
    · obtain ⟨-, ez3⟩ := z_gd (z_t ez3 c)
      obtain ⟨-, ez3⟩ := z_gd ez3
      obtain ⟨o3, e3, ez3⟩ := z_lt ez3
      obtain ⟨o4', e4, ez3⟩ := z_lt ez3
      rw [← Option.some.inj ez3, e4, e3]; rfl
    · rw [← Option.some.inj (z_f ez3 c)]
  rw [← Option.some.inj h]; exact w
theorem blots_eq {o0 o9 : Ob} {y1 : Int32} {y2 : Int32 × Ob} (hb : gI o0 13 = gI o9 11) (h1 : f_X8_blots o0 = some y1) (h2 : f_X9_blots o9 = some y2) : y1 = y2.1 := by
  unfold f_X8_blots at h1
  unfold f_X9_blots at h2
  obtain ⟨o1, e1, h2⟩ := z_lt h2
  rw [← Option.some.inj h1, ← Option.some.inj h2]
  show gI o0 13 = gI o1 11
  rw [hb, e1]; rfl
-- images, laws that come
def IK (rI : Nat → Option Nat) (im0 im1 : Option IR) : Prop :=
  (∀ j, 2 ≤ j → rI j = none) ∧ (∀ j, j < 2 → rI j = none ∨ (∃ r : IR, im0 = some r ∧ rI j = some r.1) ∨ (∃ r : IR, im1 = some r ∧ rI j = some r.1)) ∧
  ((∀ j, j < 2 → rI j = none) → im0 = none ∧ im1 = none) ∧ ((∃ j, j < 2 ∧ rI j = none) → im0 = none ∨ im1 = none)
theorem IK.eq {rI rI' : Nat → Option Nat} {im0 im1 : Option IR} (e : rI' = rI) (h : IK rI im0 im1) : IK rI' im0 im1 := by rw [e]; exact h
theorem IK.new0 {rI : Nat → Option Nat} {im1 : Option IR} {n : Nat} {r : IR} (h : IK rI none im1) (hn : n < 2) (e : rI n = none) : IK (va_up rI n (some r.1)) (some r) im1 := by
  have ea : ∀ j, va_up rI n (some r.1) j = if j = n then some r.1 else rI j := fun _ => rfl
  refine ⟨fun j hj => ?_, fun j hj => ?_, fun hh => ?_, fun ⟨j, hj, ej⟩ => ?_⟩
  · rw [ea, if_neg (by omega)]; exact h.1 j hj
  · rw [ea]
    by_cases c : j = n
    · rw [if_pos c]; exact Or.inr (Or.inl ⟨r, rfl, rfl⟩)
    · rw [if_neg c]
      rcases h.2.1 j hj with q | ⟨r', q, -⟩ | q
      · exact Or.inl q
      · cases q
      · exact Or.inr (Or.inr q)
  · have := hh n hn
    rw [ea, if_pos rfl] at this; cases this
  · rw [ea] at ej
    by_cases c : j = n
    · rw [if_pos c] at ej; cases ej
    · rw [if_neg c] at ej
      exact Or.inr (h.2.2.1 (fun i hi => by
        rcases (show i = n ∨ i = j by omega) with q | q
        · rw [q]; exact e
        · rw [q]; exact ej)).2
theorem IK.new1 {rI : Nat → Option Nat} {im0 : Option IR} {n : Nat} {r : IR} (h : IK rI im0 none) (hn : n < 2) (e : rI n = none) : IK (va_up rI n (some r.1)) im0 (some r) := by
  have ea : ∀ j, va_up rI n (some r.1) j = if j = n then some r.1 else rI j := fun _ => rfl
  refine ⟨fun j hj => ?_, fun j hj => ?_, fun hh => ?_, fun ⟨j, hj, ej⟩ => ?_⟩
  · rw [ea, if_neg (by omega)]; exact h.1 j hj
  · rw [ea]
    by_cases c : j = n
    · rw [if_pos c]; exact Or.inr (Or.inr ⟨r, rfl, rfl⟩)
    · rw [if_neg c]
      rcases h.2.1 j hj with q | q | ⟨r', q, -⟩
      · exact Or.inl q
      · exact Or.inr (Or.inl q)
      · cases q
  · have := hh n hn
    rw [ea, if_pos rfl] at this; cases this
  · rw [ea] at ej
    by_cases c : j = n
    · rw [if_pos c] at ej; cases ej
    · rw [if_neg c] at ej
      exact Or.inl (h.2.2.1 (fun i hi => by
        rcases (show i = n ∨ i = j by omega) with q | q
        · rw [q]; exact e
        · rw [q]; exact ej)).1
theorem IK.rep0 {rI : Nat → Option Nat} {im1 : Option IR} {r r' : IR} (h : IK rI (some r) im1) (e : r'.1 = r.1) : IK rI (some r') im1 := by
  refine ⟨h.1, fun j hj => ?_, fun hh => ?_, fun hh => ?_⟩
  · rcases h.2.1 j hj with q | ⟨s, q, w⟩ | q
    · exact Or.inl q
    · have es := Option.some.inj q
      subst es
      exact Or.inr (Or.inl ⟨r', rfl, by rw [e]; exact w⟩)
    · exact Or.inr (Or.inr q)
  · have := (h.2.2.1 hh).1; cases this
  · rcases h.2.2.2 hh with q | q
    · cases q
    · exact Or.inr q
theorem IK.rep1 {rI : Nat → Option Nat} {im0 : Option IR} {r r' : IR} (h : IK rI im0 (some r)) (e : r'.1 = r.1) : IK rI im0 (some r') := by
  refine ⟨h.1, fun j hj => ?_, fun hh => ?_, fun hh => ?_⟩
  · rcases h.2.1 j hj with q | q | ⟨s, q, w⟩
    · exact Or.inl q
    · exact Or.inr (Or.inl q)
    · have es := Option.some.inj q
      subst es
      exact Or.inr (Or.inr ⟨r', rfl, by rw [e]; exact w⟩)
  · have := (h.2.2.1 hh).2; cases this
  · rcases h.2.2.2 hh with q | q
    · exact Or.inl q
    · cases q
-- the joint tie
def Tis (o : Ob) (g : Nat → Int32) : Prop := gI o 7 = g 0 ∧ gI o 8 = g 1 ∧ (∀ j, j < 7 → gA o 1 j = g (29 + j)) ∧ (∀ j, j < 7 → gA o 3 j = g (64 + j)) ∧ (∀ j : Nat, (gI o 7).toInt ≤ (j : Int) → j < 7 → gA o 3 j = 0) ∧ (∀ j, j < 28 → gA o 2 j = g (36 + j)) ∧ (∀ j : Nat, 4 * (gI o 7).toInt ≤ (j : Int) → j < 28 → gA o 2 j = 0) ∧ (∀ j : Nat, (j : Int) < (gI o 7).toInt → j < 7 → (gA o 1 j).toInt < (j : Int))
theorem Tis.ext {o o' : Ob} {g g' : Nat → Int32} (h : Tis o g) (e7 : gI o' 7 = gI o 7) (e8 : gI o' 8 = gI o 8) (a1 : ∀ j, j < 7 → gA o' 1 j = gA o 1 j) (a3 : ∀ j, j < 7 → gA o' 3 j = gA o 3 j) (a2 : ∀ j, j < 28 → gA o' 2 j = gA o 2 j) (eg : ∀ j, j < 2 ∨ (29 ≤ j ∧ j < 71) → g' j = g j) : Tis o' g' := by
  obtain ⟨b1, b2, b3, b5, b7, b4, b6, b8⟩ := h
  refine ⟨?_, ?_, fun j hj => ?_, fun j hj => ?_, fun j hj hj' => ?_, fun j hj => ?_, fun j hj hj' => ?_, fun j hj hj' => ?_⟩
  · rw [e7, eg 0 (by omega)]; exact b1
  · rw [e8, eg 1 (by omega)]; exact b2
  · rw [a1 j hj, eg (29 + j) (by omega)]; exact b3 j hj
  · rw [a3 j hj, eg (64 + j) (by omega)]; exact b5 j hj
  · rw [a3 j hj']; rw [e7] at hj; exact b7 j hj hj'
  · rw [a2 j hj, eg (36 + j) (by omega)]; exact b4 j hj
  · rw [a2 j hj']; rw [e7] at hj; exact b6 j hj hj'
  · rw [a1 j hj']; rw [e7] at hj; exact b8 j hj hj'
theorem Tis.eq {o o' : Ob} {g g' : Nat → Int32} (h : Tis o g) (e7 : gI o' 7 = gI o 7) (e8 : gI o' 8 = gI o 8) (a1 : gA o' 1 = gA o 1) (a3 : gA o' 3 = gA o 3) (a2 : gA o' 2 = gA o 2) (eg : ∀ j, j < 2 ∨ (29 ≤ j ∧ j < 71) → g' j = g j) : Tis o' g' := h.ext e7 e8 (fun j _ => congrFun a1 j) (fun j _ => congrFun a3 j) (fun j _ => congrFun a2 j) eg
theorem kp_full {L LA : List Nat} {LC : List (Nat × Nat)} {o o' : Ob} (k : Kp L LA LC o o') (m0 : (0, 1) ∈ LC) (m1 : (1, 2) ∈ LC) (m2 : (29, 36) ∈ LC) (m3 : (36, 64) ∈ LC) (m4 : (64, 71) ∈ LC) : ∀ j, j < 2 ∨ (29 ≤ j ∧ j < 71) → gA o' 3 j = gA o 3 j := by
  intro j hj
  rcases (show j < 1 ∨ (1 ≤ j ∧ j < 2) ∨ (29 ≤ j ∧ j < 36) ∨ (36 ≤ j ∧ j < 64) ∨ (64 ≤ j ∧ j < 71) by omega) with q | ⟨q1, q2⟩ | ⟨q1, q2⟩ | ⟨q1, q2⟩ | ⟨q1, q2⟩
  · exact k.2.2 (0, 1) m0 j (Nat.zero_le _) q
  · exact k.2.2 (1, 2) m1 j q1 q2
  · exact k.2.2 (29, 36) m2 j q1 q2
  · exact k.2.2 (36, 64) m3 j q1 q2
  · exact k.2.2 (64, 71) m4 j q1 q2
def Tsl (o0 o9 : Ob) (k : Nat) (im : Option IR) : Prop := (im = none → gR o0 7 k = none ∧ gA o9 5 k = 0) ∧ (∀ r : IR, im = some r → gR o0 7 k = some r.1 ∧ ¬ gA o9 5 k = 0 ∧ Tis r.2.2.2.2.2.2.1 (fun j => gA o9 4 (5484 * k + j)))
theorem Tsl.eq {o0 o9 o0' o9' : Ob} {k : Nat} {im : Option IR} (h : Tsl o0 o9 k im) (e0 : gR o0' 7 = gR o0 7) (e5 : gA o9' 5 = gA o9 5) (e4 : gA o9' 4 = gA o9 4) : Tsl o0' o9' k im := by
  refine ⟨fun q => ?_, fun r q => ?_⟩
  · rw [e0, e5]; exact h.1 q
  · rw [e0, e5, e4]; exact h.2 r q
def Tim (o0 o9 : Ob) (im0 im1 : Option IR) : Prop := ∃ s : Nat, s < 2 ∧ Tsl o0 o9 s im0 ∧ Tsl o0 o9 (1 - s) im1
theorem Tim.eq {o0 o9 o0' o9' : Ob} {im0 im1 : Option IR} (h : Tim o0 o9 im0 im1) (e0 : gR o0' 7 = gR o0 7) (e5 : gA o9' 5 = gA o9 5) (e4 : gA o9' 4 = gA o9 4) : Tim o0' o9' im0 im1 := by
  obtain ⟨s, hs, a, b⟩ := h
  exact ⟨s, hs, a.eq e0 e5 e4, b.eq e0 e5 e4⟩
def Tall (o0 o1 o4 o9 : Ob) (im0 im1 : Option IR) : Prop := gI o1 2 = gI o9 13 ∧ Tis o4 (gA o9 3) ∧ Tim o0 o9 im0 im1
theorem Tall.eq {L LA : List Nat} {LC : List (Nat × Nat)} {o0 o1 o4 o9 o0' o1' o4' o9' : Ob} {im0 im1 : Option IR} (h : Tall o0 o1 o4 o9 im0 im1) (c1 : gI o1' 2 = gI o1 2) (c3 : gI o4' 7 = gI o4 7) (c4 : gI o4' 8 = gI o4 8) (c5 : gA o4' 1 = gA o4 1) (c7 : gA o4' 3 = gA o4 3) (c6 : gA o4' 2 = gA o4 2) (c9 : gR o0' 7 = gR o0 7) (k : Kp L LA LC o9 o9') (m1 : 13 ∈ L) (m4 : 5 ∈ LA) (m5 : 4 ∈ LA) (n0 : (0, 1) ∈ LC) (n1 : (1, 2) ∈ LC) (n2 : (29, 36) ∈ LC) (n3 : (36, 64) ∈ LC) (n4 : (64, 71) ∈ LC) : Tall o0' o1' o4' o9' im0 im1 :=
  ⟨by rw [c1, k.1 13 m1]; exact h.1, h.2.1.eq c3 c4 c5 c7 c6 (kp_full k n0 n1 n2 n3 n4), h.2.2.eq c9 (k.2.1 5 m4) (k.2.1 4 m5)⟩
theorem Tall.tis {L LA : List Nat} {LC : List (Nat × Nat)} {o0 o1 o4 o9 o0' o1' o4' o9' : Ob} {im0 im1 : Option IR} (h : Tall o0 o1 o4 o9 im0 im1) (c1 : gI o1' 2 = gI o1 2) (c9 : gR o0' 7 = gR o0 7) (k : Kp L LA LC o9 o9') (m1 : 13 ∈ L) (m4 : 5 ∈ LA) (m5 : 4 ∈ LA) (t : Tis o4' (gA o9' 3)) : Tall o0' o1' o4' o9' im0 im1 :=
  ⟨by rw [c1, k.1 13 m1]; exact h.1, t, h.2.2.eq c9 (k.2.1 5 m4) (k.2.1 4 m5)⟩
theorem Tall.sz {L LA : List Nat} {LC : List (Nat × Nat)} {o0 o1 o4 o9 o0' o1' o4' o9' : Ob} {im0 im1 : Option IR} (h : Tall o0 o1 o4 o9 im0 im1) (t : gI o1' 2 = gI o9' 13) (c3 : gI o4' 7 = gI o4 7) (c4 : gI o4' 8 = gI o4 8) (c5 : gA o4' 1 = gA o4 1) (c7 : gA o4' 3 = gA o4 3) (c6 : gA o4' 2 = gA o4 2) (c9 : gR o0' 7 = gR o0 7) (k : Kp L LA LC o9 o9') (m4 : 5 ∈ LA) (m5 : 4 ∈ LA) (n0 : (0, 1) ∈ LC) (n1 : (1, 2) ∈ LC) (n2 : (29, 36) ∈ LC) (n3 : (36, 64) ∈ LC) (n4 : (64, 71) ∈ LC) : Tall o0' o1' o4' o9' im0 im1 :=
  ⟨t, h.2.1.eq c3 c4 c5 c7 c6 (kp_full k n0 n1 n2 n3 n4), h.2.2.eq c9 (k.2.1 5 m4) (k.2.1 4 m5)⟩
-- the calls that change it
theorem people_n {o : Ob} {pl : List CR} (h : IvX2 pl o) : ∃ n : Nat, (gI o 7).toInt = (n : Int) ∧ n ≤ 7 := ⟨(gI o 7).toInt.toNat, by have := h.1; omega, by have := h.1; omega⟩
theorem t_person {o0 o4 o5 o11 o9 : Ob} {pl : List CR} {p0 p1 : Int32} {y1 : Int32 × Ob × Ob × Ob × Ob} {y2 : Int32 × Ob} (h4 : IvX2 pl o4) (ht : Tis o4 (gA o9 3)) (h1 : f_X8_person o0 o4 o5 o11 p0 p1 = some y1) (h2 : f_X9_person o9 p0 p1 = some y2) : y1.1 = y2.1 ∧ Tis y1.2.2.1 (gA y2.2 3) := by
  obtain ⟨n, en, hn⟩ := people_n h4
  have en9 : (gA o9 3 0).toInt = (n : Int) := by rw [← ht.1]; exact en
  have same : ∀ {a b : Ob}, a = o4 → gA b 3 = gA o9 3 → Tis a (gA b 3) := fun ea eb => by rw [ea, eb]; exact ht
  rcases person8 en hn h1 with ⟨a, b, c⟩ | ⟨a, ⟨b, c, d⟩ | ⟨b, c, d7, d8, d1, d2, d3⟩⟩ <;> rcases person9 en9 hn h2 with ⟨a', b', c'⟩ | ⟨a', ⟨b', c', d'⟩ | ⟨b', c', g0, g1, g29, g36, g64⟩⟩
  · exact ⟨by rw [b, b'], same c c'⟩
  · exact absurd a' a
  · exact absurd a' a
  · exact absurd a a'
  · exact ⟨by rw [c, c'], same d d'⟩
  · omega
  · exact absurd a a'
  · omega
  · refine ⟨by rw [c, c']; exact ht.1, ?_⟩
    obtain ⟨b1, b2, b3, b5, b7, b4, b6, b8⟩ := ht
    have t7 : (gI y1.2.2.1 7).toInt = (n : Int) + 1 := by rw [d7]; exact i32_add en (by decide) (by omega) (by omega)
    refine ⟨by rw [d7, g0, b1], by rw [d8, g1]; exact b2, fun j hj => ?_, fun j hj => ?_, fun j hj hj' => ?_, fun j hj => ?_, fun j hj hj' => ?_, fun j hj hj' => ?_⟩
    · rw [d1 j, g29 j hj, b3 j hj]
    · rw [d3, g64 j hj]
      by_cases q : j = n
      · rw [if_pos q]; exact b7 j (by omega) hj
      · rw [if_neg q]; exact b5 j hj
    · rw [d3]; exact b7 j (by omega) hj'
    · rw [d2, g36 j hj]
      by_cases q : 4 * n ≤ j ∧ j < 4 * n + 4
      · rw [if_pos q]; exact b6 j (by omega) hj
      · rw [if_neg q]; exact b4 j hj
    · rw [d2]; exact b6 j (by omega) hj'
    · rw [d1 j]
      by_cases q : j = n
      · rw [if_pos q, q]
        rcases a.2 with e | e
        · rw [e]; show (-1 : Int32).toInt < _; have : (-1 : Int32).toInt = -1 := (by decide); omega
        · exact e.2
      · rw [if_neg q]; exact b8 j (by omega) hj'
theorem t_beats {o0 o4 o9 : Ob} {pl : List CR} {p0 p1 p2 : Int32} {y1 : Int32 × Ob × Ob} {y2 : Int32 × Ob} (h4 : IvX2 pl o4) (ht : Tis o4 (gA o9 3)) (h1 : f_X8_beats o0 o4 p0 p1 p2 = some y1) (h2 : f_X9_beats o9 p0 p1 p2 = some y2) : y1.1 = y2.1 ∧ Tis y1.2.2 (gA y2.2 3) := by
  obtain ⟨n, en, hn⟩ := people_n h4
  have en9 : (gA o9 3 0).toInt = (n : Int) := by rw [← ht.1]; exact en
  have same : ∀ {a b : Ob}, a = o4 → gA b 3 = gA o9 3 → Tis a (gA b 3) := fun ea eb => by rw [ea, eb]; exact ht
  rcases beats8 en hn h1 with ⟨a, b, c⟩ | ⟨a, ⟨b, c, d⟩ | ⟨b, c, d⟩⟩ <;> rcases beats9 en9 hn h2 with ⟨a', b', c'⟩ | ⟨a', ⟨b', c', d'⟩ | ⟨b', c', d'⟩⟩
  · exact ⟨by rw [b, b'], same c c'⟩
  · exact absurd a' a
  · exact absurd a' a
  · exact absurd a a'
  · exact ⟨by rw [c, c'], same d d'⟩
  · exact absurd b' b
  · exact absurd a a'
  · exact absurd b b'
  · obtain ⟨b1, b2, b3, b5, b7, b4, b6, b8⟩ := ht
    have ec : p0.toNatClampNeg = p0.toInt.toNat := rfl
    have hp : p0.toNatClampNeg < 7 := by rw [ec]; omega
    have ev : gA o4 3 p0.toNatClampNeg = gA o9 3 (64 + p0.toNatClampNeg) := b5 _ hp
    have eq : y1.1 = y2.1 := by rw [c, c', ev]
    refine ⟨eq, ?_⟩
    have g3 : ∀ j, gA y1.2.2 3 j = if j = p0.toNatClampNeg then (gA o4 3 p0.toNatClampNeg) ^^^ (if y1.1 = p2 then 0 else (1 : Int32) <<< (p1 &&& 31)) else gA o4 3 j := fun j => by rw [d]; rfl
    have g7 : gI y1.2.2 7 = gI o4 7 := by rw [d]; rfl
    have g8 : gI y1.2.2 8 = gI o4 8 := by rw [d]; rfl
    have g1 : gA y1.2.2 1 = gA o4 1 := by rw [d]; rfl
    have g2 : gA y1.2.2 2 = gA o4 2 := by rw [d]; rfl
    refine ⟨by rw [g7, d' 0, if_neg (by omega)]; exact b1, by rw [g8, d' 1, if_neg (by omega)]; exact b2, fun j hj => ?_, fun j hj => ?_, fun j hj hj' => ?_, fun j hj => ?_, fun j hj hj' => ?_, fun j hj hj' => ?_⟩
    · rw [g1, d' (29 + j), if_neg (by omega)]; exact b3 j hj
    · rw [g3 j, d' (64 + j)]
      by_cases q : j = p0.toNatClampNeg
      · have q' : 64 + j = 64 + p0.toNatClampNeg := by rw [q]
        rw [if_pos q, if_pos q', ev, eq]
      · have q' : ¬ 64 + j = 64 + p0.toNatClampNeg := by omega
        rw [if_neg q, if_neg q']; exact b5 j hj
    · rw [g7] at hj
      rw [g3 j, if_neg (by rw [ec]; omega)]; exact b7 j hj hj'
    · have q' : ¬ 36 + j = 64 + p0.toNatClampNeg := by omega
      rw [g2, d' (36 + j), if_neg q']; exact b4 j hj
    · rw [g7] at hj
      rw [g2]; exact b6 j hj hj'
    · rw [g7] at hj
      rw [g1]; exact b8 j hj hj'
theorem t_seen {o0 o4 o9 : Ob} {pl : List CR} {p0 p1 : Int32} {y1 : Int32 × Ob × Ob} {y2 : Int32 × Ob} (h4 : IvX2 pl o4) (ht : Tis o4 (gA o9 3)) (h1 : f_X8_seen o0 o4 p0 p1 = some y1) (h2 : f_X9_seen o9 p0 p1 = some y2) : y1.1 = y2.1 ∧ Tis y1.2.2 (gA y2.2 3) := by
  have hr := h4.2.1
  have hr9 : 0 ≤ (gA o9 3 1).toInt ∧ (gA o9 3 1).toInt ≤ 6 := by rw [← ht.2.1]; exact hr
  have same : ∀ {a b : Ob}, a = o4 → gA b 3 = gA o9 3 → Tis a (gA b 3) := fun ea eb => by rw [ea, eb]; exact ht
  have e8 := ht.2.1
  rcases seen8 h1 hr with ⟨a, b, c⟩ | ⟨a, ⟨b, c, d⟩ | ⟨b, c, d8, d7, d1, d2, d3⟩⟩ <;> rcases seen9 h2 hr9 with ⟨a', b', c'⟩ | ⟨a', ⟨b', c', d'⟩ | ⟨b', c', g1, g⟩⟩
  · exact ⟨by rw [b, b'], same c c'⟩
  · exact absurd a' a
  · exact absurd a' a
  · exact absurd a a'
  · exact ⟨by rw [c, c'], same d d'⟩
  · exact absurd (e8.symm.trans b) b'
  · exact absurd a a'
  · exact absurd (e8.trans b') b
  · refine ⟨by rw [c, c', e8], ?_⟩
    obtain ⟨b1, b2, b3, b5, b7, b4, b6, b8⟩ := ht
    refine ⟨by rw [d7, g 0 (by decide) (by decide)]; exact b1, by rw [d8, g1, b2], fun j hj => ?_, fun j hj => ?_, fun j hj hj' => ?_, fun j hj => ?_, fun j hj hj' => ?_, fun j hj hj' => ?_⟩
    · rw [d1, g (29 + j) (by omega) (by omega)]; exact b3 j hj
    · rw [d3, g (64 + j) (by omega) (by omega)]; exact b5 j hj
    · rw [d7] at hj
      rw [d3]; exact b7 j hj hj'
    · rw [d2, g (36 + j) (by omega) (by omega)]; exact b4 j hj
    · rw [d7] at hj
      rw [d2]; exact b6 j hj hj'
    · rw [d7] at hj
      rw [d1]; exact b8 j hj hj'
theorem t_forget {o0 o4 o9 : Ob} {y1 : Int32 × Ob} {y2 : Int32 × Ob} (ht : Tis o4 (gA o9 3)) (h1 : f_X8_forget o0 o4 = some y1) (h2 : f_X9_forget o9 = some y2) : y1.1 = y2.1 ∧ Tis y1.2 (gA y2.2 3) := by
  obtain ⟨a, b⟩ := forget8 h1
  obtain ⟨a', g1, g⟩ := forget9 h2
  obtain ⟨b1, b2, b3, b5, b7, b4, b6, b8⟩ := ht
  refine ⟨by rw [a, a', b2], ?_⟩
  rw [b]
  refine ⟨?_, ?_, fun j hj => ?_, fun j hj => ?_, fun j hj hj' => ?_, fun j hj => ?_, fun j hj hj' => ?_, fun j hj hj' => ?_⟩
  · rw [g 0 (by decide)]; exact b1
  · rw [g1]; rfl
  · rw [g (29 + j) (by omega)]; exact b3 j hj
  · rw [g (64 + j) (by omega)]; exact b5 j hj
  · exact b7 j hj hj'
  · rw [g (36 + j) (by omega)]; exact b4 j hj
  · exact b6 j hj hj'
  · exact b8 j hj hj'
theorem Tis.cp {pl : List CR} {o on a0 a0n : Ob} {y : Ob × Ob} {g g' : Nat → Int32} (h : f_X2_set_O o on pl a0 a0n = some y) (ht : Tis a0 g) (eg : ∀ j, j < 2 ∨ (29 ≤ j ∧ j < 71) → g' j = g j) : Tis y.1 g' := by
  obtain ⟨a, b, c, d, e⟩ := setO_i h
  exact ht.ext a b c e d eg
theorem IK.of {o0 o9 : Ob} {im0 im1 : Option IR} (h : Tim o0 o9 im0 im1) (h2 : ∀ j, 2 ≤ j → gR o0 7 j = none) : IK (gR o0 7) im0 im1 := by
  obtain ⟨s, hs, a, b⟩ := h
  have hj : ∀ j, j < 2 → j = s ∨ j = 1 - s := fun j hj => by omega
  refine ⟨h2, fun j q => ?_, fun q => ?_, fun ⟨j, q1, q2⟩ => ?_⟩
  · rcases hj j q with e | e
    · subst e
      cases e0 : im0 with
      | none => exact Or.inl (a.1 e0).1
      | some r => exact Or.inr (Or.inl ⟨r, rfl, (a.2 r e0).1⟩)
    · subst e
      cases e1 : im1 with
      | none => exact Or.inl (b.1 e1).1
      | some r => exact Or.inr (Or.inr ⟨r, rfl, (b.2 r e1).1⟩)
  · refine ⟨?_, ?_⟩
    · cases e0 : im0 with
      | none => rfl
      | some r => have := q s hs; rw [(a.2 r e0).1] at this; cases this
    · cases e1 : im1 with
      | none => rfl
      | some r => have := q (1 - s) (by omega); rw [(b.2 r e1).1] at this; cases this
  · rcases hj j q1 with e | e
    · subst e
      cases e0 : im0 with
      | none => exact Or.inl rfl
      | some r => rw [(a.2 r e0).1] at q2; cases q2
    · subst e
      cases e1 : im1 with
      | none => exact Or.inr rfl
      | some r => rw [(b.2 r e1).1] at q2; cases q2
theorem t_strength {o0 o4 o9 : Ob} {pl : List CR} {p0 p1 p2 : Int32} {y1 : Int32 × Ob × Ob} {y2 : Int32 × Ob} (h4 : IvX2 pl o4) (ht : Tis o4 (gA o9 3)) (h1 : f_X8_strength o0 o4 p0 p1 p2 = some y1) (h2 : f_X9_strength o9 p0 p1 p2 = some y2) : y1.1 = y2.1 ∧ Tis y1.2.2 (gA y2.2 3) := by
  obtain ⟨n, en, hn⟩ := people_n h4
  have en9 : (gA o9 3 0).toInt = (n : Int) := by rw [← ht.1]; exact en
  have same : ∀ {a b : Ob}, a = o4 → gA b 3 = gA o9 3 → Tis a (gA b 3) := fun ea eb => by rw [ea, eb]; exact ht
  rcases strength8 en hn h1 with ⟨a, b, c⟩ | ⟨a, ⟨b, c, d⟩ | ⟨b, c, d⟩⟩ <;> rcases strength9 en9 hn h2 with ⟨a', b', c'⟩ | ⟨a', ⟨b', c', d'⟩ | ⟨b', c', d'⟩⟩
  · exact ⟨by rw [b, b'], same c c'⟩
  · exact absurd a' a
  · exact absurd a' a
  · exact absurd a a'
  · exact ⟨by rw [c, c'], same d d'⟩
  · exact absurd b' b
  · exact absurd a a'
  · exact absurd b b'
  · obtain ⟨b1, b2, b3, b5, b7, b4, b6, b8⟩ := ht
    have ec : p0.toNatClampNeg = p0.toInt.toNat := rfl
    have ed : p1.toNatClampNeg = p1.toInt.toNat := rfl
    have hp : 4 * p0.toNatClampNeg + p1.toNatClampNeg < 28 := by rw [ec, ed]; omega
    generalize hi : 4 * p0.toNatClampNeg + p1.toNatClampNeg = i at *
    have hi4 : (i : Int) < 4 * (gI o4 7).toInt := by rw [← hi, ec, ed, en]; omega
    refine ⟨by rw [c, c']; exact b4 i hp, ?_⟩
    have g7 : gI y1.2.2 7 = gI o4 7 := by rw [d]; rfl
    have g8 : gI y1.2.2 8 = gI o4 8 := by rw [d]; rfl
    have g1 : gA y1.2.2 1 = gA o4 1 := by rw [d]; rfl
    have g3 : gA y1.2.2 3 = gA o4 3 := by rw [d]; rfl
    have g2 : ∀ j, gA y1.2.2 2 j = if j = i then p2 else gA o4 2 j := fun j => by rw [d]; rfl
    refine ⟨by rw [g7, d' 0, if_neg (by omega)]; exact b1, by rw [g8, d' 1, if_neg (by omega)]; exact b2, fun j hj => ?_, fun j hj => ?_, fun j hj hj' => ?_, fun j hj => ?_, fun j hj hj' => ?_, fun j hj hj' => ?_⟩
    · rw [g1, d' (29 + j), if_neg (by omega)]; exact b3 j hj
    · rw [g3, d' (64 + j), if_neg (by omega)]; exact b5 j hj
    · rw [g7] at hj
      rw [g3]; exact b7 j hj hj'
    · rw [g2 j, d' (36 + j)]
      by_cases q : j = i
      · have q' : 36 + j = 36 + i := by rw [q]
        rw [if_pos q, if_pos q']
      · have q' : ¬ 36 + j = 36 + i := by omega
        rw [if_neg q, if_neg q']; exact b4 j hj
    · rw [g7] at hj
      rw [g2 j, if_neg (by omega)]; exact b6 j hj hj'
    · rw [g7] at hj
      rw [g1]; exact b8 j hj hj'
theorem t_rows {o1 : Ob} (hs : 0 ≤ (gI o1 2).toInt ∧ (gI o1 2).toInt ≤ 400) {y1 : Int32 × Ob × Ob × Ob} {y2 : Int32 × Ob} : ∀ (N : Nat) (v1 v2 : Int32) (k : Nat) (o0 is o9 : Ob), v2.toInt = (k : Int) → k ≤ 404 → Tis is (gA o9 3) → (0 ≤ (gI is 7).toInt ∧ (gI is 7).toInt ≤ 7) → gA o1 0 = gA o9 12 → gI o0 13 = gI o9 11 →
    lp_X8_row_26 N (v1, v2, o0, o1, is) = some y1 → lp_X9_row_35 N (gI o1 2, v1, v2, o9) = some y2 → y1.1 = y2.1 ∧ Tis y1.2.2.2 (gA y2.2 3) ∧ gI y1.2.1 13 = gI y2.2 11 := by
  intro N
  induction N with
  | zero => intro v1 v2 k o0 is o9 _ _ _ _ _ _ h; cases h
  | succ N ih =>
    intro v1 v2 k o0 is o9 ek hk ht hp htp hbl h1 h2
    have h1 : lb_X8_row_26 (lp_X8_row_26 N) v1 v2 o0 o1 is = some y1 := h1
    have h2 : lb_X9_row_35 (lp_X9_row_35 N) (gI o1 2) v1 v2 o9 = some y2 := h2
    unfold lb_X8_row_26 at h1
    unfold lb_X9_row_35 at h2
    by_cases c : gI o1 2 ≤ v2
    · obtain ⟨o2, -, h1⟩ := z_lt (z_t h1 c)
      obtain ⟨z3, ez3, h1⟩ := z_bd h1
      obtain ⟨z5, ez5, h2⟩ := z_bd (z_t h2 c)
      rw [← Option.some.inj h1, ← Option.some.inj h2]
      refine ⟨(grant_ret ez3).trans (tell_3 ez5).1.symm, ?_, ?_⟩
      · show Tis is (gA z5.2 3)
        rw [(tell_3 ez5).2.1]; exact ht
      · show gI z3.2 13 = gI z5.2 11
        rw [grant_13 ez3, tell_11 ez5]; exact hbl
    · have d := cv_nle (a := (gI o1 2).toInt) (b := (k : Int)) rfl ek c
      obtain ⟨z4, ez4, h1⟩ := z_bd (z_f h1 c)
      have h2 := z_f h2 c
      have hp9 : 0 ≤ (gA o9 3 0).toInt ∧ (gA o9 3 0).toInt ≤ 7 := by rw [← ht.1]; exact hp
      have m4 : (v2 + (4 : Int32)).toInt = (k : Int) + 4 := i32_add ek (by decide) (by omega) (by omega)
      have m5 : (v2 + (5 : Int32)).toInt = (k : Int) + 5 := i32_add ek (by decide) (by omega) (by omega)
      have e12 : ∀ j, gA o1 0 j = gA o9 12 j := fun j => congrFun htp j
      have hblot : z4.1 = 0 → z4.2 = is → bk_X9_row_106 (lp_X9_row_35 N) (gI o1 2) v1 v2 o9 = some y2 → y1.1 = y2.1 ∧ Tis y1.2.2.2 (gA y2.2 3) ∧ gI y1.2.1 13 = gI y2.2 11 := by
        intro q1 q2 h2
        obtain ⟨o5, e5, h1⟩ := z_lt (z_t h1 q1)
        unfold bk_X8_row_61 at h1
        obtain ⟨x6, e6, h1⟩ := z_lt h1
        unfold bk_X9_row_106 at h2
        obtain ⟨o6, f6, h2⟩ := z_lt h2
        unfold bk_X9_row_116 at h2
        obtain ⟨x7, f7, h2⟩ := z_lt h2
        rw [e6, q2] at h1
        rw [f7] at h2
        have k3 : gA o6 3 = gA o9 3 := by rw [f6]; rfl
        exact ih v1 (v2 + 5) (k + 5) o5 is o6 (by omega) (by omega) (by rw [k3]; exact ht) hp (by rw [f6]; exact htp) (by rw [e5, f6]; show gI o0 13 + 1 = gI o9 11 + 1; rw [hbl]) h1 h2
      rcases tellRow8 ek d hs hp ez4 with ⟨q1, q2, q3⟩ | ⟨q1, ⟨q2, q3⟩, w7, w8, w1, w3, w2⟩
      · by_cases c4 : gI o1 2 ≤ v2 + (4 : Int32)
        · exact hblot q1 q2 (z_t h2 c4)
        · have d4 := cv_nle (a := (gI o1 2).toInt) (b := (k : Int) + 4) rfl m4 c4
          obtain ⟨z8, ez8, h2⟩ := z_bd (z_f h2 c4)
          rcases isTold9 ek (by omega) hp9 ez8 with ⟨a, b⟩ | ⟨a, b1, b2⟩
          · exact hblot q1 q2 (z_t h2 a)
          · refine absurd ⟨?_, fun i hi => ⟨by omega, ?_⟩⟩ q3
            · rw [e12, ht.1]; exact b1
            · rw [e12]; exact b2 i hi
      · have d4 : (k : Int) + 4 < (gI o1 2).toInt := by have := (q3 3 (by decide)).1; omega
        have c4 : ¬ gI o1 2 ≤ v2 + (4 : Int32) := fun q => by have q := cv_le (a := (gI o1 2).toInt) (b := (k : Int) + 4) rfl m4 q; omega
        obtain ⟨z8, ez8, h2⟩ := z_bd (z_f h2 c4)
        rcases isTold9 ek (by omega) hp9 ez8 with ⟨a, b⟩ | ⟨a, b1, b2⟩
        · refine absurd ⟨?_, fun i hi => ?_⟩ b
          · rw [← e12, ← ht.1]; exact q2
          · rw [← e12]; exact (q3 i hi).2
        · have h2 := z_f h2 a
          obtain ⟨x7, e7, h1⟩ := z_lt (z_f h1 q1)
          unfold bk_X8_row_61 at h1
          obtain ⟨x6, e6, h1⟩ := z_lt h1
          rw [e6, e7] at h1
          have ec : (gA o1 0 k).toNatClampNeg = (gA o1 0 k).toInt.toNat := rfl
          obtain ⟨o', b3, b12, b11, bj⟩ := l58_9 (a := (gA o1 0 k).toNatClampNeg) ek (by omega) (by rw [ec]; omega) _ _ 0 o9 (by decide) (by decide) (by rw [← e12, ec]; omega) h2
          unfold bk_X9_row_116 at b3
          obtain ⟨x8, f8, b3⟩ := z_lt b3
          rw [f8] at b3
          have ha : (gA o1 0 k).toNatClampNeg < 7 := by rw [ec]; omega
          have hb : (4 * (gA o1 0 k).toNatClampNeg + 4 : Int) ≤ 4 * (gI is 7).toInt := by rw [ec]; omega
          generalize (gA o1 0 k).toNatClampNeg = t at *
          obtain ⟨r1, r2, r3, r5, r7, r4, r6, r8⟩ := ht
          have ht' : Tis z4.2 (gA o' 3) := by
            refine ⟨?_, ?_, fun j hj => ?_, fun j hj => ?_, fun j hj hj' => ?_, fun j hj => ?_, fun j hj hj' => ?_, fun j hj hj' => ?_⟩
            · rw [w7, bj 0, if_neg (by omega)]; exact r1
            · rw [w8, bj 1, if_neg (by omega)]; exact r2
            · rw [w1, bj (29 + j), if_neg (by omega)]; exact r3 j hj
            · rw [w3, bj (64 + j), if_neg (by omega)]; exact r5 j hj
            · rw [w7] at hj
              rw [w3]; exact r7 j hj hj'
            · rw [w2 j, bj (36 + j)]
              by_cases q : 4 * t ≤ j ∧ j < 4 * t + 4
              · have q' : 36 + 4 * t + 0 ≤ 36 + j ∧ 36 + j < 36 + 4 * t + 4 := ⟨by omega, by omega⟩
                have e : 36 + j - (36 + 4 * t) = j - 4 * t := by omega
                rw [if_pos q, if_pos q', e]; exact e12 _
              · have q' : ¬ (36 + 4 * t + 0 ≤ 36 + j ∧ 36 + j < 36 + 4 * t + 4) := by omega
                rw [if_neg q, if_neg q']; exact r4 j hj
            · rw [w7] at hj
              rw [w2 j, if_neg (by omega)]; exact r6 j hj hj'
            · rw [w7] at hj
              rw [w1]; exact r8 j hj hj'
          exact ih (v1 + 1) (v2 + 5) (k + 5) o0 z4.2 o' (by omega) (by omega) ht' (by rw [w7]; exact hp) (by rw [b12]; exact htp) (by rw [b11]; exact hbl) h1 b3
theorem t_row {o0 o1 o4 o9 : Ob} {pl : List CR} {y1 : Int32 × Ob × Ob × Ob} {y2 : Int32 × Ob} (h4 : IvX2 pl o4) (h1r : 0 ≤ (gI o1 2).toInt ∧ (gI o1 2).toInt ≤ 400) (hsz : gI o1 2 = gI o9 13) (ht : Tis o4 (gA o9 3)) (htp : gA o1 0 = gA o9 12) (hbl : gI o0 13 = gI o9 11) (h1 : f_X8_row o0 o1 o4 = some y1) (h2 : f_X9_row o9 = some y2) : y1.1 = y2.1 ∧ Tis y1.2.2.2 (gA y2.2 3) ∧ gI y1.2.1 13 = gI y2.2 11 := by
  unfold f_X8_row at h1
  unfold f_X9_row at h2
  obtain ⟨a1, ea1, h2⟩ := z_lt h2
  obtain ⟨x2, ex2, h2⟩ := z_lt h2
  obtain ⟨a3, ea3, h2⟩ := z_lt h2
  have exs : x2 = gI o1 2 := by rw [ex2, ea1, hsz]; rfl
  have k3 : gA a3 3 = gA o9 3 := by rw [ea3, ea1]; rfl
  by_cases c : gI o1 2 = 0
  · obtain ⟨z8, ez8, h1⟩ := z_bd (z_t h1 c)
    obtain ⟨z15, ez15, h2⟩ := z_bd (z_t h2 (by rw [exs]; exact c))
    rw [← Option.some.inj h1, ← Option.some.inj h2]
    refine ⟨(refuse_ret ez8).trans (tell_3 ez15).1.symm, ?_, ?_⟩
    · show Tis o4 (gA z15.2 3)
      rw [(tell_3 ez15).2.1, k3]; exact ht
    · show gI z8.2 13 = gI z15.2 11
      rw [refuse_13 ez8, tell_11 ez15, ea3, ea1]; exact hbl
  · obtain ⟨b1, eb1, h1⟩ := z_lt (z_f h1 c)
    obtain ⟨a4, ea4, h2⟩ := z_lt (z_f h2 (by rw [exs]; exact c))
    rw [exs] at h2
    have k3' : gA a4 3 = gA o9 3 := by rw [ea4]; exact k3
    exact t_rows h1r zfu 0 0 0 b1 o4 a4 (by decide) (by decide) (by rw [k3']; exact ht) h4.1 (by rw [ea4, ea3, ea1]; exact htp) (by rw [eb1, ea4]; rfl) h1 h2
theorem opt_c (a : Option IR) : a = none ∨ ∃ r : IR, a = some r := by
  cases a with
  | none => exact Or.inl rfl
  | some r => exact Or.inr ⟨r, rfl⟩
theorem Tsl.put {o0' o9 o9' : Ob} {k : Nat} {g : Nat → Option Nat} {r : IR} (e0 : ∀ j, gR o0' 7 j = if j = k then some r.1 else g j) (e5 : ∀ j, gA o9' 5 j = if j = k then 1 else gA o9 5 j) (ht : Tis r.2.2.2.2.2.2.1 (fun j => gA o9' 4 (5484 * k + j))) : Tsl o0' o9' k (some r) := by
  refine ⟨(fun q => by cases q), fun r' q => ?_⟩
  rw [← Option.some.inj q]
  exact ⟨by rw [e0, if_pos rfl], by rw [e5, if_pos rfl]; decide, ht⟩
theorem Tsl.oth {o0 o9 o0' o9' : Ob} {k k' : Nat} {a : Option Nat} {im : Option IR} (h : Tsl o0 o9 k' im) (hk : k < 2) (hk' : k' < 2) (hn : k' ≠ k) (e0 : ∀ j, gR o0' 7 j = if j = k then a else gR o0 7 j) (e5 : ∀ j, gA o9' 5 j = if j = k then 1 else gA o9 5 j) (e4 : ∀ j, j < 5484 * k ∨ 5484 * k + 5484 ≤ j → gA o9' 4 j = gA o9 4 j) : Tsl o0' o9' k' im := by
  refine ⟨fun q => ?_, fun r q => ?_⟩
  · rw [e0, if_neg hn, e5, if_neg hn]; exact h.1 q
  · obtain ⟨a1, a2, a3⟩ := h.2 r q
    rw [e0, if_neg hn, e5, if_neg hn]
    exact ⟨a1, a2, a3.eq rfl rfl rfl rfl rfl (fun j hj => e4 (5484 * k' + j) (by omega))⟩
theorem Tim.put0 {o0 o9 o0' o9' : Ob} {k : Nat} {im0 im1 : Option IR} {r : IR} (hk : k < 2) (ta : Tsl o0 o9 k im0) (tb : Tsl o0 o9 (1 - k) im1) (e0 : ∀ j, gR o0' 7 j = if j = k then some r.1 else gR o0 7 j) (e5 : ∀ j, gA o9' 5 j = if j = k then 1 else gA o9 5 j) (e4 : ∀ j, j < 5484 * k ∨ 5484 * k + 5484 ≤ j → gA o9' 4 j = gA o9 4 j) (ht : Tis r.2.2.2.2.2.2.1 (fun j => gA o9' 4 (5484 * k + j))) : Tim o0' o9' (some r) im1 :=
  ⟨k, hk, Tsl.put e0 e5 ht, tb.oth hk (by omega) (by omega) e0 e5 e4⟩
theorem Tim.put1 {o0 o9 o0' o9' : Ob} {k : Nat} {im0 im1 : Option IR} {r : IR} (hk : k < 2) (ta : Tsl o0 o9 (1 - k) im0) (tb : Tsl o0 o9 k im1) (e0 : ∀ j, gR o0' 7 j = if j = k then some r.1 else gR o0 7 j) (e5 : ∀ j, gA o9' 5 j = if j = k then 1 else gA o9 5 j) (e4 : ∀ j, j < 5484 * k ∨ 5484 * k + 5484 ≤ j → gA o9' 4 j = gA o9 4 j) (ht : Tis r.2.2.2.2.2.2.1 (fun j => gA o9' 4 (5484 * k + j))) : Tim o0' o9' im0 (some r) := by
  have e : 1 - (1 - k) = k := by omega
  exact ⟨1 - k, by omega, ta.oth hk (by omega) (by omega) e0 e5 e4, by rw [e]; exact Tsl.put e0 e5 ht⟩
theorem image_bset {o4 o5 : Ob} {pl : List CR} {o9 oi on : Ob} {y : Int32 × Ob × Ob × Ob} (h : f_X8_image_b o4 o5 pl o9 oi on = some y) : ∃ z, f_X2_set_O oi on pl o4 o5 = some z ∧ y.2.2.1 = z.1 := by
  unfold f_X8_image_b at h
  obtain ⟨z2, ez2, h⟩ := z_bd h
  obtain ⟨z3, -, h⟩ := z_bd h
  exact ⟨z2, ez2, by rw [← Option.some.inj h]⟩
theorem backN_ret {o : Ob} {p : Int32} {y : Int32 × Ob} (h : f_X8_back_N o p = some y) : (¬ (0 ≤ p.toInt ∧ p.toInt ≤ 1) ∧ y.1 = -1) ∨ (0 ≤ p.toInt ∧ p.toInt ≤ 1 ∧ y.1 = -2) := by
  have h9 : bk_X8_back_N_9 o = some y → y.1 = -1 := by
    intro h
    unfold bk_X8_back_N_9 at h
    obtain ⟨z, ez, h⟩ := z_bd h
    rw [← Option.some.inj h]; exact refuse_ret ez
  unfold f_X8_back_N at h
  by_cases c1 : p < (0 : Int32)
  · have d1 := cv_lt (a := p.toInt) (b := 0) rfl (by decide) c1
    exact Or.inl ⟨by omega, h9 (z_t h c1)⟩
  · have h := z_f h c1
    have d1 := cv_nlt (a := p.toInt) (b := 0) rfl (by decide) c1
    by_cases c2 : p < (2 : Int32)
    · have d2 := cv_lt (a := p.toInt) (b := 2) rfl (by decide) c2
      obtain ⟨-, h⟩ := z_gd (z_t h c2)
      obtain ⟨z, ez, h⟩ := z_bd h
      refine Or.inr ⟨by omega, by omega, ?_⟩
      rw [← Option.some.inj h]; exact refuse_ret ez
    · have d2 := cv_nlt (a := p.toInt) (b := 2) rfl (by decide) c2
      exact Or.inl ⟨by omega, h9 (z_f h c2)⟩
theorem backO_ret {o o4 o5 o11 : Ob} {pl : List CR} {oi on : Ob} {p : Int32} {y : Int32 × Ob × Ob × Ob × Ob} (h : f_X8_back_O o o4 o5 o11 pl oi on p = some y) : (¬ (0 ≤ p.toInt ∧ p.toInt ≤ 1) ∧ y.1 = -1 ∧ y.2.2.1 = o4) ∨ (0 ≤ p.toInt ∧ p.toInt ≤ 1 ∧ y.1 = 0 ∧ ∃ z, f_X2_set_O o4 o5 pl oi on = some z ∧ y.2.2.1 = z.1) := by
  have h9 : bk_X8_back_O_9 pl oi on o o4 o5 o11 = some y → y.1 = -1 ∧ y.2.2.1 = o4 := by
    intro h
    unfold bk_X8_back_O_9 at h
    obtain ⟨z, ez, h⟩ := z_bd h
    rw [← Option.some.inj h]; exact ⟨refuse_ret ez, rfl⟩
  unfold f_X8_back_O at h
  by_cases c1 : p < (0 : Int32)
  · have d1 := cv_lt (a := p.toInt) (b := 0) rfl (by decide) c1
    exact Or.inl ⟨by omega, h9 (z_t h c1)⟩
  · have h := z_f h c1
    have d1 := cv_nlt (a := p.toInt) (b := 0) rfl (by decide) c1
    by_cases c2 : p < (2 : Int32)
    · have d2 := cv_lt (a := p.toInt) (b := 2) rfl (by decide) c2
      obtain ⟨-, h⟩ := z_gd (z_t h c2)
      obtain ⟨-, h⟩ := z_gd h
      obtain ⟨z4, ez4, h⟩ := z_bd h
      obtain ⟨z5, -, h⟩ := z_bd h
      obtain ⟨z6, ez, h⟩ := z_bd h
      refine Or.inr ⟨by omega, by omega, ?_, z4, ez4, ?_⟩
      · rw [← Option.some.inj h]; exact grant_ret ez
      · rw [← Option.some.inj h]
    · have d2 := cv_nlt (a := p.toInt) (b := 2) rfl (by decide) c2
      exact Or.inl ⟨by omega, h9 (z_f h c2)⟩
theorem Tim.non {o0 o9 : Ob} {im0 im1 : Option IR} {k : Nat} (h : Tim o0 o9 im0 im1) (hk : k < 2) (q : gR o0 7 k = none) : gA o9 5 k = 0 := by
  obtain ⟨s, hs, a, b⟩ := h
  rcases (show k = s ∨ k = 1 - s by omega) with e | e
  · rcases opt_c im0 with e0 | ⟨r, e0⟩
    · rw [e]; exact (a.1 e0).2
    · rw [e, (a.2 r e0).1] at q; cases q
  · rcases opt_c im1 with e0 | ⟨r, e0⟩
    · rw [e]; exact (b.1 e0).2
    · rw [e, (b.2 r e0).1] at q; cases q
theorem t_backN {o0 o1 o4 o9 : Ob} {im0 im1 : Option IR} {p : Int32} {y1 y2 : Int32 × Ob} (ht : Tall o0 o1 o4 o9 im0 im1) (h1 : f_X8_back_N o0 p = some y1) (h2 : f_X9_back o9 p = some y2) (q : gR o0 7 p.toNatClampNeg = none) (w1 : gR y1.2 7 = gR o0 7) (hsz : gI y2.2 13 = gI o9 13) : y1.1 = y2.1 ∧ Tall y1.2 o1 o4 y2.2 im0 im1 := by
  have en : p.toNatClampNeg = p.toInt.toNat := rfl
  have hx : ∀ r : gA y2.2 3 = gA o9 3 ∧ gA y2.2 4 = gA o9 4 ∧ gA y2.2 5 = gA o9 5, Tall y1.2 o1 o4 y2.2 im0 im1 := fun r => ⟨ht.1.trans hsz.symm, by rw [r.1]; exact ht.2.1, ht.2.2.eq w1 r.2.2 r.2.1⟩
  rcases backN_ret h1 with ⟨a, b⟩ | ⟨a1, a2, b⟩
  · refine ⟨?_, hx (back9n h2 (Or.inl a))⟩
    rcases back_ret9 h2 with ⟨c, d⟩ | ⟨c1, c2, d⟩
    · rw [b, d]
    · exact absurd ⟨c1, c2⟩ a
  · have h5 := ht.2.2.non (k := p.toNatClampNeg) (by rw [en]; omega) q
    refine ⟨?_, hx (back9n h2 (Or.inr h5))⟩
    rcases back_ret9 h2 with ⟨c, d⟩ | ⟨c1, c2, ⟨d1, d2⟩ | ⟨d1, d2⟩⟩
    · exact absurd ⟨a1, a2⟩ c
    · rw [b, d2]
    · exact absurd h5 d1
theorem t_backO {o0 o1 o4 o5 o11 o9 : Ob} {pl : List CR} {im0 im1 : Option IR} {r : IR} {p : Int32} {y1 : Int32 × Ob × Ob × Ob × Ob} {y2 : Int32 × Ob} (ht : Tall o0 o1 o4 o9 im0 im1) (h1 : f_X8_back_O o0 o4 o5 o11 pl r.2.2.2.2.2.2.1 r.2.2.2.2.2.2.2 p = some y1) (h2 : f_X9_back o9 p = some y2) (h5 : ¬ gA o9 5 p.toNatClampNeg = 0) (hr : Tis r.2.2.2.2.2.2.1 (fun j => gA o9 4 (5484 * p.toNatClampNeg + j))) (w1 : gR y1.2.1 7 = gR o0 7) (hsz : gI y2.2 13 = gI o9 13) : y1.1 = y2.1 ∧ Tall y1.2.1 o1 y1.2.2.1 y2.2 im0 im1 := by
  have en : p.toNatClampNeg = p.toInt.toNat := rfl
  rcases backO_ret h1 with ⟨a, b, c⟩ | ⟨a1, a2, b, z, ez, c⟩
  · obtain ⟨q3, q4, q5⟩ := back9n h2 (Or.inl a)
    refine ⟨?_, ht.1.trans hsz.symm, by rw [c, q3]; exact ht.2.1, ht.2.2.eq w1 q5 q4⟩
    rcases back_ret9 h2 with ⟨c, d⟩ | ⟨c1, c2, d⟩
    · rw [b, d]
    · exact absurd ⟨c1, c2⟩ a
  · obtain ⟨q3, q4, q5⟩ := back9 (k := p.toNatClampNeg) h2 (by rw [en]; omega) (by rw [en]; omega) h5
    refine ⟨?_, ht.1.trans hsz.symm, ?_, ht.2.2.eq w1 q5 q4⟩
    · rcases back_ret9 h2 with ⟨c, d⟩ | ⟨c1, c2, ⟨d1, d2⟩ | ⟨d1, d2⟩⟩
      · exact absurd ⟨a1, a2⟩ c
      · exact absurd d1 h5
      · rw [b, d2]
    · rw [c]; exact Tis.cp ez hr (fun j hj => q3 j (by omega))
-- the line of heirs: both walk the same tree with the same pile
theorem add0 (v : Int32) : v + 0 = v := by
  have r := i32_rg v
  have e := i32_add (x := v) (y := 0) (a := v.toInt) (b := 0) rfl (by decide) (by omega) (by omega)
  exact Int32.toInt_inj.mp (by omega)
theorem eld_eq {me is o : Ob} {v1 : Int32} {p : Nat} (ep : v1.toInt = (p : Int)) (hp : p < 7) (hpar : ∀ j, j < 7 → gA is 1 j = gA o 3 (29 + j)) {z z' : Int32} : ∀ (N : Nat) (v2 v3 : Int32) (q : Nat), v3.toInt = (q : Int) → q ≤ p → lp_X7_elders_4 me is N (v1, v2, v3) = some z → lp_X9_elder_4 o N (v1, v2, v3) = some z' → z = z' := by
  intro N
  induction N with
  | zero => intro v2 v3 q _ _ h; cases h
  | succ N ih =>
    intro v2 v3 q eq hq h1 h2
    have h1 : lb_X7_elders_4 me is (lp_X7_elders_4 me is N) v1 v2 v3 = some z := h1
    have h2 : lb_X9_elder_4 o (lp_X9_elder_4 o N) v1 v2 v3 = some z' := h2
    unfold lb_X7_elders_4 at h1
    unfold lb_X9_elder_4 at h2
    by_cases c : v1 ≤ v3
    · rw [← Option.some.inj (z_t h1 c), ← Option.some.inj (z_t h2 c)]
    · have d := cv_nle (a := (p : Int)) (b := (q : Int)) ep eq c
      obtain ⟨-, h1⟩ := z_gd (z_f h1 c)
      obtain ⟨-, h1⟩ := z_gd h1
      obtain ⟨-, h2⟩ := z_gd (z_f h2 c)
      obtain ⟨-, h2⟩ := z_gd h2
      have i3 : v3.toNatClampNeg = q := tnc_eq eq
      have i1 : v1.toNatClampNeg = p := tnc_eq ep
      have s3 : ((29 : Int32) + v3).toInt = 29 + (q : Int) := i32_add (by decide) eq (by omega) (by omega)
      have s1 : ((29 : Int32) + v1).toInt = 29 + (p : Int) := i32_add (by decide) ep (by omega) (by omega)
      have j3 : ((29 : Int32) + v3).toNatClampNeg = 29 + q := tnc_eq (by omega)
      have j1 : ((29 : Int32) + v1).toNatClampNeg = 29 + p := tnc_eq (by omega)
      rw [i3, i1, hpar q (by omega), hpar p hp] at h1
      rw [j3, j1] at h2
      have hst : ∀ w : Int32, bk_X7_elders_33 me is (lp_X7_elders_4 me is N) v1 w v3 = some z → ∀ s0 s1 : Int32, s1 + s0 = w → bk_X9_elder_36 o (lp_X9_elder_4 o N) v1 v3 s0 s1 = some z' → z = z' := by
        intro w k1 s0 s1 es k2
        unfold bk_X7_elders_33 at k1
        unfold bk_X9_elder_36 at k2
        obtain ⟨x3, e3, k1⟩ := z_lt k1
        obtain ⟨x3', e3', k2⟩ := z_lt k2
        obtain ⟨x4, e4, k2⟩ := z_lt k2
        rw [e3', es, e4, ← e3] at k2
        have t3 : x3.toInt = (q : Int) + 1 := by rw [e3]; exact i32_add eq (by decide) (by omega) (by omega)
        exact ih w x3 (q + 1) (by omega) (by omega) k1 k2
      by_cases c2 : gA o 3 (29 + q) = gA o 3 (29 + p)
      · obtain ⟨x4, e4, h1⟩ := z_lt (z_t h1 c2)
        exact hst x4 h1 1 v2 e4.symm (z_t h2 c2)
      · exact hst v2 (z_f h1 c2) 0 v2 (add0 v2) (z_f h2 c2)
theorem ch_tail {is : Ob} {v1 v3 : Int32} {me : Ob} {z : Int32 × Ob} : ∀ (N : Nat) (v4 : Int32), v4.toInt ≤ 6 → (∀ p : Nat, (p : Int) ≤ v4.toInt → ¬ gA is 1 p = v1) → lp_X7_awaitChildren_13 is N (v1, v3, v4, me) = some z → z = (v3, me) := by
  intro N
  induction N with
  | zero => intro v4 _ _ h; cases h
  | succ N ih =>
    intro v4 h6 hne h
    have h : lb_X7_awaitChildren_13 is (lp_X7_awaitChildren_13 is N) v1 v3 v4 me = some z := h
    unfold lb_X7_awaitChildren_13 at h
    by_cases c : v4 < (0 : Int32)
    · exact (Option.some.inj (z_t h c)).symm
    · have d := cv_nlt (a := v4.toInt) (b := 0) rfl (by decide) c
      obtain ⟨-, h⟩ := z_gd (z_f h c)
      have ec : v4.toNatClampNeg = v4.toInt.toNat := rfl
      have h := z_f h (hne v4.toNatClampNeg (by rw [ec]; omega))
      unfold bk_X7_awaitChildren_49 at h
      obtain ⟨x3, e3, h⟩ := z_lt h
      have t3 : x3.toInt = v4.toInt + (-1) := by rw [e3]; exact i32_add rfl (by decide) (by omega) (by omega)
      exact ih x3 (by omega) (fun p hp => hne p (by omega)) h
-- what holds of piles and lists
def HL (G : Ob) (m : Nat) (dn st : List Nat) (me o : Ob) : Prop := LLc G dn st ∧ (∀ x ∈ dn ++ st, x < m) ∧ PS (gA o 50) st ∧ (∀ j, j < st.length → gA me 3 j = gA o 50 j) ∧ gA o 3 = gA G 3
theorem HL.push {G me o : Ob} {m p : Nat} {dn st : List Nat} {v2 v4 : Int32} (h : HL G m dn st me o) (hm : m ≤ 7) (hp : p < m) (ep : v4.toInt = (p : Int)) (hn : p ∉ dn ++ st) (hpar : (gA G 3 (29 + p)).toInt = -1 ∨ ∃ q ∈ dn, (gA G 3 (29 + p)).toInt = (q : Int)) (e2 : v2.toInt = (st.length : Int)) : HL G m dn (p :: st) (tA me 3 v2.toNatClampNeg v4) (tA o 50 v2.toNatClampNeg v4) ∧ st.length < 7 := by
  obtain ⟨h1, h2, h3, h4, h5⟩ := h
  have hL := h1.push (p := p) (by omega) hn hpar
  have hle := hL.le
  rw [List.length_cons] at hle
  have i2 : v2.toNatClampNeg = st.length := tnc_eq e2
  rw [i2]
  refine ⟨⟨hL, fun x hx => ?_, ?_, fun j hj => ?_, h5⟩, by omega⟩
  · rcases List.mem_append.mp hx with q | q
    · exact h2 x (List.mem_append_left _ q)
    · rcases List.mem_cons.mp q with q | q
      · rw [q]; exact hp
      · exact h2 x (List.mem_append_right _ q)
  · have eg : gA (tA o 50 st.length v4) 50 = upd (gA o 50) st.length v4 := rfl
    rw [eg]
    refine ⟨?_, PS_up st (Nat.le_refl _) h3⟩
    have e : upd (gA o 50) st.length v4 st.length = v4 := if_pos rfl
    rw [e]; exact ep
  · rw [List.length_cons] at hj
    show (if j = st.length then v4 else gA me 3 j) = (if j = st.length then v4 else gA o 50 j)
    by_cases q : j = st.length
    · rw [if_pos q, if_pos q]
    · rw [if_neg q, if_neg q]; exact h4 j (by omega)
theorem he_ch {is G : Ob} {m : Nat} (hm : m ≤ 7) (hpar : ∀ j, j < 7 → gA is 1 j = gA G 3 (29 + j)) (hlt : ∀ j : Nat, j < m → (gA is 1 j).toInt < (j : Int)) {rec46 : Int32 × Int32 × Ob → Option (Int32 × Ob)} {w1 v3 : Int32} {it : Nat} (e3 : v3.toInt = (it : Int)) (him : it < m) {dn : List Nat} (hd : it ∈ dn) {y2 z : Int32 × Ob} :
    ∀ (N : Nat) (v2 v4 : Int32) (me o : Ob) (st : List Nat), HL G m dn st me o → v2.toInt = (st.length : Int) → -1 ≤ v4.toInt → v4.toInt < (m : Int) → (∀ x ∈ dn ++ st, (gA G 3 (29 + x)).toInt = (it : Int) → v4.toInt < (x : Int)) →
      lp_X7_awaitChildren_13 is N (v3, v2, v4, me) = some z → lp_X9_layLine_89 rec46 N (w1, v2, v3, v4, o) = some y2 → ∃ (o' : Ob) (st' : List Nat), rec46 (w1, z.1, o') = some y2 ∧ HL G m dn st' z.2 o' ∧ z.1.toInt = (st'.length : Int) ∧ gA o' 51 = gA o 51 ∧ gA z.2 2 = gA me 2 := by
  intro N
  induction N with
  | zero => intro v2 v4 me o st _ _ _ _ _ h; cases h
  | succ N ih =>
    intro v2 v4 me o st hH e2 h4 h4b hB h1 h2
    have h1' := h1
    have h1 : lb_X7_awaitChildren_13 is (lp_X7_awaitChildren_13 is N) v3 v2 v4 me = some z := h1
    have h2 : lb_X9_layLine_89 rec46 (lp_X9_layLine_89 rec46 N) w1 v2 v3 v4 o = some y2 := h2
    unfold lb_X9_layLine_89 at h2
    by_cases c : v4 ≤ v3
    · have d := cv_le (a := v4.toInt) (b := (it : Int)) rfl e3 c
      have ez := ch_tail _ _ (by omega) (fun p hp q => by
        have := hlt p (by omega)
        rw [q] at this; omega) h1'
      rw [ez]
      exact ⟨o, st, z_t h2 c, hH, e2, rfl, rfl⟩
    · have d := cv_nle (a := v4.toInt) (b := (it : Int)) rfl e3 c
      obtain ⟨p, ep⟩ : ∃ p : Nat, v4.toInt = (p : Int) := ⟨v4.toInt.toNat, by omega⟩
      unfold lb_X7_awaitChildren_13 at h1
      have h1 := z_f h1 (fun q => by have q := cv_lt (a := v4.toInt) (b := 0) rfl (by decide) q; omega)
      obtain ⟨-, h1⟩ := z_gd h1
      obtain ⟨-, h2⟩ := z_gd (z_f h2 c)
      have i4 : v4.toNatClampNeg = p := tnc_eq ep
      have s4 : ((29 : Int32) + v4).toInt = 29 + (p : Int) := i32_add (by decide) ep (by omega) (by omega)
      have j4 : ((29 : Int32) + v4).toNatClampNeg = 29 + p := tnc_eq (by omega)
      rw [i4, hpar p (by omega)] at h1
      rw [j4, hH.2.2.2.2] at h2
      have hst : ∀ (w2 : Int32) (me' o' : Ob) (st' : List Nat), HL G m dn st' me' o' → w2.toInt = (st'.length : Int) → (∀ x ∈ dn ++ st', (gA G 3 (29 + x)).toInt = (it : Int) → v4.toInt - 1 < (x : Int)) → gA o' 51 = gA o 51 → gA me' 2 = gA me 2 → bk_X7_awaitChildren_49 is (lp_X7_awaitChildren_13 is N) v3 w2 v4 me' = some z → bk_X9_layLine_120 rec46 (lp_X9_layLine_89 rec46 N) w1 w2 v3 v4 o' = some y2 → ∃ (o' : Ob) (st' : List Nat), rec46 (w1, z.1, o') = some y2 ∧ HL G m dn st' z.2 o' ∧ z.1.toInt = (st'.length : Int) ∧ gA o' 51 = gA o 51 ∧ gA z.2 2 = gA me 2 := by
        intro w2 me' o' st' g1 g2 g3 g4 g5 k1 k2
        unfold bk_X7_awaitChildren_49 at k1
        unfold bk_X9_layLine_120 at k2
        obtain ⟨x3, f3, k1⟩ := z_lt k1
        obtain ⟨x8, f8, k2⟩ := z_lt k2
        rw [f8, ← f3] at k2
        have t3 : x3.toInt = v4.toInt + (-1) := by rw [f3]; exact i32_add rfl (by decide) (by omega) (by omega)
        obtain ⟨o2, st2, q1, q2, q3, q4, q5⟩ := ih w2 x3 me' o' st' g1 g2 (by omega) (by omega) (fun x hx ex => by have := g3 x hx ex; omega) k1 k2
        exact ⟨o2, st2, q1, q2, q3, q4.trans g4, q5.trans g5⟩
      by_cases c2 : gA G 3 (29 + p) = v3
      · have h1 := z_t h1 c2
        obtain ⟨-, h2⟩ := z_gd (z_t h2 c2)
        obtain ⟨o10, f10, h2⟩ := z_lt h2
        obtain ⟨x11, f11, h2⟩ := z_lt h2
        have ec : (gA G 3 (29 + p)).toInt = (it : Int) := by rw [c2]; exact e3
        have hnew : p ∉ dn ++ st := fun z => by have := hB p z ec; omega
        obtain ⟨hH2, hl⟩ := hH.push (v2 := v2) (v4 := v4) hm (by omega) ep hnew (Or.inr ⟨it, hd, ec⟩) e2
        have h1 := z_f h1 (fun q => by have q := cv_le (a := 7) (b := (st.length : Int)) (by decide) e2 q; omega)
        obtain ⟨-, h1⟩ := z_gd h1
        obtain ⟨o5, f5, h1⟩ := z_lt h1
        obtain ⟨x6, f6, h1⟩ := z_lt h1
        rw [f11, ← f6] at h2
        have t6 : x6.toInt = (st.length : Int) + 1 := by rw [f6]; exact i32_add e2 (by decide) (by omega) (by omega)
        refine hst x6 o5 o10 (p :: st) (by rw [f5, f10]; exact hH2) (by rw [List.length_cons]; omega) (fun x hx ex => ?_) (by rw [f10]; rfl) (by rw [f5]; rfl) h1 h2
        rcases List.mem_append.mp hx with q | q
        · have := hB x (List.mem_append_left _ q) ex; omega
        · rcases List.mem_cons.mp q with q | q
          · rw [q]; omega
          · have := hB x (List.mem_append_right _ q) ex; omega
      · exact hst v2 me o st hH e2 (fun x hx ex => by have := hB x hx ex; omega) rfl rfl (z_f h1 c2) (z_f h2 c2)
theorem he_rt {is G : Ob} {m : Nat} (hm : m ≤ 7) (hpar : ∀ j, j < 7 → gA is 1 j = gA G 3 (29 + j)) {y2 z : Int32 × Ob} :
    ∀ (N : Nat) (v2 v4 : Int32) (me o : Ob) (st : List Nat), HL G m [] st me o → v2.toInt = (st.length : Int) → -1 ≤ v4.toInt → v4.toInt < (m : Int) → (∀ x ∈ st, v4.toInt < (x : Int)) →
      lp_X7_awaitChildren_13 is N (-1, v2, v4, me) = some z → lp_X9_layLine_13 N (0, v2, v4, o) = some y2 → ∃ (o' : Ob) (st' : List Nat), lp_X9_layLine_46 zfu (0, z.1, o') = some y2 ∧ HL G m [] st' z.2 o' ∧ z.1.toInt = (st'.length : Int) := by
  intro N
  induction N with
  | zero => intro v2 v4 me o st _ _ _ _ _ h; cases h
  | succ N ih =>
    intro v2 v4 me o st hH e2 h4 h4b hB h1 h2
    have h1 : lb_X7_awaitChildren_13 is (lp_X7_awaitChildren_13 is N) (-1) v2 v4 me = some z := h1
    have h2 : lb_X9_layLine_13 (lp_X9_layLine_13 N) 0 v2 v4 o = some y2 := h2
    unfold lb_X9_layLine_13 at h2
    unfold lb_X7_awaitChildren_13 at h1
    by_cases c : v4 < (0 : Int32)
    · have e := Option.some.inj (z_t h1 c)
      rw [← e]
      exact ⟨o, st, z_t h2 c, hH, e2⟩
    · have d := cv_nlt (a := v4.toInt) (b := 0) rfl (by decide) c
      obtain ⟨p, ep⟩ : ∃ p : Nat, v4.toInt = (p : Int) := ⟨v4.toInt.toNat, by omega⟩
      obtain ⟨-, h1⟩ := z_gd (z_f h1 c)
      obtain ⟨-, h2⟩ := z_gd (z_f h2 c)
      have i4 : v4.toNatClampNeg = p := tnc_eq ep
      have s4 : ((29 : Int32) + v4).toInt = 29 + (p : Int) := i32_add (by decide) ep (by omega) (by omega)
      have j4 : ((29 : Int32) + v4).toNatClampNeg = 29 + p := tnc_eq (by omega)
      rw [i4, hpar p (by omega)] at h1
      rw [j4, hH.2.2.2.2] at h2
      have hst : ∀ (w2 : Int32) (me' o' : Ob) (st' : List Nat), HL G m [] st' me' o' → w2.toInt = (st'.length : Int) → (∀ x ∈ st', v4.toInt - 1 < (x : Int)) → bk_X7_awaitChildren_49 is (lp_X7_awaitChildren_13 is N) (-1) w2 v4 me' = some z → bk_X9_layLine_40 (lp_X9_layLine_13 N) 0 w2 v4 o' = some y2 → ∃ (o' : Ob) (st' : List Nat), lp_X9_layLine_46 zfu (0, z.1, o') = some y2 ∧ HL G m [] st' z.2 o' ∧ z.1.toInt = (st'.length : Int) := by
        intro w2 me' o' st' g1 g2 g3 k1 k2
        unfold bk_X7_awaitChildren_49 at k1
        unfold bk_X9_layLine_40 at k2
        obtain ⟨x3, f3, k1⟩ := z_lt k1
        obtain ⟨x8, f8, k2⟩ := z_lt k2
        rw [f8, ← f3] at k2
        have t3 : x3.toInt = v4.toInt + (-1) := by rw [f3]; exact i32_add rfl (by decide) (by omega) (by omega)
        exact ih w2 x3 me' o' st' g1 g2 (by omega) (by omega) (fun x hx => by have := g3 x hx; omega) k1 k2
      by_cases c2 : gA G 3 (29 + p) = (-1 : Int32)
      · have h1 := z_t h1 c2
        obtain ⟨-, h2⟩ := z_gd (z_t h2 c2)
        obtain ⟨o18, f18, h2⟩ := z_lt h2
        obtain ⟨x19, f19, h2⟩ := z_lt h2
        have ec : (gA G 3 (29 + p)).toInt = -1 := by rw [c2]; decide
        have hnew : p ∉ [] ++ st := fun z => by have := hB p z; omega
        obtain ⟨hH2, hl⟩ := hH.push (v2 := v2) (v4 := v4) hm (by omega) ep hnew (Or.inl ec) e2
        have h1 := z_f h1 (fun q => by have q := cv_le (a := 7) (b := (st.length : Int)) (by decide) e2 q; omega)
        obtain ⟨-, h1⟩ := z_gd h1
        obtain ⟨o5, f5, h1⟩ := z_lt h1
        obtain ⟨x6, f6, h1⟩ := z_lt h1
        rw [f19, ← f6] at h2
        have t6 : x6.toInt = (st.length : Int) + 1 := by rw [f6]; exact i32_add e2 (by decide) (by omega) (by omega)
        refine hst x6 o5 o18 (p :: st) (by rw [f5, f18]; exact hH2) (by rw [List.length_cons]; omega) (fun x hx => ?_) h1 h2
        rcases List.mem_cons.mp hx with q | q
        · rw [q]; omega
        · have := hB x q; omega
      · exact hst v2 me o st hH e2 (fun x hx => by have := hB x hx; omega) (z_f h1 c2) (z_f h2 c2)
theorem he_main {is G : Ob} {m : Nat} (hm : m ≤ 7) (e7 : (gI is 7).toInt = (m : Int)) (e70 : (gA G 3 0).toInt = (m : Int)) (hpar : ∀ j, j < 7 → gA is 1 j = gA G 3 (29 + j)) (hlt : ∀ j : Nat, j < m → (gA is 1 j).toInt < (j : Int)) {y1 y2 : Int32 × Ob} :
    ∀ (N : Nat) (v1 v2 v3 : Int32) (me o : Ob) (dn st : List Nat), HL G m dn st me o → v2.toInt = (st.length : Int) → v3.toInt = (dn.length : Int) → 0 ≤ v1.toInt → v1.toInt ≤ 7 → (∀ j : Nat, (j : Int) < v1.toInt → gA me 2 j = gA o 51 j) →
      lp_X7_lineOfHeirs_11 is N (v1, v2, v3, me) = some y1 → lp_X9_layLine_46 N (v1, v2, o) = some y2 → y1.1 = y2.1 ∧ (0 ≤ y1.1.toInt ∧ y1.1.toInt ≤ 7) ∧ ∀ j : Nat, (j : Int) < y1.1.toInt → gA y1.2 2 j = gA y2.2 51 j := by
  intro N
  induction N with
  | zero => intro v1 v2 v3 me o dn st _ _ _ _ _ _ h; cases h
  | succ N ih =>
    intro v1 v2 v3 me o dn st hH e2 e3 h1a h1b hL h1 h2
    have h1 : lb_X7_lineOfHeirs_11 is (lp_X7_lineOfHeirs_11 is N) v1 v2 v3 me = some y1 := h1
    have h2 : lb_X9_layLine_46 (lp_X9_layLine_46 N) v1 v2 o = some y2 := h2
    unfold lb_X7_lineOfHeirs_11 at h1
    unfold lb_X9_layLine_46 at h2
    have hle : dn.length + st.length ≤ m := by
      have q := pig m (dn ++ st) (List.nodup_append.mpr ⟨hH.1.1, hH.1.2.1, hH.1.2.2.1⟩) hH.2.1
      rw [List.length_append] at q
      exact q
    have hend : ∀ q : v2 ≤ (0 : Int32), y1 = (v1, me) → y1.1 = y2.1 ∧ (0 ≤ y1.1.toInt ∧ y1.1.toInt ≤ 7) ∧ ∀ j : Nat, (j : Int) < y1.1.toInt → gA y1.2 2 j = gA y2.2 51 j := by
      intro q e
      have e' := Option.some.inj (z_t h2 q)
      rw [e, ← e']
      exact ⟨rfl, ⟨h1a, h1b⟩, hL⟩
    by_cases c : gI is 7 ≤ v3
    · have d := cv_le (a := (m : Int)) (b := (dn.length : Int)) e7 e3 c
      exact hend (Int32.le_iff_toInt_le.mpr (by have z0 : (0 : Int32).toInt = 0 := (by decide); omega)) (Option.some.inj (z_t h1 c)).symm
    · have h1 := z_f h1 c
      by_cases c2 : v2 ≤ (0 : Int32)
      · exact hend c2 (Option.some.inj (z_t h1 c2)).symm
      · have d2 := cv_nle (a := (st.length : Int)) (b := 0) e2 (by decide) c2
        have h1 := z_f h1 c2
        have h2 := z_f h2 c2
        cases st with
        | nil => exact absurd d2 (by decide)
        | cons p st =>
          rw [List.length_cons] at e2 hle
          obtain ⟨x2, f2, h1⟩ := z_lt h1
          obtain ⟨-, h1⟩ := z_gd h1
          obtain ⟨x4, f4, h1⟩ := z_lt h1
          obtain ⟨z5, ez5, h1⟩ := z_bd h1
          obtain ⟨u2, k2, h2⟩ := z_lt h2
          obtain ⟨-, h2⟩ := z_gd h2
          obtain ⟨u4, k4, h2⟩ := z_lt h2
          obtain ⟨w5, ew5, h2⟩ := z_bd h2
          have eu2 : u2 = x2 := by rw [k2, f2]
          have t2 : x2.toInt = (st.length : Int) := by
            have : x2.toInt = ((st.length + 1 : Nat) : Int) + (-1) := by rw [f2]; exact i32_add e2 (by decide) (by omega) (by omega)
            omega
          have i2 : x2.toNatClampNeg = st.length := tnc_eq t2
          rw [i2] at f4
          rw [eu2, i2] at k4
          have hps := hH.2.2.1
          have hpt : (gA o 50 st.length).toInt = (p : Int) := hps.1
          have eu4 : u4 = x4 := by rw [k4, f4]; exact (hH.2.2.2.1 st.length (by rw [List.length_cons]; omega)).symm
          have t4 : x4.toInt = (p : Int) := by rw [← eu4, k4]; exact hpt
          rw [eu4] at ew5 h2
          rw [eu2] at h2
          have hpm : p < m := hH.2.1 p (List.mem_append_right _ (List.mem_cons_self ..))
          have hparo : ∀ j, j < 7 → gA is 1 j = gA o 3 (29 + j) := fun j hj => by rw [hH.2.2.2.2]; exact hpar j hj
          have ezz : z5 = w5 := eld_eq t4 (by omega) hparo zfu 0 0 0 (by decide) (Nat.zero_le _) ez5 ew5
          rw [ezz] at h1
          obtain ⟨hp1, hp2⟩ := hH.1.pop
          have hH' : HL G m (p :: dn) st me o := by
            refine ⟨hp1, fun x hx => ?_, hps.2, fun j hj => hH.2.2.2.1 j (by rw [List.length_cons]; omega), hH.2.2.2.2⟩
            refine hH.2.1 x ?_
            rcases List.mem_append.mp hx with q | q
            · rcases List.mem_cons.mp q with q | q
              · rw [q]; exact List.mem_append_right _ (List.mem_cons_self ..)
              · exact List.mem_append_left _ q
            · exact List.mem_append_right _ (List.mem_cons_of_mem _ q)
          have n0 : (0 : Int32).toNatClampNeg = 0 := by decide
          have hgo : ∀ (w1 : Int32) (me' o' : Ob), HL G m (p :: dn) st me' o' → 0 ≤ w1.toInt → w1.toInt ≤ 7 → (∀ j : Nat, (j : Int) < w1.toInt → gA me' 2 j = gA o' 51 j) → bk_X7_lineOfHeirs_58 is (lp_X7_lineOfHeirs_11 is N) w1 x2 v3 x4 me' = some y1 → bk_X9_layLine_79 (lp_X9_layLine_46 N) w1 x2 x4 o' = some y2 → y1.1 = y2.1 ∧ (0 ≤ y1.1.toInt ∧ y1.1.toInt ≤ 7) ∧ ∀ j : Nat, (j : Int) < y1.1.toInt → gA y1.2 2 j = gA y2.2 51 j := by
            intro w1 me' o' g1 g2 g3 g4 q1 q2
            unfold bk_X7_lineOfHeirs_58 at q1
            unfold bk_X9_layLine_79 at q2
            obtain ⟨z6, ez6, q1⟩ := z_bd q1
            obtain ⟨x7, f7, q1⟩ := z_lt q1
            obtain ⟨x6, f6, q2⟩ := z_lt q2
            unfold f_X7_awaitChildren at ez6
            obtain ⟨x1, f1, ez6⟩ := z_lt ez6
            rw [n0, g1.2.2.2.2] at f6
            have t1 : x1.toInt = (m : Int) - 1 := by rw [f1]; exact i32_sub e7 (by decide) (by omega) (by omega)
            have t6 : x6.toInt = (m : Int) - 1 := by rw [f6]; exact i32_sub e70 (by decide) (by omega) (by omega)
            have e16 : x6 = x1 := Int32.toInt_inj.mp (by omega)
            rw [e16] at q2
            obtain ⟨o2, st2, r1, r2, r3, r4, r5⟩ := he_ch (dn := p :: dn) hm hpar hlt t4 hpm (List.mem_cons_self ..) zfu x2 x1 me' o' st g1 t2 (by omega) (by omega) (fun x hx ex => absurd ex (hp2 x hx)) ez6 q2
            have t7 : x7.toInt = (dn.length : Int) + 1 := by rw [f7]; exact i32_add e3 (by decide) (by omega) (by omega)
            exact ih w1 z6.1 x7 z6.2 o2 (p :: dn) st2 r2 r3 (by rw [List.length_cons]; omega) g2 g3 (fun j hj => by rw [r5, r4]; exact g4 j hj) q1 r1
          by_cases c5 : w5 = (1 : Int32)
          · exact hgo v1 me o hH' h1a h1b hL (z_t h1 c5) (z_t h2 c5)
          · obtain ⟨g, h1⟩ := z_gd (z_f h1 c5)
            obtain ⟨o9, f9, h1⟩ := z_lt h1
            obtain ⟨x10, f10, h1⟩ := z_lt h1
            obtain ⟨-, h2⟩ := z_gd (z_f h2 c5)
            obtain ⟨o13, f13, h2⟩ := z_lt h2
            obtain ⟨x14, f14, h2⟩ := z_lt h2
            rw [f14, ← f10] at h2
            have gk := (of_decide_eq_true g).2
            have t10 : x10.toInt = v1.toInt + 1 := by rw [f10]; exact i32_add rfl (by decide) (by omega) (by omega)
            have ec : v1.toNatClampNeg = v1.toInt.toNat := rfl
            refine hgo x10 o9 o13 ?_ (by omega) (by omega) (fun j hj => ?_) h1 h2
            · rw [f9, f13]; exact hH'
            · rw [f9, f13]
              show (if j = v1.toNatClampNeg then x4 else gA me 2 j) = (if j = v1.toNatClampNeg then x4 else gA o 51 j)
              by_cases q : j = v1.toNatClampNeg
              · rw [if_pos q, if_pos q]
              · rw [if_neg q, if_neg q]; exact hL j (by rw [ec] at q; omega)
theorem heir_eq {o0 is me o9 : Ob} {pl : List CR} {p0 : Int32} {y1 y2 : Int32 × Ob} (h4 : IvX2 pl is) (h9 : IvX9 o9) (ht : Tis is (gA o9 3)) (h1 : f_X8_heir o0 is me p0 = some y1) (h2 : f_X9_heir o9 p0 = some y2) : y1.1 = y2.1 := by
  obtain ⟨n, en, hn⟩ := people_n h4
  have en9 : (gA o9 3 0).toInt = (n : Int) := by rw [← ht.1]; exact en
  unfold f_X8_heir at h1
  unfold f_X9_heir at h2
  obtain ⟨o1, eo1, h2⟩ := z_lt h2
  have g1 : gA o1 3 = gA o9 3 := by rw [eo1]; rfl
  obtain ⟨z2, ez2, h2⟩ := z_bd h2
  have m1 : (-1 : Int32).toInt = -1 := by decide
  have hline : ∀ z1, f_X7_lineOfHeirs me is = some z1 → z1.1 = z2.1 ∧ (0 ≤ z1.1.toInt ∧ z1.1.toInt ≤ 7) ∧ ∀ j : Nat, (j : Int) < z1.1.toInt → gA z1.2 2 j = gA z2.2 51 j := by
    intro z1 ez1
    unfold f_X7_lineOfHeirs f_X7_awaitChildren at ez1
    unfold f_X9_layLine at ez2
    obtain ⟨w, ew, ez1⟩ := z_bd ez1
    obtain ⟨x1, f1, ew⟩ := z_lt ew
    obtain ⟨u1, k1, ez2⟩ := z_lt ez2
    have n0 : (0 : Int32).toNatClampNeg = 0 := by decide
    rw [n0, g1] at k1
    have t1 : x1.toInt = (n : Int) - 1 := by rw [f1]; exact i32_sub en (by decide) (by omega) (by omega)
    have t2 : u1.toInt = (n : Int) - 1 := by rw [k1]; exact i32_sub en9 (by decide) (by omega) (by omega)
    have e1 : u1 = x1 := Int32.toInt_inj.mp (by omega)
    rw [e1] at ez2
    have hpar : ∀ j, j < 7 → gA is 1 j = gA o1 3 (29 + j) := fun j hj => by rw [g1]; exact ht.2.2.1 j hj
    have hlt : ∀ j : Nat, j < n → (gA is 1 j).toInt < (j : Int) := fun j hj => ht.2.2.2.2.2.2.2 j (by omega) (by omega)
    have h0 : HL o1 n [] [] me o1 := ⟨⟨List.nodup_nil, List.nodup_nil, fun a ha => absurd ha List.not_mem_nil, fun x hx => absurd hx List.not_mem_nil, fun x hx => absurd hx List.not_mem_nil⟩, fun x hx => absurd hx List.not_mem_nil, trivial, fun j hj => absurd hj (Nat.not_lt_zero _), rfl⟩
    obtain ⟨o', st', r1, r2, r3⟩ := he_rt hn hpar zfu 0 x1 me o1 [] h0 (by decide) (by omega) (by omega) (fun x hx => absurd hx List.not_mem_nil) ew ez2
    have z0 : (0 : Int32).toInt = 0 := by decide
    exact he_main hn en (by rw [g1]; exact en9) hpar hlt zfu 0 w.1 0 w.2 o' [] st' r2 r3 (by decide) (by omega) (by omega) (fun j hj => by omega) ez1 r1
  by_cases c1 : (-1 : Int32) ≤ p0
  · have d1 := cv_le (a := -1) (b := p0.toInt) m1 rfl c1
    obtain ⟨z1, ez1, h1⟩ := z_bd (z_t h1 c1)
    obtain ⟨q1, q2, q3⟩ := hline z1 ez1
    by_cases c2 : p0 = (-1 : Int32)
    · rw [← Option.some.inj (z_t h1 c2), ← Option.some.inj (z_t h2 c2)]; exact q1
    · have d2 := cv_ne (a := p0.toInt) (b := -1) rfl m1 c2
      have h1 := z_f h1 c2
      obtain ⟨z3, ez3, h2⟩ := z_bd (z_f h2 c2)
      have er : (z2.1.toInt64 - (1 : Int64)).toInt = z2.1.toInt - 1 := i64_sub (Int32.toInt_toInt64 _) (by decide) (by rw [← q1]; omega) (by rw [← q1]; omega)
      rcases in9 (m := 0) (n := z2.1.toInt - 1) (by decide) er ez3 with ⟨a, b⟩ | ⟨a, b⟩
      · rw [← Option.some.inj (z_t h2 a)]
        rw [← Option.some.inj (z_t h1 (Int32.le_iff_toInt_le.mpr (by rw [q1]; omega)))]
      · obtain ⟨-, h2⟩ := z_gd (z_f h2 a)
        have h1 := z_f h1 (fun q => by have q := cv_le (a := z1.1.toInt) (b := p0.toInt) rfl rfl q; rw [q1] at q; omega)
        obtain ⟨-, h1⟩ := z_gd h1
        rw [← Option.some.inj h1, ← Option.some.inj h2]
        have ec : p0.toNatClampNeg = p0.toInt.toNat := rfl
        exact q3 _ (by rw [q1, ec]; omega)
  · have d1 := cv_nle (a := -1) (b := p0.toInt) m1 rfl c1
    have h2 := z_f h2 (fun q => by rw [q] at d1; omega)
    obtain ⟨z3, ez3, h2⟩ := z_bd h2
    rw [← Option.some.inj (z_f h1 c1)]
    have q0 : z3 = 0 := by
      rcases in_iff _ _ _ _ ez3 with ⟨a, b⟩ | ⟨a, b, c⟩
      · exact a
      · have ep : p0.toInt64.toInt = p0.toInt := Int32.toInt_toInt64 p0
        have e0 : (0 : Int64).toInt = 0 := by decide
        omega
    rw [← Option.some.inj (z_t h2 q0)]
def JI (S : Nat → Ob) (pl : List CR) (im0 im1 : Option IR) : Prop :=
  (IvX9 (S 14) ∧ gI (S 14) 20 = 0 ∧ Tall (S 0) (S 1) (S 4) (S 14) im0 im1 ∧ (gA (S 1) 0 = gA (S 14) 12 ∧ gI (S 0) 13 = gI (S 14) 11)) ∧ PLok pl ∧ IvX6 (S 1) ∧ IvX0 12 400 (S 2) ∧ IvX3 (S 3) ∧ IvX2 pl (S 4) ∧ IvX4 (S 5) ∧ IvX1 (S 6) ∧ IvX7 (S 7) ∧ IvX2 pl (S 8) ∧ IvX4 (S 9) ∧ IvX1 (S 10) ∧ IvX5 (S 11) ∧ IvX5 (S 12) ∧ IvX4 (S 13) ∧ IK (gR (S 0) 7) im0 im1 ∧
  (∀ r : IR, im0 = some r → IvX2 pl r.2.2.2.2.2.2.1 ∧ IvX4 r.2.2.2.2.2.2.2) ∧ (∀ r : IR, im1 = some r → IvX2 pl r.2.2.2.2.2.2.1 ∧ IvX4 r.2.2.2.2.2.2.2)
theorem zpo_app {pl l : List CR} {r : Option Nat} (h : zpo pl r = true) : zpo (pl ++ l) r = true := by
  cases r with
  | none => rfl
  | some a =>
    have h : (pfind pl a).isSome = true := h
    show (pfind (pl ++ l) a).isSome = true
    unfold pfind at h ⊢
    rw [List.find?_append]
    cases e : pl.find? (fun c => Nat.beq c.1 a) with
    | none => rw [e] at h; cases h
    | some c => rfl
theorem zpo_new {pl : List CR} {c : CR} : zpo (pl ++ [c]) (some c.1) = true := by
  show (pfind (pl ++ [c]) c.1).isSome = true
  unfold pfind
  rw [List.find?_append]
  cases e : pl.find? (fun c' => Nat.beq c'.1 c.1) with
  | none =>
    have q : [c].find? (fun c' => Nat.beq c'.1 c.1) = some c := List.find?_cons_of_pos (Nat.beq_refl c.1)
    rw [q]; rfl
  | some c' => rfl
theorem IvX2.app {pl l : List CR} {o : Ob} (h : IvX2 pl o) : IvX2 (pl ++ l) o := ⟨h.1, h.2.1, h.2.2.1, h.2.2.2.1, h.2.2.2.2.1, fun j hj => zpo_app (h.2.2.2.2.2 j hj)⟩
theorem PLok.app {pl : List CR} {c : CR} (h : PLok pl) (hc : IvX0 c.2.2.2.1 c.2.2.2.2.1 c.2.2.2.2.2) : PLok (pl ++ [c]) := by
  intro d hd
  rcases List.mem_append.mp hd with q | q
  · exact h d q
  · rw [List.mem_singleton.mp q]; exact hc
theorem h_kept (o : Ob) (h : IvX0 12 400 o) : ∃ oc, f_X0_kept 12 400 o = some oc ∧ IvX0 (gI o 7).toNatClampNeg (gI o 8).toNatClampNeg oc := by
  have h7 := h.1
  have h8 := h.2.1
  have e7 : (((gI o 7).toNatClampNeg : Nat) : Int) = (gI o 7).toInt := by
    have e : (gI o 7).toNatClampNeg = (gI o 7).toInt.toNat := rfl
    rw [e]; omega
  have e8 : (((gI o 8).toNatClampNeg : Nat) : Int) = (gI o 8).toInt := by
    have e : (gI o 8).toNatClampNeg = (gI o 8).toInt.toNat := rfl
    rw [e]; omega
  have z0 : (0 : Int32).toInt = 0 := by decide
  have g : wp (f_X0_kept 12 400 o) (fun oc => IvX0 (gI o 7).toNatClampNeg (gI o 8).toNatClampNeg oc) := by
    unfold f_X0_kept
    refine wp_gd (decide_eq_true ⟨by omega, by omega, by omega, by omega⟩) ?_
    unfold f_X0_kept2
    have c7 : zcp (0 : Int32) (0 : Int32) (gI o 7) 12 (gI o 7).toNatClampNeg = true := zcp_of (m0 := 12) (m1 := (gI o 7).toInt) rfl e7 (by omega) (by omega) (by omega) (by omega) (by omega)
    have c8 : zcp (0 : Int32) (0 : Int32) (gI o 8) 400 (gI o 8).toNatClampNeg = true := zcp_of (m0 := 400) (m1 := (gI o 8).toInt) rfl e8 (by omega) (by omega) (by omega) (by omega) (by omega)
    refine wp_gd c7 ?_
    refine wp_lt (fun o2 f2 => ?_)
    refine wp_gd c7 ?_
    refine wp_lt (fun o4 f4 => ?_)
    refine wp_gd c7 ?_
    refine wp_lt (fun o6 f6 => ?_)
    refine wp_gd c7 ?_
    refine wp_lt (fun o8 f8 => ?_)
    refine wp_gd c7 ?_
    refine wp_lt (fun o10 f10 => ?_)
    refine wp_gd c8 ?_
    refine wp_lt (fun o12 f12 => ?_)
    refine wp_gd c8 ?_
    refine wp_lt (fun o14 f14 => ?_)
    refine wp_lt (fun o15 f15 => ?_)
    refine wp_lt (fun o16 f16 => ?_)
    refine wp_some ?_
    have k7 : gI o16 7 = gI o 7 := by rw [f16, f15]; rfl
    have k8 : gI o16 8 = gI o 8 := by rw [f16]; rfl
    have k1 : gA o16 1 = va_cpy (gA o 1) (fun _ => 0) (0 : Int32).toNatClampNeg (0 : Int32).toNatClampNeg (gI o 7).toNatClampNeg := by rw [f16, f15, f14, f12, f10, f8, f6, f4, f2]; rfl
    refine ⟨by rw [k7]; omega, by rw [k8]; omega, fun j _ hj => ?_, trivial⟩
    rw [k1]
    unfold va_cpy
    have n0 : (0 : Int32).toNatClampNeg = 0 := by decide
    rw [n0]
    split
    · have e : 0 + (j - 0) = j := by omega
      rw [e]; exact h.2.2.1 j (Nat.zero_le _) hj
    · exact (show 0 ≤ (0 : Int32).toInt ∧ (0 : Int32).toInt ≤ 20 by decide)
  exact g
theorem h_lawb (pl : List CR) (c : CR) (hpl : PLok pl) (hc : IvX0 c.2.2.2.1 c.2.2.2.2.1 c.2.2.2.2.2) (o8 o4 : Ob) (h4 : IvX2 pl o4) : ∃ y, f_X8_law_b (pl ++ [c]) o8 o4 (some c.1) = some y ∧ IvX8 (gR o8 7) y.2.1 ∧ IvX2 (pl ++ [c]) y.2.2 := by
  obtain ⟨z3, e3, -, g, -⟩ := s_X2_addLaw_Q o4 (pl ++ [c]) (some c.1) h4.app (hpl.app hc) zpo_new
  obtain ⟨z4, e4, g4, -⟩ := s_X8_grant o8 z3.1 (rfl : IvX8 (gR o8 7) o8)
  refine ⟨(z4.1, z4.2, z3.2), ?_, g4, g⟩
  unfold f_X8_law_b
  rw [e3]
  show ((f_X8_grant o8 z3.1).bind fun z4 => some (z4.1, z4.2, z3.2)) = _
  rw [e4]; rfl
theorem iv2_0 (pl : List CR) : IvX2 pl ob2 := by
  have z : (0 : Int32).toInt = 0 := by decide
  refine ⟨⟨by decide, by decide⟩, ⟨by decide, by decide⟩, ⟨by decide, by decide⟩, ⟨by decide, by decide⟩, ⟨fun j _ _ => ?_, trivial⟩, fun j _ => rfl⟩
  show 0 ≤ (0 : Int32).toInt ∧ (0 : Int32).toInt ≤ 3
  decide
theorem iv4_0 : IvX4 ob0 := by
  refine ⟨⟨fun j _ _ => ?_, trivial⟩, trivial⟩
  show 0 ≤ (0 : Int32).toInt ∧ (0 : Int32).toInt ≤ 9
  decide
theorem h_imgb (pl : List CR) (hpl : PLok pl) (o4 o5 o8 oi on : Ob) (h4 : IvX2 pl o4) (h5 : IvX4 o5) (hi : IvX2 pl oi) (hn : IvX4 on) : ∃ y, f_X8_image_b o4 o5 pl o8 oi on = some y ∧ IvX8 (gR o8 7) y.2.1 ∧ IvX2 pl y.2.2.1 ∧ IvX4 y.2.2.2 := by
  obtain ⟨z2, e2, g1, -, g2, -⟩ := s_X2_set_O oi on pl o4 o5 hi hn hpl h4 h5
  obtain ⟨z3, e3, g3, -⟩ := s_X8_grant o8 0 (rfl : IvX8 (gR o8 7) o8)
  refine ⟨(z3.1, z3.2, z2.1, z2.2), ?_, g3, g1, g2⟩
  unfold f_X8_image_b
  rw [e2]
  show ((f_X8_grant o8 0).bind fun z3 => some (z3.1, z3.2, z2.1, z2.2)) = _
  rw [e3]; rfl
theorem okp_0 : ok_0 JI := by
  intro S pl im0 im1 a1 a2 hJ
  obtain ⟨⟨h14, h20, ht, hb⟩, hpl, h1, h2, h3, h4, h5, h6, h7, h8, h9, h10, h11, h12, h13, hik, hi0, hi1⟩ := hJ
  obtain ⟨y2, e2, p2⟩ := s_X9_person (S 14) a1 a2 h14 
  obtain ⟨y1, e1, p1⟩ := s_X8_person (S 0) (S 4) (S 5) (S 11) a1 a2 (rfl : IvX8 (gR (S 0) 7) (S 0)) h4 h5 h11
  exact ⟨y2, e2, y1, e1, ⟨⟨p2.2.1, ((p2.2.2.1 20 (by decide)).trans h20), Tall.tis ht rfl p1.1 p2.2.2 (by decide) (by decide) (by decide) (t_person h4 ht.2.1 e1 e2).2, ⟨Eq.trans (rfl) (hb.1.trans (p2.2.2.2.1 12 (by decide)).symm), Eq.trans (p1.2.1.1 13 (by decide)) (hb.2.trans (p2.2.2.1 11 (by decide)).symm)⟩⟩, hpl, h1, h2, h3, p1.2.2.1, p1.2.2.2.2.1, h6, h7, h8, h9, h10, p1.2.2.2.2.2.2.1, h12, h13, (IK.eq p1.1 hik), hi0, hi1⟩⟩
theorem okp_1 : ok_1 JI := by
  intro S pl im0 im1 a1 a2 hJ
  obtain ⟨⟨h14, h20, ht, hb⟩, hpl, h1, h2, h3, h4, h5, h6, h7, h8, h9, h10, h11, h12, h13, hik, hi0, hi1⟩ := hJ
  obtain ⟨y2, e2, p2⟩ := s_X9_of (S 14) a1 a2 h14 ⟨by rw [h20]; decide, by rw [h20]; decide⟩
  obtain ⟨y1, e1, p1⟩ := s_X8_of (S 0) (S 3) (S 4) (S 5) (S 6) pl a1 a2 (rfl : IvX8 (gR (S 0) 7) (S 0)) h3 h4 h5 h6 hpl
  exact ⟨y2, e2, y1, e1, ⟨⟨p2.1, ((p2.2.1 20 (by decide)).trans h20), Tall.eq ht rfl rfl rfl rfl rfl rfl (rfl : gR (S 0) 7 = gR (S 0) 7) p2.2 (by decide) (by decide) (by decide) (by decide) (by decide) (by decide) (by decide) (by decide), ⟨Eq.trans (rfl) (hb.1.trans (p2.2.2.1 12 (by decide)).symm), Eq.trans (rfl) (hb.2.trans (p2.2.1 11 (by decide)).symm)⟩⟩, hpl, h1, h2, p1.1, h4, h5, h6, h7, h8, h9, h10, h11, h12, h13, hik, hi0, hi1⟩⟩
theorem okp_2 : ok_2 JI := by
  intro S pl im0 im1 a1 a2 a3 hJ
  obtain ⟨⟨h14, h20, ht, hb⟩, hpl, h1, h2, h3, h4, h5, h6, h7, h8, h9, h10, h11, h12, h13, hik, hi0, hi1⟩ := hJ
  obtain ⟨y2, e2, p2⟩ := s_X9_strength (S 14) a1 a2 a3 h14 
  obtain ⟨y1, e1, p1⟩ := s_X8_strength (S 0) (S 4) a1 a2 a3 (rfl : IvX8 (gR (S 0) 7) (S 0)) h4
  exact ⟨y2, e2, y1, e1, ⟨⟨p2.1, ((p2.2.1 20 (by decide)).trans h20), Tall.tis ht rfl p1.1 p2.2 (by decide) (by decide) (by decide) (t_strength h4 ht.2.1 e1 e2).2, ⟨Eq.trans (rfl) (hb.1.trans (p2.2.2.1 12 (by decide)).symm), Eq.trans (p1.2.1.1 13 (by decide)) (hb.2.trans (p2.2.1 11 (by decide)).symm)⟩⟩, hpl, h1, h2, h3, p1.2.2.1, h5, h6, h7, h8, h9, h10, h11, h12, h13, (IK.eq p1.1 hik), hi0, hi1⟩⟩
theorem okp_3 : ok_3 JI := by
  intro S pl im0 im1 a1 a2 a3 hJ
  obtain ⟨⟨h14, h20, ht, hb⟩, hpl, h1, h2, h3, h4, h5, h6, h7, h8, h9, h10, h11, h12, h13, hik, hi0, hi1⟩ := hJ
  obtain ⟨y2, e2, p2⟩ := s_X9_beats (S 14) a1 a2 a3 h14 
  obtain ⟨y1, e1, p1⟩ := s_X8_beats (S 0) (S 4) a1 a2 a3 (rfl : IvX8 (gR (S 0) 7) (S 0)) h4
  exact ⟨y2, e2, y1, e1, ⟨⟨p2.2.1, ((p2.2.2.1 20 (by decide)).trans h20), Tall.tis ht rfl p1.1 p2.2.2 (by decide) (by decide) (by decide) (t_beats h4 ht.2.1 e1 e2).2, ⟨Eq.trans (rfl) (hb.1.trans (p2.2.2.2.1 12 (by decide)).symm), Eq.trans (p1.2.1.1 13 (by decide)) (hb.2.trans (p2.2.2.1 11 (by decide)).symm)⟩⟩, hpl, h1, h2, h3, p1.2.2.1, h5, h6, h7, h8, h9, h10, h11, h12, h13, (IK.eq p1.1 hik), hi0, hi1⟩⟩
theorem okp_4 : ok_4 JI := by
  intro S pl im0 im1 a1 a2 hJ
  obtain ⟨⟨h14, h20, ht, hb⟩, hpl, h1, h2, h3, h4, h5, h6, h7, h8, h9, h10, h11, h12, h13, hik, hi0, hi1⟩ := hJ
  obtain ⟨y2, e2, p2⟩ := s_X9_placed (S 14) a1 a2 h14 ⟨by rw [h20]; decide, by rw [h20]; decide⟩
  obtain ⟨y1, e1, p1⟩ := s_X8_placed (S 0) (S 3) (S 4) (S 5) (S 6) pl a1 a2 (rfl : IvX8 (gR (S 0) 7) (S 0)) h3 h4 h5 h6 hpl
  exact ⟨y2, e2, y1, e1, ⟨⟨p2.2.1, ((p2.2.2.1 20 (by decide)).trans h20), Tall.eq ht rfl rfl rfl rfl rfl rfl (rfl : gR (S 0) 7 = gR (S 0) 7) p2.2.2 (by decide) (by decide) (by decide) (by decide) (by decide) (by decide) (by decide) (by decide), ⟨Eq.trans (rfl) (hb.1.trans (p2.2.2.2.1 12 (by decide)).symm), Eq.trans (rfl) (hb.2.trans (p2.2.2.1 11 (by decide)).symm)⟩⟩, hpl, h1, h2, p1.2.1, h4, h5, p1.2.2.2.1, h7, h8, h9, h10, h11, h12, h13, hik, hi0, hi1⟩⟩
theorem okp_5 : ok_5 JI := by
  intro S pl im0 im1 a1 a2 hJ
  obtain ⟨⟨h14, h20, ht, hb⟩, hpl, h1, h2, h3, h4, h5, h6, h7, h8, h9, h10, h11, h12, h13, hik, hi0, hi1⟩ := hJ
  obtain ⟨y2, e2, p2⟩ := s_X9_terms (S 14) a1 a2 h14 
  obtain ⟨y1, e1, p1⟩ := s_X8_terms (S 0) (S 4) (S 5) (S 11) a1 a2 (rfl : IvX8 (gR (S 0) 7) (S 0)) h4 h5 h11
  exact ⟨y2, e2, y1, e1, ⟨⟨p2.1, ((p2.2.1 20 (by decide)).trans h20), Tall.eq ht rfl (p1.2.2.2.1.1 7 (by decide)) (p1.2.2.2.1.1 8 (by decide)) (p1.2.2.2.1.2.1 1 (by decide)) (p1.2.2.2.1.2.1 3 (by decide)) (p1.2.2.2.1.2.1 2 (by decide)) p1.1 p2.2 (by decide) (by decide) (by decide) (by decide) (by decide) (by decide) (by decide) (by decide), ⟨Eq.trans (rfl) (hb.1.trans (p2.2.2.1 12 (by decide)).symm), Eq.trans (p1.2.1.1 13 (by decide)) (hb.2.trans (p2.2.1 11 (by decide)).symm)⟩⟩, hpl, h1, h2, h3, p1.2.2.1, p1.2.2.2.2.1, h6, h7, h8, h9, h10, p1.2.2.2.2.2.2.1, h12, h13, (IK.eq p1.1 hik), hi0, hi1⟩⟩
theorem okp_6 : ok_6 JI := by
  intro S pl im0 im1 a1 a2 a3 a4 a5 hJ
  obtain ⟨⟨h14, h20, ht, hb⟩, hpl, h1, h2, h3, h4, h5, h6, h7, h8, h9, h10, h11, h12, h13, hik, hi0, hi1⟩ := hJ
  obtain ⟨y2, e2, p2⟩ := s_X9_feed (S 14) a1 a2 a3 a4 a5 h14 
  obtain ⟨y1, e1, p1⟩ := s_X8_feed (S 0) (S 1) a1 a2 a3 a4 a5 (rfl : IvX8 (gR (S 0) 7) (S 0)) h1
  exact ⟨y2, e2, y1, e1, ⟨⟨p2.2.1, ((p2.2.2.1 20 (by decide)).trans h20), Tall.sz ht (feed_ts ht.1 h1.1 e1 e2).2 rfl rfl rfl rfl rfl (rfl : gR (S 0) 7 = gR (S 0) 7) p2.2.2 (by decide) (by decide) (by decide) (by decide) (by decide) (by decide) (by decide), ⟨feed_tb ht.1 hb.1 h1.1 e1 e2, Eq.trans (rfl) (hb.2.trans (p2.2.2.1 11 (by decide)).symm)⟩⟩, hpl, p1.2.1, h2, h3, h4, h5, h6, h7, h8, h9, h10, h11, h12, h13, hik, hi0, hi1⟩⟩
theorem okp_7 : ok_7 JI := by
  intro S pl im0 im1 a1 hJ
  obtain ⟨⟨h14, h20, ht, hb⟩, hpl, h1, h2, h3, h4, h5, h6, h7, h8, h9, h10, h11, h12, h13, hik, hi0, hi1⟩ := hJ
  obtain ⟨y2, e2, p2⟩ := s_X9_end (S 14) a1 h14 
  obtain ⟨y1, e1, p1⟩ := s_X8_end (S 0) (S 1) a1 (rfl : IvX8 (gR (S 0) 7) (S 0)) h1
  exact ⟨y2, e2, y1, e1, ⟨⟨p2.2.1, ((p2.2.2.1 20 (by decide)).trans h20), Tall.sz ht (end_ts ht.1 e1 e2).2 rfl rfl rfl rfl rfl (rfl : gR (S 0) 7 = gR (S 0) 7) p2.2.2 (by decide) (by decide) (by decide) (by decide) (by decide) (by decide) (by decide), ⟨Eq.trans (p1.2.2.2.1 0 (by decide)) (hb.1.trans (p2.2.2.2.1 12 (by decide)).symm), Eq.trans (rfl) (hb.2.trans (p2.2.2.1 11 (by decide)).symm)⟩⟩, hpl, p1.2.1, h2, h3, h4, h5, h6, h7, h8, h9, h10, h11, h12, h13, hik, hi0, hi1⟩⟩
theorem okp_8 : ok_8 JI := by
  intro S pl im0 im1  hJ
  obtain ⟨⟨h14, h20, ht, hb⟩, hpl, h1, h2, h3, h4, h5, h6, h7, h8, h9, h10, h11, h12, h13, hik, hi0, hi1⟩ := hJ
  obtain ⟨y2, e2, p2⟩ := s_X9_row (S 14)  h14 
  obtain ⟨y1, e1, p1⟩ := s_X8_row (S 0) (S 1) (S 4)  (rfl : IvX8 (gR (S 0) 7) (S 0)) h1 h4
  exact ⟨y2, e2, y1, e1, ⟨⟨p2.1, ((p2.2.1 20 (by decide)).trans h20), ⟨(row8_2 e1).trans (row9_13 e2).symm, (t_row h4 h1.1 ht.1 ht.2.1 hb.1 hb.2 e1 e2).2.1, ht.2.2.eq p1.1 (p2.2.2.1 5 (by decide)) (p2.2.2.1 4 (by decide))⟩, ⟨Eq.trans (p1.2.2.2.1.2.1 0 (by decide)) (hb.1.trans (p2.2.2.1 12 (by decide)).symm), (t_row h4 h1.1 ht.1 ht.2.1 hb.1 hb.2 e1 e2).2.2⟩⟩, hpl, p1.2.2.1, h2, h3, p1.2.2.2.2.1, h5, h6, h7, h8, h9, h10, h11, h12, h13, (IK.eq p1.1 hik), hi0, hi1⟩⟩
theorem okp_9 : ok_9 JI := by
  intro S pl im0 im1  hJ
  obtain ⟨⟨h14, h20, ht, hb⟩, hpl, h1, h2, h3, h4, h5, h6, h7, h8, h9, h10, h11, h12, h13, hik, hi0, hi1⟩ := hJ
  obtain ⟨y2, e2, p2⟩ := s_X9_blots (S 14)  h14 
  obtain ⟨y1, e1, p1⟩ := s_X8_blots (S 0)  (rfl : IvX8 (gR (S 0) 7) (S 0))
  exact ⟨y2, e2, y1, e1, ⟨⟨p2.1, ((p2.2.1 20 (by decide)).trans h20), Tall.eq ht rfl rfl rfl rfl rfl rfl (rfl : gR (S 0) 7 = gR (S 0) 7) p2.2 (by decide) (by decide) (by decide) (by decide) (by decide) (by decide) (by decide) (by decide), ⟨Eq.trans (rfl) (hb.1.trans (p2.2.2.1 12 (by decide)).symm), Eq.trans (rfl) (hb.2.trans (p2.2.1 11 (by decide)).symm)⟩⟩, hpl, h1, h2, h3, h4, h5, h6, h7, h8, h9, h10, h11, h12, h13, hik, hi0, hi1⟩⟩
theorem okp_10 : ok_10 JI := by
  intro S pl im0 im1 hJ
  obtain ⟨⟨h14, h20, ht, hb⟩, hpl, h1, h2, h3, h4, h5, h6, h7, h8, h9, h10, h11, h12, h13, hik, hi0, hi1⟩ := hJ
  obtain ⟨y2, e2, p2⟩ := s_X9_law (S 14)  h14 ⟨by rw [h20]; decide, by rw [h20]; decide⟩
  refine ⟨y2, e2, ?_⟩
  by_cases c1 : (gI (S 4) 9) < (6 : Int32)
  · obtain ⟨z1, ez1, -, g1, gk, g2, -⟩ := s_X6_readText (S 1) (S 2) 1 h1 h2 ⟨by decide, by decide⟩
    have hI1 : IvX6 (sI z1.2.1 2 0) := ipX6_2 g1 ⟨by decide, by decide⟩
    by_cases c2 : z1.1 = 0
    · obtain ⟨z3, ez3, g3, -⟩ := s_X8_refuse (S 0) (-6) (rfl : IvX8 (gR (S 0) 7) (S 0))
      refine Or.inl ⟨(z3.1, z3.2, sI z1.2.1 2 0, z1.2.2), ?_, ⟨⟨p2.1, p2.2.2, Tall.sz ht ((rfl : gI (sI (z1.2.1) 2 0) 2 = 0).trans (law9_13 e2).symm) rfl rfl rfl rfl rfl g3 p2.2.1 (by decide) (by decide) (by decide) (by decide) (by decide) (by decide) (by decide), ⟨Eq.trans (gk.2.1 0 (by decide)) (hb.1.trans (p2.2.1.2.1 12 (by decide)).symm), Eq.trans (refuse_13 ez3) (hb.2.trans (p2.2.1.1 11 (by decide)).symm)⟩⟩, hpl, hI1, g2, h3, h4, h5, h6, h7, h8, h9, h10, h11, h12, h13, IK.eq g3 hik, hi0, hi1⟩⟩
      unfold f_X8_law_R
      rw [if_pos c1, ez1]
      show (if z1.1 = (0 : Int32) then ((f_X8_refuse (S 0) (-6 : Int32)).bind fun z3 => some (z3.1, z3.2, sI z1.2.1 2 0, z1.2.2)) else none) = _
      rw [if_pos c2, ez3]; rfl
    · obtain ⟨oc, eoc, hoc⟩ := h_kept z1.2.2 g2
      refine Or.inr ⟨(S 0, sI z1.2.1 2 0, z1.2.2, S 4), ?_, oc, eoc, fun a q k _ => ?_, fun x hx => ?_⟩
      · unfold f_X8_law_a
        rw [if_pos c1, ez1]
        show (if z1.1 = (0 : Int32) then none else some (S 0, sI z1.2.1 2 0, z1.2.2, S 4)) = _
        rw [if_neg c2]
      · obtain ⟨y, ey, -⟩ := h_lawb pl (a, q, k, (gI z1.2.2 7).toNatClampNeg, (gI z1.2.2 8).toNatClampNeg, oc) hpl hoc (S 0) (S 4) h4
        exact ⟨y, ey⟩
      · obtain ⟨y, ey, q1, q2⟩ := h_lawb pl (x.1, x.2.1, x.2.2.1, (gI z1.2.2 7).toNatClampNeg, (gI z1.2.2 8).toNatClampNeg, oc) hpl hoc (S 0) (S 4) h4
        have exy : y = x.2.2.2 := Option.some.inj (ey.symm.trans hx.2)
        rw [exy] at q1 q2
        exact ⟨⟨p2.1, p2.2.2, Tall.sz ht ((rfl : gI (sI (z1.2.1) 2 0) 2 = 0).trans (law9_13 e2).symm) (by rw [← exy]; exact (lawb_i ey).1) (by rw [← exy]; exact (lawb_i ey).2.1) (by rw [← exy]; exact (lawb_i ey).2.2.1) (by rw [← exy]; exact (lawb_i ey).2.2.2) (by rw [← exy]; exact lawb_2 ey) q1 p2.2.1 (by decide) (by decide) (by decide) (by decide) (by decide) (by decide) (by decide), ⟨Eq.trans (gk.2.1 0 (by decide)) (hb.1.trans (p2.2.1.2.1 12 (by decide)).symm), Eq.trans ((by rw [← exy]; exact lawb_13 ey)) (hb.2.trans (p2.2.1.1 11 (by decide)).symm)⟩⟩, hpl.app hoc, hI1, g2, h3, q2, h5, h6, h7, h8.app, h9, h10, h11, h12, h13, IK.eq q1 hik, fun r hr => ⟨(hi0 r hr).1.app, (hi0 r hr).2⟩, fun r hr => ⟨(hi1 r hr).1.app, (hi1 r hr).2⟩⟩
  · obtain ⟨z5, ez5, g5, -⟩ := s_X8_refuse (S 0) (-5) (rfl : IvX8 (gR (S 0) 7) (S 0))
    have hI1 : IvX6 (sI (S 1) 2 0) := ipX6_2 h1 ⟨by decide, by decide⟩
    refine Or.inl ⟨(z5.1, z5.2, sI (S 1) 2 0, S 2), ?_, ⟨⟨p2.1, p2.2.2, Tall.sz ht ((rfl : gI (sI (S 1) 2 0) 2 = 0).trans (law9_13 e2).symm) rfl rfl rfl rfl rfl g5 p2.2.1 (by decide) (by decide) (by decide) (by decide) (by decide) (by decide) (by decide), ⟨Eq.trans (rfl) (hb.1.trans (p2.2.1.2.1 12 (by decide)).symm), Eq.trans (refuse_13 ez5) (hb.2.trans (p2.2.1.1 11 (by decide)).symm)⟩⟩, hpl, hI1, h2, h3, h4, h5, h6, h7, h8, h9, h10, h11, h12, h13, IK.eq g5 hik, hi0, hi1⟩⟩
    unfold f_X8_law_R
    rw [if_neg c1]
    show ((f_X8_refuse (S 0) (-5 : Int32)).bind fun z5 => some (z5.1, z5.2, sI (S 1) 2 0, S 2)) = _
    rw [ez5]; rfl
theorem okp_11 : ok_11 JI := by
  intro S pl im0 im1  hJ
  obtain ⟨⟨h14, h20, ht, hb⟩, hpl, h1, h2, h3, h4, h5, h6, h7, h8, h9, h10, h11, h12, h13, hik, hi0, hi1⟩ := hJ
  obtain ⟨y2, e2, p2⟩ := s_X9_orders (S 14)  h14 ⟨by rw [h20]; decide, by rw [h20]; decide⟩
  obtain ⟨y1, e1, p1⟩ := s_X8_orders (S 0) (S 1) (S 2) (S 3) (S 4) (S 5) (S 6) (S 11) (S 12) (S 13) pl  (rfl : IvX8 (gR (S 0) 7) (S 0)) h1 h2 h3 h4 h5 h6 h11 h12 h13 hpl
  exact ⟨y2, e2, y1, e1, ⟨⟨p2.1, p2.2.2.1, Tall.sz ht ((orders8_2 e1).trans (p2.2.2.2).symm) rfl rfl rfl rfl rfl p1.1 p2.2.1 (by decide) (by decide) (by decide) (by decide) (by decide) (by decide) (by decide), ⟨Eq.trans (p1.2.2.2.1.2.1 0 (by decide)) (hb.1.trans (p2.2.1.2.1 12 (by decide)).symm), Eq.trans (p1.2.1.1 13 (by decide)) (hb.2.trans (p2.2.1.1 11 (by decide)).symm)⟩⟩, hpl, p1.2.2.1, p1.2.2.2.2.1, p1.2.2.2.2.2.2.1, h4, p1.2.2.2.2.2.2.2.2.1, p1.2.2.2.2.2.2.2.2.2.2.1, h7, h8, h9, h10, p1.2.2.2.2.2.2.2.2.2.2.2.2.1, p1.2.2.2.2.2.2.2.2.2.2.2.2.2.2.1, p1.2.2.2.2.2.2.2.2.2.2.2.2.2.2.2.2.1, (IK.eq p1.1 hik), hi0, hi1⟩⟩
theorem okp_12 : ok_12 JI := by
  intro S pl im0 im1  hJ
  obtain ⟨⟨h14, h20, ht, hb⟩, hpl, h1, h2, h3, h4, h5, h6, h7, h8, h9, h10, h11, h12, h13, hik, hi0, hi1⟩ := hJ
  obtain ⟨y2, e2, p2⟩ := s_X9_fault (S 14)  h14 
  obtain ⟨y1, e1, p1⟩ := s_X8_fault (S 0) (S 1)  (rfl : IvX8 (gR (S 0) 7) (S 0)) h1
  exact ⟨y2, e2, y1, e1, ⟨⟨p2.1, ((p2.2.1 20 (by decide)).trans h20), Tall.eq ht rfl rfl rfl rfl rfl rfl (rfl : gR (S 0) 7 = gR (S 0) 7) p2.2 (by decide) (by decide) (by decide) (by decide) (by decide) (by decide) (by decide) (by decide), ⟨Eq.trans (rfl) (hb.1.trans (p2.2.2.1 12 (by decide)).symm), Eq.trans (rfl) (hb.2.trans (p2.2.1 11 (by decide)).symm)⟩⟩, hpl, h1, h2, h3, h4, h5, h6, h7, h8, h9, h10, h11, h12, h13, hik, hi0, hi1⟩⟩
theorem okp_13 : ok_13 JI := by
  intro S pl im0 im1  hJ
  obtain ⟨⟨h14, h20, ht, hb⟩, hpl, h1, h2, h3, h4, h5, h6, h7, h8, h9, h10, h11, h12, h13, hik, hi0, hi1⟩ := hJ
  obtain ⟨y2, e2, p2⟩ := s_X9_stopped (S 14)  h14 
  obtain ⟨y1, e1, p1⟩ := s_X8_stopped (S 0)  (rfl : IvX8 (gR (S 0) 7) (S 0))
  exact ⟨y2, e2, y1, e1, ⟨⟨p2.1, ((p2.2.1 20 (by decide)).trans h20), Tall.eq ht rfl rfl rfl rfl rfl rfl (rfl : gR (S 0) 7 = gR (S 0) 7) p2.2 (by decide) (by decide) (by decide) (by decide) (by decide) (by decide) (by decide) (by decide), ⟨Eq.trans (rfl) (hb.1.trans (p2.2.2.1 12 (by decide)).symm), Eq.trans (rfl) (hb.2.trans (p2.2.1 11 (by decide)).symm)⟩⟩, hpl, h1, h2, h3, h4, h5, h6, h7, h8, h9, h10, h11, h12, h13, hik, hi0, hi1⟩⟩
theorem okp_14 : ok_14 JI := by
  intro S pl im0 im1 a1 hJ
  obtain ⟨⟨h14, h20, ht, hb⟩, hpl, h1, h2, h3, h4, h5, h6, h7, h8, h9, h10, h11, h12, h13, hik, hi0, hi1⟩ := hJ
  obtain ⟨y2, e2, p2⟩ := s_X9_force (S 14) a1 h14 
  obtain ⟨y1, e1, p1⟩ := s_X8_force (S 0) (S 4) a1 (rfl : IvX8 (gR (S 0) 7) (S 0)) h4
  exact ⟨y2, e2, y1, e1, ⟨⟨p2.2.1, ((p2.2.2.1 20 (by decide)).trans h20), Tall.eq ht rfl (p1.2.2.2.1 7 (by decide)) (p1.2.2.2.1 8 (by decide)) (p1.2.2.2.2.1 1 (by decide)) (p1.2.2.2.2.1 3 (by decide)) (p1.2.2.2.2.1 2 (by decide)) p1.1 p2.2.2 (by decide) (by decide) (by decide) (by decide) (by decide) (by decide) (by decide) (by decide), ⟨Eq.trans (rfl) (hb.1.trans (p2.2.2.2.1 12 (by decide)).symm), Eq.trans (p1.2.1.1 13 (by decide)) (hb.2.trans (p2.2.2.1 11 (by decide)).symm)⟩⟩, hpl, h1, h2, h3, p1.2.2.1, h5, h6, h7, h8, h9, h10, h11, h12, h13, (IK.eq p1.1 hik), hi0, hi1⟩⟩
theorem okp_15 : ok_15 JI := by
  intro S pl im0 im1 a1 hJ
  obtain ⟨⟨h14, h20, ht, hb⟩, hpl, h1, h2, h3, h4, h5, h6, h7, h8, h9, h10, h11, h12, h13, hik, hi0, hi1⟩ := hJ
  obtain ⟨y2, e2, p2⟩ := s_X9_race (S 14) a1 h14 ⟨by rw [h20]; decide, by rw [h20]; decide⟩
  obtain ⟨y1, e1, p1⟩ := s_X8_race (S 0) (S 3) (S 4) (S 5) (S 6) (S 11) pl a1 (rfl : IvX8 (gR (S 0) 7) (S 0)) h3 h4 h5 h6 h11 hpl
  exact ⟨y2, e2, y1, e1, ⟨⟨p2.2.1, ((p2.2.2.1 20 (by decide)).trans h20), Tall.eq ht rfl rfl rfl rfl rfl rfl p1.1 p2.2.2 (by decide) (by decide) (by decide) (by decide) (by decide) (by decide) (by decide) (by decide), ⟨Eq.trans (rfl) (hb.1.trans (p2.2.2.2.1 12 (by decide)).symm), Eq.trans (p1.2.1.1 13 (by decide)) (hb.2.trans (p2.2.2.1 11 (by decide)).symm)⟩⟩, hpl, h1, h2, p1.2.2.1, h4, p1.2.2.2.2.1, p1.2.2.2.2.2.2.1, h7, h8, h9, h10, p1.2.2.2.2.2.2.2.2.1, h12, h13, (IK.eq p1.1 hik), hi0, hi1⟩⟩
theorem okp_16 : ok_16 JI := by
  intro S pl im0 im1 a1 hJ
  obtain ⟨⟨h14, h20, ht, hb⟩, hpl, h1, h2, h3, h4, h5, h6, h7, h8, h9, h10, h11, h12, h13, hik, hi0, hi1⟩ := hJ
  obtain ⟨y2, e2, p2⟩ := s_X9_enter (S 14) a1 h14 ⟨by rw [h20]; decide, by rw [h20]; decide⟩
  obtain ⟨y1, e1, p1⟩ := s_X8_enter (S 0) (S 3) (S 4) (S 5) (S 6) (S 11) pl a1 (rfl : IvX8 (gR (S 0) 7) (S 0)) h3 h4 h5 h6 h11 hpl
  exact ⟨y2, e2, y1, e1, ⟨⟨p2.2.1, ((p2.2.2.1 20 (by decide)).trans h20), Tall.eq ht rfl rfl rfl rfl rfl rfl p1.1 p2.2.2 (by decide) (by decide) (by decide) (by decide) (by decide) (by decide) (by decide) (by decide), ⟨Eq.trans (rfl) (hb.1.trans (p2.2.2.2.1 12 (by decide)).symm), Eq.trans (p1.2.1.1 13 (by decide)) (hb.2.trans (p2.2.2.1 11 (by decide)).symm)⟩⟩, hpl, h1, h2, p1.2.2.1, h4, p1.2.2.2.2.1, p1.2.2.2.2.2.2.1, h7, h8, h9, h10, p1.2.2.2.2.2.2.2.2.1, h12, h13, (IK.eq p1.1 hik), hi0, hi1⟩⟩
theorem okp_17 : ok_17 JI := by
  intro S pl im0 im1 a1 hJ
  obtain ⟨⟨h14, h20, ht, hb⟩, hpl, h1, h2, h3, h4, h5, h6, h7, h8, h9, h10, h11, h12, h13, hik, hi0, hi1⟩ := hJ
  obtain ⟨y2, e2, p2⟩ := s_X9_take (S 14) a1 h14 
  obtain ⟨y1, e1, p1⟩ := s_X8_take (S 0) (S 3) (S 4) (S 5) (S 6) (S 11) pl a1 (rfl : IvX8 (gR (S 0) 7) (S 0)) h3 h4 h5 h6 h11 hpl
  exact ⟨y2, e2, y1, e1, ⟨⟨p2.2.1, ((p2.2.2.1 20 (by decide)).trans h20), Tall.eq ht rfl rfl rfl rfl rfl rfl p1.1 p2.2.2 (by decide) (by decide) (by decide) (by decide) (by decide) (by decide) (by decide) (by decide), ⟨Eq.trans (rfl) (hb.1.trans (p2.2.2.2.1 12 (by decide)).symm), Eq.trans (p1.2.1.1 13 (by decide)) (hb.2.trans (p2.2.2.1 11 (by decide)).symm)⟩⟩, hpl, h1, h2, p1.2.2.1, h4, p1.2.2.2.2.1, p1.2.2.2.2.2.2.1, h7, h8, h9, h10, p1.2.2.2.2.2.2.2.2.1, h12, h13, (IK.eq p1.1 hik), hi0, hi1⟩⟩
theorem okp_18 : ok_18 JI := by
  intro S pl im0 im1  hJ
  obtain ⟨⟨h14, h20, ht, hb⟩, hpl, h1, h2, h3, h4, h5, h6, h7, h8, h9, h10, h11, h12, h13, hik, hi0, hi1⟩ := hJ
  obtain ⟨y2, e2, p2⟩ := s_X9_pass (S 14)  h14 ⟨by rw [h20]; decide, by rw [h20]; decide⟩
  obtain ⟨y1, e1, p1⟩ := s_X8_pass (S 0) (S 3) (S 4) (S 5) (S 6) (S 11) pl  (rfl : IvX8 (gR (S 0) 7) (S 0)) h3 h4 h5 h6 h11 hpl
  exact ⟨y2, e2, y1, e1, ⟨⟨p2.2.1, ((p2.2.2.1 20 (by decide)).trans h20), Tall.eq ht rfl rfl rfl rfl rfl rfl p1.1 p2.2.2 (by decide) (by decide) (by decide) (by decide) (by decide) (by decide) (by decide) (by decide), ⟨Eq.trans (rfl) (hb.1.trans (p2.2.2.2.1 12 (by decide)).symm), Eq.trans (p1.2.1.1 13 (by decide)) (hb.2.trans (p2.2.2.1 11 (by decide)).symm)⟩⟩, hpl, h1, h2, p1.2.2.1, h4, p1.2.2.2.2.1, p1.2.2.2.2.2.2.1, h7, h8, h9, h10, p1.2.2.2.2.2.2.2.2.1, h12, h13, (IK.eq p1.1 hik), hi0, hi1⟩⟩
theorem okp_19 : ok_19 JI := by
  intro S pl im0 im1  hJ
  obtain ⟨⟨h14, h20, ht, hb⟩, hpl, h1, h2, h3, h4, h5, h6, h7, h8, h9, h10, h11, h12, h13, hik, hi0, hi1⟩ := hJ
  obtain ⟨y2, e2, p2⟩ := s_X9_undo (S 14)  h14 
  obtain ⟨y1, e1, p1⟩ := s_X8_undo (S 0) (S 4) (S 5) (S 11)  (rfl : IvX8 (gR (S 0) 7) (S 0)) h4 h5 h11
  exact ⟨y2, e2, y1, e1, ⟨⟨p2.2.1, ((p2.2.2.1 20 (by decide)).trans h20), Tall.eq ht rfl rfl rfl rfl rfl rfl p1.1 p2.2.2 (by decide) (by decide) (by decide) (by decide) (by decide) (by decide) (by decide) (by decide), ⟨Eq.trans (rfl) (hb.1.trans (p2.2.2.2.1 12 (by decide)).symm), Eq.trans (p1.2.1.1 13 (by decide)) (hb.2.trans (p2.2.2.1 11 (by decide)).symm)⟩⟩, hpl, h1, h2, h3, h4, p1.2.2.1, h6, h7, h8, h9, h10, p1.2.2.2.2.1, h12, h13, (IK.eq p1.1 hik), hi0, hi1⟩⟩
theorem okp_20 : ok_20 JI := by
  intro S pl im0 im1 a1 a2 a3 a4 hJ
  obtain ⟨⟨h14, h20, ht, hb⟩, hpl, h1, h2, h3, h4, h5, h6, h7, h8, h9, h10, h11, h12, h13, hik, hi0, hi1⟩ := hJ
  obtain ⟨y2, e2, p2⟩ := s_X9_be (S 14) a1 a2 a3 a4 h14 ⟨by rw [h20]; decide, by rw [h20]; decide⟩
  obtain ⟨y1, e1, p1⟩ := s_X8_be (S 0) (S 3) (S 4) (S 5) (S 6) (S 7) pl a1 a2 a3 a4 (rfl : IvX8 (gR (S 0) 7) (S 0)) h3 h4 h5 h6 h7 hpl
  exact ⟨y2, e2, y1, e1, ⟨⟨p2.1, ((p2.2.1 20 (by decide)).trans h20), Tall.eq ht rfl rfl rfl rfl rfl rfl (rfl : gR (S 0) 7 = gR (S 0) 7) p2.2 (by decide) (by decide) (by decide) (by decide) (by decide) (by decide) (by decide) (by decide), ⟨Eq.trans (rfl) (hb.1.trans (p2.2.2.1 12 (by decide)).symm), Eq.trans (rfl) (hb.2.trans (p2.2.1 11 (by decide)).symm)⟩⟩, hpl, h1, h2, p1.1, h4, h5, h6, p1.2.2.1, h8, h9, h10, h11, h12, h13, hik, hi0, hi1⟩⟩
theorem okp_21 : ok_21 JI := by
  intro S pl im0 im1 a1 a2 hJ
  obtain ⟨⟨h14, h20, ht, hb⟩, hpl, h1, h2, h3, h4, h5, h6, h7, h8, h9, h10, h11, h12, h13, hik, hi0, hi1⟩ := hJ
  obtain ⟨y2, e2, p2⟩ := s_X9_seen (S 14) a1 a2 h14 
  obtain ⟨y1, e1, p1⟩ := s_X8_seen (S 0) (S 4) a1 a2 (rfl : IvX8 (gR (S 0) 7) (S 0)) h4
  exact ⟨y2, e2, y1, e1, ⟨⟨p2.2.1, ((p2.2.2.1 20 (by decide)).trans h20), Tall.tis ht rfl p1.1 p2.2.2 (by decide) (by decide) (by decide) (t_seen h4 ht.2.1 e1 e2).2, ⟨Eq.trans (rfl) (hb.1.trans (p2.2.2.2.1 12 (by decide)).symm), Eq.trans (p1.2.1.1 13 (by decide)) (hb.2.trans (p2.2.2.1 11 (by decide)).symm)⟩⟩, hpl, h1, h2, h3, p1.2.2.1, h5, h6, h7, h8, h9, h10, h11, h12, h13, (IK.eq p1.1 hik), hi0, hi1⟩⟩
theorem okp_22 : ok_22 JI := by
  intro S pl im0 im1  hJ
  obtain ⟨⟨h14, h20, ht, hb⟩, hpl, h1, h2, h3, h4, h5, h6, h7, h8, h9, h10, h11, h12, h13, hik, hi0, hi1⟩ := hJ
  obtain ⟨y2, e2, p2⟩ := s_X9_forget (S 14)  h14 
  obtain ⟨y1, e1, p1⟩ := s_X8_forget (S 0) (S 4)  (rfl : IvX8 (gR (S 0) 7) (S 0)) h4
  exact ⟨y2, e2, y1, e1, ⟨⟨p2.2.1, ((p2.2.2.1 20 (by decide)).trans h20), Tall.tis ht rfl (rfl : gR (S 0) 7 = gR (S 0) 7) p2.2.2 (by decide) (by decide) (by decide) (t_forget ht.2.1 e1 e2).2, ⟨Eq.trans (rfl) (hb.1.trans (p2.2.2.2.1 12 (by decide)).symm), Eq.trans (rfl) (hb.2.trans (p2.2.2.1 11 (by decide)).symm)⟩⟩, hpl, h1, h2, h3, p1.2.1, h5, h6, h7, h8, h9, h10, h11, h12, h13, hik, hi0, hi1⟩⟩
theorem okp_23 : ok_23 JI := by
  intro S pl im0 im1  hJ
  obtain ⟨⟨h14, h20, ht, hb⟩, hpl, h1, h2, h3, h4, h5, h6, h7, h8, h9, h10, h11, h12, h13, hik, hi0, hi1⟩ := hJ
  obtain ⟨y2, e2, p2⟩ := s_X9_canBe (S 14)  h14 ⟨by rw [h20]; decide, by rw [h20]; decide⟩
  obtain ⟨y1, e1, p1⟩ := s_X8_canBe (S 0) (S 3) (S 4) (S 5) (S 6) (S 7) pl  (rfl : IvX8 (gR (S 0) 7) (S 0)) h3 h4 h5 h6 h7 hpl
  exact ⟨y2, e2, y1, e1, ⟨⟨p2.2.1, ((p2.2.2.1 20 (by decide)).trans h20), Tall.eq ht rfl rfl rfl rfl rfl rfl (rfl : gR (S 0) 7 = gR (S 0) 7) p2.2.2 (by decide) (by decide) (by decide) (by decide) (by decide) (by decide) (by decide) (by decide), ⟨Eq.trans (rfl) (hb.1.trans (p2.2.2.2.1 12 (by decide)).symm), Eq.trans (rfl) (hb.2.trans (p2.2.2.1 11 (by decide)).symm)⟩⟩, hpl, h1, h2, p1.2.1, h4, h5, h6, h7, h8, h9, h10, h11, h12, h13, hik, hi0, hi1⟩⟩
theorem okp_24 : ok_24 JI := by
  intro S pl im0 im1 a1 hJ
  obtain ⟨⟨h14, h20, ht, hb⟩, hpl, h1, h2, h3, h4, h5, h6, h7, h8, h9, h10, h11, h12, h13, hik, hi0, hi1⟩ := hJ
  obtain ⟨y2, e2, p2⟩ := s_X9_look (S 14) a1 h14 ⟨by rw [h20]; decide, by rw [h20]; decide⟩
  obtain ⟨y1, e1, p1⟩ := s_X8_look (S 0) (S 3) (S 4) (S 5) (S 6) (S 7) pl a1 (rfl : IvX8 (gR (S 0) 7) (S 0)) h3 h4 h5 h6 h7 hpl
  exact ⟨y2, e2, y1, e1, ⟨⟨p2.2.1, ((p2.2.2.1 20 (by decide)).trans h20), Tall.eq ht rfl rfl rfl rfl rfl rfl (rfl : gR (S 0) 7 = gR (S 0) 7) p2.2.2 (by decide) (by decide) (by decide) (by decide) (by decide) (by decide) (by decide) (by decide), ⟨Eq.trans (rfl) (hb.1.trans (p2.2.2.2.1 12 (by decide)).symm), Eq.trans (rfl) (hb.2.trans (p2.2.2.1 11 (by decide)).symm)⟩⟩, hpl, h1, h2, p1.1, h4, h5, h6, p1.2.2.1, h8, h9, h10, h11, h12, h13, hik, hi0, hi1⟩⟩
theorem okp_25 : ok_25 JI := by
  intro S pl im0 im1 a1 hJ
  obtain ⟨⟨h14, h20, ht, hb⟩, hpl, h1, h2, h3, h4, h5, h6, h7, h8, h9, h10, h11, h12, h13, hik, hi0, hi1⟩ := hJ
  obtain ⟨y2, e2, p2⟩ := s_X9_ranking (S 14) a1 h14 
  obtain ⟨y1, e1, p1⟩ := s_X8_ranking (S 0) (S 4) (S 7) a1 (rfl : IvX8 (gR (S 0) 7) (S 0)) h4 h7
  exact ⟨y2, e2, y1, e1, ⟨⟨p2.1, ((p2.2.1 20 (by decide)).trans h20), Tall.eq ht rfl rfl rfl rfl rfl rfl (rfl : gR (S 0) 7 = gR (S 0) 7) p2.2 (by decide) (by decide) (by decide) (by decide) (by decide) (by decide) (by decide) (by decide), ⟨Eq.trans (rfl) (hb.1.trans (p2.2.2.1 12 (by decide)).symm), Eq.trans (rfl) (hb.2.trans (p2.2.1 11 (by decide)).symm)⟩⟩, hpl, h1, h2, h3, h4, h5, h6, p1.1, h8, h9, h10, h11, h12, h13, hik, hi0, hi1⟩⟩
theorem okp_26 : ok_26 JI := by
  intro S pl im0 im1  hJ
  obtain ⟨⟨h14, h20, ht, hb⟩, hpl, h1, h2, h3, h4, h5, h6, h7, h8, h9, h10, h11, h12, h13, hik, hi0, hi1⟩ := hJ
  obtain ⟨y2, e2, p2⟩ := s_X9_circles (S 14)  h14 
  obtain ⟨y1, e1, p1⟩ := s_X8_circles (S 0) (S 4) (S 7)  (rfl : IvX8 (gR (S 0) 7) (S 0)) h4 h7
  exact ⟨y2, e2, y1, e1, ⟨⟨p2.1, ((p2.2.1 20 (by decide)).trans h20), Tall.eq ht rfl rfl rfl rfl rfl rfl (rfl : gR (S 0) 7 = gR (S 0) 7) p2.2 (by decide) (by decide) (by decide) (by decide) (by decide) (by decide) (by decide) (by decide), ⟨Eq.trans (rfl) (hb.1.trans (p2.2.2.1 12 (by decide)).symm), Eq.trans (rfl) (hb.2.trans (p2.2.1 11 (by decide)).symm)⟩⟩, hpl, h1, h2, h3, h4, h5, h6, h7, h8, h9, h10, h11, h12, h13, hik, hi0, hi1⟩⟩
theorem okp_27 : ok_27 JI := by
  intro S pl im0 im1 a1 hJ
  obtain ⟨⟨h14, h20, ht, hb⟩, hpl, h1, h2, h3, h4, h5, h6, h7, h8, h9, h10, h11, h12, h13, hik, hi0, hi1⟩ := hJ
  obtain ⟨y2, e2, p2⟩ := s_X9_crowned (S 14) a1 h14 ⟨by rw [h20]; decide, by rw [h20]; decide⟩
  obtain ⟨y1, e1, p1⟩ := s_X8_crowned (S 0) (S 3) (S 4) (S 5) (S 6) (S 7) pl a1 (rfl : IvX8 (gR (S 0) 7) (S 0)) h3 h4 h5 h6 h7 hpl
  exact ⟨y2, e2, y1, e1, ⟨⟨p2.1, ((p2.2.1 20 (by decide)).trans h20), Tall.eq ht rfl rfl rfl rfl rfl rfl (rfl : gR (S 0) 7 = gR (S 0) 7) p2.2 (by decide) (by decide) (by decide) (by decide) (by decide) (by decide) (by decide) (by decide), ⟨Eq.trans (rfl) (hb.1.trans (p2.2.2.1 12 (by decide)).symm), Eq.trans (rfl) (hb.2.trans (p2.2.1 11 (by decide)).symm)⟩⟩, hpl, h1, h2, p1.1, h4, h5, h6, p1.2.2.1, h8, h9, h10, h11, h12, h13, hik, hi0, hi1⟩⟩
theorem okp_28 : ok_28 JI := by
  intro S pl im0 im1 a1 hJ
  obtain ⟨⟨h14, h20, ht, hb⟩, hpl, h1, h2, h3, h4, h5, h6, h7, h8, h9, h10, h11, h12, h13, hik, hi0, hi1⟩ := hJ
  obtain ⟨y2, e2, p2⟩ := s_X9_heir (S 14) a1 h14 
  obtain ⟨y1, e1, p1⟩ := s_X8_heir (S 0) (S 4) (S 7) a1 (rfl : IvX8 (gR (S 0) 7) (S 0)) h4 h7
  exact ⟨y2, e2, y1, e1, heir_eq h4 h14 ht.2.1 e1 e2, ⟨⟨p2.2.1, ((p2.2.2.1 20 (by decide)).trans h20), Tall.eq ht rfl rfl rfl rfl rfl rfl (rfl : gR (S 0) 7 = gR (S 0) 7) p2.2.2 (by decide) (by decide) (by decide) (by decide) (by decide) (by decide) (by decide) (by decide), ⟨Eq.trans (rfl) (hb.1.trans (p2.2.2.2.1 12 (by decide)).symm), Eq.trans (rfl) (hb.2.trans (p2.2.2.1 11 (by decide)).symm)⟩⟩, hpl, h1, h2, h3, h4, h5, h6, p1.2.1, h8, h9, h10, h11, h12, h13, hik, hi0, hi1⟩⟩
theorem okp_29 : ok_29 JI := by
  intro S pl im0 im1 a1 a2 hJ
  obtain ⟨⟨h14, h20, ht, hb⟩, hpl, h1, h2, h3, h4, h5, h6, h7, h8, h9, h10, h11, h12, h13, hik, hi0, hi1⟩ := hJ
  obtain ⟨y2, e2, p2⟩ := s_X9_ladder (S 14) a1 a2 h14 
  obtain ⟨y1, e1, p1⟩ := s_X8_ladder (S 0) (S 7) a1 a2 (rfl : IvX8 (gR (S 0) 7) (S 0)) h7
  exact ⟨y2, e2, y1, e1, ⟨⟨p2.1, ((p2.2.1 20 (by decide)).trans h20), Tall.eq ht rfl rfl rfl rfl rfl rfl (rfl : gR (S 0) 7 = gR (S 0) 7) p2.2 (by decide) (by decide) (by decide) (by decide) (by decide) (by decide) (by decide) (by decide), ⟨Eq.trans (rfl) (hb.1.trans (p2.2.2.1 12 (by decide)).symm), Eq.trans (rfl) (hb.2.trans (p2.2.1 11 (by decide)).symm)⟩⟩, hpl, h1, h2, h3, h4, h5, h6, p1.1, h8, h9, h10, h11, h12, h13, hik, hi0, hi1⟩⟩
theorem okp_30 : ok_30 JI := by
  intro S pl im0 im1  hJ
  obtain ⟨⟨h14, h20, ht, hb⟩, hpl, h1, h2, h3, h4, h5, h6, h7, h8, h9, h10, h11, h12, h13, hik, hi0, hi1⟩ := hJ
  obtain ⟨y2, e2, p2⟩ := s_X9_never (S 14)  h14 ⟨by rw [h20]; decide, by rw [h20]; decide⟩
  obtain ⟨y1, e1, p1⟩ := s_X8_never (S 0) (S 3) (S 4) (S 5) (S 6) (S 7) pl  (rfl : IvX8 (gR (S 0) 7) (S 0)) h3 h4 h5 h6 h7 hpl
  exact ⟨y2, e2, y1, e1, ⟨⟨p2.1, ((p2.2.1 20 (by decide)).trans h20), Tall.eq ht rfl rfl rfl rfl rfl rfl (rfl : gR (S 0) 7 = gR (S 0) 7) p2.2 (by decide) (by decide) (by decide) (by decide) (by decide) (by decide) (by decide) (by decide), ⟨Eq.trans (rfl) (hb.1.trans (p2.2.2.1 12 (by decide)).symm), Eq.trans (rfl) (hb.2.trans (p2.2.1 11 (by decide)).symm)⟩⟩, hpl, h1, h2, p1.1, h4, h5, h6, p1.2.2.1, h8, h9, h10, h11, h12, h13, hik, hi0, hi1⟩⟩
theorem okp_31 : ok_31 JI := by
  intro S pl im0 im1 a1 a2 hJ
  obtain ⟨⟨h14, h20, ht, hb⟩, hpl, h1, h2, h3, h4, h5, h6, h7, h8, h9, h10, h11, h12, h13, hik, hi0, hi1⟩ := hJ
  obtain ⟨y2, e2, p2⟩ := s_X9_few (S 14) a1 a2 h14 
  obtain ⟨y1, e1, p1⟩ := s_X8_few (S 0) (S 4) (S 7) a1 a2 (rfl : IvX8 (gR (S 0) 7) (S 0)) h4 h7
  exact ⟨y2, e2, y1, e1, ⟨⟨p2.1, ((p2.2.1 20 (by decide)).trans h20), Tall.eq ht rfl rfl rfl rfl rfl rfl (rfl : gR (S 0) 7 = gR (S 0) 7) p2.2 (by decide) (by decide) (by decide) (by decide) (by decide) (by decide) (by decide) (by decide), ⟨Eq.trans (rfl) (hb.1.trans (p2.2.2.1 12 (by decide)).symm), Eq.trans (rfl) (hb.2.trans (p2.2.1 11 (by decide)).symm)⟩⟩, hpl, h1, h2, h3, h4, h5, h6, p1.1, h8, h9, h10, h11, h12, h13, hik, hi0, hi1⟩⟩
theorem okp_32 : ok_32 JI := by
  intro S pl im0 im1 a1 a2 hJ
  obtain ⟨⟨h14, h20, ht, hb⟩, hpl, h1, h2, h3, h4, h5, h6, h7, h8, h9, h10, h11, h12, h13, hik, hi0, hi1⟩ := hJ
  obtain ⟨y2, e2, p2⟩ := s_X9_compare (S 14) a1 a2 h14 ⟨by rw [h20]; decide, by rw [h20]; decide⟩
  obtain ⟨y1, e1, p1⟩ := s_X8_compare (S 0) (S 3) (S 4) (S 5) (S 6) pl a1 a2 (rfl : IvX8 (gR (S 0) 7) (S 0)) h3 h4 h5 h6 hpl
  exact ⟨y2, e2, y1, e1, ⟨⟨p2.2.1, ((p2.2.2.1 20 (by decide)).trans h20), Tall.eq ht rfl rfl rfl rfl rfl rfl (rfl : gR (S 0) 7 = gR (S 0) 7) p2.2.2 (by decide) (by decide) (by decide) (by decide) (by decide) (by decide) (by decide) (by decide), ⟨Eq.trans (rfl) (hb.1.trans (p2.2.2.2.1 12 (by decide)).symm), Eq.trans (rfl) (hb.2.trans (p2.2.2.1 11 (by decide)).symm)⟩⟩, hpl, h1, h2, p1.2.1, h4, h5, p1.2.2.2.1, h7, h8, h9, h10, h11, h12, h13, hik, hi0, hi1⟩⟩
theorem okp_33 : ok_33 JI := by
  intro S pl im0 im1 a1 a2 hJ
  obtain ⟨⟨h14, h20, ht, hb⟩, hpl, h1, h2, h3, h4, h5, h6, h7, h8, h9, h10, h11, h12, h13, hik, hi0, hi1⟩ := hJ
  obtain ⟨y2, e2, p2⟩ := s_X9_centuries (S 14) a1 a2 h14 ⟨by rw [h20]; decide, by rw [h20]; decide⟩
  obtain ⟨y1, e1, p1⟩ := s_X8_centuries (S 0) (S 3) (S 4) (S 5) (S 8) (S 9) (S 10) pl a1 a2 (rfl : IvX8 (gR (S 0) 7) (S 0)) h3 h4 h5 h8 h9 h10 hpl
  exact ⟨y2, e2, y1, e1, ⟨⟨p2.2.1, ((p2.2.2.1 20 (by decide)).trans h20), Tall.eq ht rfl rfl rfl rfl rfl rfl p1.1 p2.2.2 (by decide) (by decide) (by decide) (by decide) (by decide) (by decide) (by decide) (by decide), ⟨Eq.trans (rfl) (hb.1.trans (p2.2.2.2.1 12 (by decide)).symm), Eq.trans (p1.2.1.1 13 (by decide)) (hb.2.trans (p2.2.2.1 11 (by decide)).symm)⟩⟩, hpl, h1, h2, p1.2.2.1, h4, h5, h6, h7, p1.2.2.2.2.1, p1.2.2.2.2.2.2.1, p1.2.2.2.2.2.2.2.2.1, h11, h12, h13, (IK.eq p1.1 hik), hi0, hi1⟩⟩
theorem okp_34 : ok_34 JI := by
  intro S pl im0 im1 a1 a2 hJ
  obtain ⟨⟨h14, h20, ht, hb⟩, hpl, h1, h2, h3, h4, h5, h6, h7, h8, h9, h10, h11, h12, h13, hik, hi0, hi1⟩ := hJ
  obtain ⟨y2, e2, p2⟩ := s_X9_drawn (S 14) a1 a2 h14 
  obtain ⟨y1, e1, p1⟩ := s_X8_drawn (S 0) (S 8) (S 9) a1 a2 (rfl : IvX8 (gR (S 0) 7) (S 0)) h8 h9
  exact ⟨y2, e2, y1, e1, ⟨⟨p2.1, ((p2.2.1 20 (by decide)).trans h20), Tall.eq ht rfl rfl rfl rfl rfl rfl (rfl : gR (S 0) 7 = gR (S 0) 7) p2.2 (by decide) (by decide) (by decide) (by decide) (by decide) (by decide) (by decide) (by decide), ⟨Eq.trans (rfl) (hb.1.trans (p2.2.2.1 12 (by decide)).symm), Eq.trans (rfl) (hb.2.trans (p2.2.1 11 (by decide)).symm)⟩⟩, hpl, h1, h2, h3, h4, h5, h6, h7, h8, h9, h10, h11, h12, h13, hik, hi0, hi1⟩⟩
theorem okp_35 : ok_35 JI := by
  intro S pl im0 im1 a1 hJ
  obtain ⟨⟨h14, h20, ht, hb⟩, hpl, h1, h2, h3, h4, h5, h6, h7, h8, h9, h10, h11, h12, h13, hik, hi0, hi1⟩ := hJ
  obtain ⟨y2, e2, p2⟩ := s_X9_image (S 14) a1 h14 
  refine ⟨y2, e2, ?_⟩
  have hsz : gI y2.2 13 = gI (S 14) 13 := p2.2.1 13 (by decide)
  obtain ⟨z1, ez1, g1, -⟩ := s_X8_refuse (S 0) (-1) (rfl : IvX8 (gR (S 0) 7) (S 0))
  have href : ∀ q : Int32 × Ob, bk_X8_image_R_9 (S 0) = some (z1.1, z1.2) := by
    intro _
    unfold bk_X8_image_R_9
    rw [ez1]; rfl
  have tno : ¬ (0 ≤ a1.toInt ∧ a1.toInt ≤ 1) → Tall z1.2 (S 1) (S 4) y2.2 im0 im1 := fun q => by
    obtain ⟨q3, q4, q5⟩ := image9n e2 q
    exact ⟨ht.1.trans hsz.symm, by rw [q3]; exact ht.2.1, ht.2.2.eq g1 q5 q4⟩
  by_cases c1 : a1 < (0 : Int32)
  · refine Or.inl ⟨(z1.1, z1.2), ?_, ⟨⟨p2.1, ((p2.2.1 20 (by decide)).trans h20), tno (by have c1 := cv_lt (a := a1.toInt) (b := 0) rfl (by decide) c1; omega), ⟨Eq.trans (rfl) (hb.1.trans (p2.2.2.1 12 (by decide)).symm), Eq.trans (refuse_13 ez1) (hb.2.trans (p2.2.1 11 (by decide)).symm)⟩⟩, hpl, h1, h2, h3, h4, h5, h6, h7, h8, h9, h10, h11, h12, h13, IK.eq g1 hik, hi0, hi1⟩⟩
    unfold f_X8_image_R
    rw [if_pos c1]; exact href z1
  by_cases c2 : a1 < (2 : Int32)
  rotate_left
  · refine Or.inl ⟨(z1.1, z1.2), ?_, ⟨⟨p2.1, ((p2.2.1 20 (by decide)).trans h20), tno (by have c2 := cv_nlt (a := a1.toInt) (b := 2) rfl (by decide) c2; omega), ⟨Eq.trans (rfl) (hb.1.trans (p2.2.2.1 12 (by decide)).symm), Eq.trans (refuse_13 ez1) (hb.2.trans (p2.2.1 11 (by decide)).symm)⟩⟩, hpl, h1, h2, h3, h4, h5, h6, h7, h8, h9, h10, h11, h12, h13, IK.eq g1 hik, hi0, hi1⟩⟩
    unfold f_X8_image_R
    rw [if_neg c1, if_neg c2]; exact href z1
  have d1 := cv_nlt (a := a1.toInt) (b := 0) rfl (by decide) c1
  have d2 := cv_lt (a := a1.toInt) (b := 2) rfl (by decide) c2
  have hz : zin a1 2 = true := zin_of (m := 2) rfl (by omega) (by omega)
  obtain ⟨k, ek⟩ : ∃ k : Nat, a1.toInt = (k : Int) := ⟨a1.toInt.toNat, by omega⟩
  have hk : k < 2 := by omega
  have ik : a1.toNatClampNeg = k := tnc_eq ek
  obtain ⟨q4, q4', q3, q5⟩ := image9 e2 ek hk
  have tis' : Tis (S 4) (gA y2.2 3) := by rw [q3]; exact ht.2.1
  have hset : ∀ {oi on : Ob} {z : Ob × Ob}, f_X2_set_O oi on pl (S 4) (S 5) = some z → Tis z.1 (fun j => gA y2.2 4 (5484 * k + j)) := fun h => Tis.cp h ht.2.1 (fun j hj => q4 j (by omega))
  have himO : ∀ oi on : Ob, IvX2 pl oi → IvX4 on → ∃ y1 : Int32 × Ob × Ob × Ob, f_X8_image_O (S 0) (S 4) (S 5) pl oi on a1 = some y1 ∧ IvX8 (gR (S 0) 7) y1.2.1 ∧ IvX2 pl y1.2.2.1 ∧ IvX4 y1.2.2.2 ∧ Tis y1.2.2.1 (fun j => gA y2.2 4 (5484 * k + j)) := by
    intro oi on hoi hon
    obtain ⟨z4, e4, q1, -, q2, -⟩ := s_X2_set_O oi on pl (S 4) (S 5) hoi hon hpl h4 h5
    obtain ⟨z5, e5, q3, -⟩ := s_X8_grant (S 0) 0 (rfl : IvX8 (gR (S 0) 7) (S 0))
    refine ⟨(z5.1, z5.2, z4.1, z4.2), ?_, q3, q1, q2, hset e4⟩
    unfold f_X8_image_O
    rw [if_neg c1, if_pos c2, hz, e4]
    show ((f_X8_grant (S 0) 0).bind fun z5 => some (z5.1, z5.2, z4.1, z4.2)) = _
    rw [e5]; rfl
  have hima : f_X8_image_a (S 0) a1 = some () := by
    unfold f_X8_image_a
    rw [if_neg c1, if_pos c2, hz]; rfl
  have himb : ∀ a : Nat, ∃ y, f_X8_image_b (S 4) (S 5) pl (tR (S 0) 7 a1.toNatClampNeg (some a)) ob2 ob0 = some y ∧ IvX8 (gR (tR (S 0) 7 a1.toNatClampNeg (some a)) 7) y.2.1 ∧ IvX2 pl y.2.2.1 ∧ IvX4 y.2.2.2 := fun a => h_imgb pl hpl (S 4) (S 5) _ ob2 ob0 h4 h5 (iv2_0 pl) iv4_0
  have hnew : ∀ {o0' : Ob} {a : Nat}, IvX8 (gR (tR (S 0) 7 a1.toNatClampNeg (some a)) 7) o0' → ∀ j, gR o0' 7 j = if j = k then some a else gR (S 0) 7 j := fun w j => by
    have w := congrFun w j
    rw [ik] at w
    exact w
  have hold : ∀ {o0' : Ob} {a : Nat}, IvX8 (gR (S 0) 7) o0' → gR (S 0) 7 k = some a → ∀ j, gR o0' 7 j = if j = k then some a else gR (S 0) 7 j := fun w q j => by
    have w := congrFun w j
    by_cases c : j = k
    · rw [if_pos c, w, c, q]
    · rw [if_neg c]; exact w
  have h2n : ∀ {o0' : Ob} {a : Nat}, (∀ j, gR o0' 7 j = if j = k then some a else gR (S 0) 7 j) → ∀ j, 2 ≤ j → gR o0' 7 j = none := fun w j hj => by
    rw [w j, if_neg (by omega)]; exact hik.1 j hj
  obtain ⟨s, hs, ta, tb⟩ := ht.2.2
  rcases (show k = s ∨ s = 1 - k by omega) with es | es
  · rw [← es] at ta tb
    rcases opt_c im0 with e0 | ⟨r, e0⟩
    · subst e0
      have q : gR (S 0) 7 a1.toNatClampNeg = none := by rw [ik]; exact (ta.1 rfl).1
      refine Or.inr (Or.inr (Or.inr (Or.inl ⟨rfl, q, hz, hima, fun a => ?_, fun x hx => ?_⟩)))
      · obtain ⟨y, ey, -⟩ := himb a; exact ⟨y, ey⟩
      · obtain ⟨y, ey, w1, w2, w3⟩ := himb x.1
        obtain ⟨z, ez, ezy⟩ := image_bset ey
        have exy : y = x.2.2.2.2.2.2 := Option.some.inj (ey.symm.trans hx)
        have w4 : Tis y.2.2.1 (fun j => gA y2.2 4 (5484 * k + j)) := by rw [ezy]; exact hset ez
        rw [exy] at w1 w2 w3 w4
        have tm : Tim x.2.2.2.2.2.2.2.1 y2.2 (some (x.1, x.2.1, x.2.2.1, x.2.2.2.1, x.2.2.2.2.1, x.2.2.2.2.2.1, x.2.2.2.2.2.2.2.2.1, x.2.2.2.2.2.2.2.2.2)) im1 := Tim.put0 hk ta tb (hnew w1) q5 q4' w4
        refine ⟨⟨p2.1, ((p2.2.1 20 (by decide)).trans h20), ⟨ht.1.trans hsz.symm, tis', tm⟩, ⟨Eq.trans (rfl) (hb.1.trans (p2.2.2.1 12 (by decide)).symm), Eq.trans ((by have w9 := imgb_13 ey; rw [exy] at w9; exact w9)) (hb.2.trans (p2.2.1 11 (by decide)).symm)⟩⟩, hpl, h1, h2, h3, h4, h5, h6, h7, h8, h9, h10, h11, h12, h13, IK.of tm (h2n (hnew w1)), fun r hr => ?_, hi1⟩
        rw [← Option.some.inj hr]; exact ⟨w2, w3⟩
    · have q : gR (S 0) 7 a1.toNatClampNeg = some r.1 := by rw [ik]; exact (ta.2 r e0).1
      obtain ⟨y1, ey1, w1, w2, w3, w4⟩ := himO _ _ (hi0 r e0).1 (hi0 r e0).2
      subst e0
      have tm : Tim y1.2.1 y2.2 (some (r.1, r.2.1, r.2.2.1, r.2.2.2.1, r.2.2.2.2.1, r.2.2.2.2.2.1, y1.2.2.1, y1.2.2.2)) im1 := Tim.put0 hk ta tb (hold w1 (by rw [← ik]; exact q)) q5 q4' w4
      refine Or.inr (Or.inl ⟨r, rfl, q, y1, ey1, ⟨⟨p2.1, ((p2.2.1 20 (by decide)).trans h20), ⟨ht.1.trans hsz.symm, tis', tm⟩, ⟨Eq.trans (rfl) (hb.1.trans (p2.2.2.1 12 (by decide)).symm), Eq.trans (imgO_13 ey1) (hb.2.trans (p2.2.1 11 (by decide)).symm)⟩⟩, hpl, h1, h2, h3, h4, h5, h6, h7, h8, h9, h10, h11, h12, h13, IK.eq w1 (hik.rep0 rfl), fun r' hr => ?_, hi1⟩⟩)
      rw [← Option.some.inj hr]; exact ⟨w2, w3⟩
  · have es' : 1 - s = k := by omega
    rw [es'] at tb
    rw [es] at ta
    rcases opt_c im1 with e0 | ⟨r, e0⟩
    · subst e0
      have q : gR (S 0) 7 a1.toNatClampNeg = none := by rw [ik]; exact (tb.1 rfl).1
      refine Or.inr (Or.inr (Or.inr (Or.inr ⟨rfl, q, hz, hima, fun a => ?_, fun x hx => ?_⟩)))
      · obtain ⟨y, ey, -⟩ := himb a; exact ⟨y, ey⟩
      · obtain ⟨y, ey, w1, w2, w3⟩ := himb x.1
        obtain ⟨z, ez, ezy⟩ := image_bset ey
        have exy : y = x.2.2.2.2.2.2 := Option.some.inj (ey.symm.trans hx)
        have w4 : Tis y.2.2.1 (fun j => gA y2.2 4 (5484 * k + j)) := by rw [ezy]; exact hset ez
        rw [exy] at w1 w2 w3 w4
        have tm : Tim x.2.2.2.2.2.2.2.1 y2.2 im0 (some (x.1, x.2.1, x.2.2.1, x.2.2.2.1, x.2.2.2.2.1, x.2.2.2.2.2.1, x.2.2.2.2.2.2.2.2.1, x.2.2.2.2.2.2.2.2.2)) := Tim.put1 hk ta tb (hnew w1) q5 q4' w4
        refine ⟨⟨p2.1, ((p2.2.1 20 (by decide)).trans h20), ⟨ht.1.trans hsz.symm, tis', tm⟩, ⟨Eq.trans (rfl) (hb.1.trans (p2.2.2.1 12 (by decide)).symm), Eq.trans ((by have w9 := imgb_13 ey; rw [exy] at w9; exact w9)) (hb.2.trans (p2.2.1 11 (by decide)).symm)⟩⟩, hpl, h1, h2, h3, h4, h5, h6, h7, h8, h9, h10, h11, h12, h13, IK.of tm (h2n (hnew w1)), hi0, fun r hr => ?_⟩
        rw [← Option.some.inj hr]; exact ⟨w2, w3⟩
    · have q : gR (S 0) 7 a1.toNatClampNeg = some r.1 := by rw [ik]; exact (tb.2 r e0).1
      obtain ⟨y1, ey1, w1, w2, w3, w4⟩ := himO _ _ (hi1 r e0).1 (hi1 r e0).2
      subst e0
      have tm : Tim y1.2.1 y2.2 im0 (some (r.1, r.2.1, r.2.2.1, r.2.2.2.1, r.2.2.2.2.1, r.2.2.2.2.2.1, y1.2.2.1, y1.2.2.2)) := Tim.put1 hk ta tb (hold w1 (by rw [← ik]; exact q)) q5 q4' w4
      refine Or.inr (Or.inr (Or.inl ⟨r, rfl, q, y1, ey1, ⟨⟨p2.1, ((p2.2.1 20 (by decide)).trans h20), ⟨ht.1.trans hsz.symm, tis', tm⟩, ⟨Eq.trans (rfl) (hb.1.trans (p2.2.2.1 12 (by decide)).symm), Eq.trans (imgO_13 ey1) (hb.2.trans (p2.2.1 11 (by decide)).symm)⟩⟩, hpl, h1, h2, h3, h4, h5, h6, h7, h8, h9, h10, h11, h12, h13, IK.eq w1 (hik.rep1 rfl), hi0, fun r' hr => ?_⟩⟩))
      rw [← Option.some.inj hr]; exact ⟨w2, w3⟩
theorem okp_36 : ok_36 JI := by
  intro S pl im0 im1 a1 hJ
  obtain ⟨⟨h14, h20, ht, hb⟩, hpl, h1, h2, h3, h4, h5, h6, h7, h8, h9, h10, h11, h12, h13, hik, hi0, hi1⟩ := hJ
  obtain ⟨y2, e2, p2⟩ := s_X9_back (S 14) a1 h14 
  refine ⟨y2, e2, ?_⟩
  have hsz : gI y2.2 13 = gI (S 14) 13 := p2.2.1 13 (by decide)
  obtain ⟨z1, ez1, g1, -⟩ := s_X8_refuse (S 0) (-1) (rfl : IvX8 (gR (S 0) 7) (S 0))
  have hn9 : bk_X8_back_N_9 (S 0) = some (z1.1, z1.2) := by
    unfold bk_X8_back_N_9
    rw [ez1]; rfl
  have hN : ∃ y1 : Int32 × Ob, f_X8_back_N (S 0) a1 = some y1 ∧ IvX8 (gR (S 0) 7) y1.2 := by
    unfold f_X8_back_N
    by_cases c1 : a1 < (0 : Int32)
    · rw [if_pos c1]; exact ⟨_, hn9, g1⟩
    · rw [if_neg c1]
      by_cases c2 : a1 < (2 : Int32)
      · have d1 := cv_nlt (a := a1.toInt) (b := 0) rfl (by decide) c1
        have d2 := cv_lt (a := a1.toInt) (b := 2) rfl (by decide) c2
        have hz : zin a1 2 = true := zin_of (m := 2) rfl (by omega) (by omega)
        obtain ⟨z3, ez3, g3, -⟩ := s_X8_refuse (S 0) (-2) (rfl : IvX8 (gR (S 0) 7) (S 0))
        rw [if_pos c2, hz, ez3]
        exact ⟨(z3.1, z3.2), rfl, g3⟩
      · rw [if_neg c2]; exact ⟨_, hn9, g1⟩
  have hO : ∀ oi on : Ob, IvX2 pl oi → IvX4 on → ∃ y1 : Int32 × Ob × Ob × Ob × Ob, f_X8_back_O (S 0) (S 4) (S 5) (S 11) pl oi on a1 = some y1 ∧ IvX8 (gR (S 0) 7) y1.2.1 ∧ IvX2 pl y1.2.2.1 ∧ IvX4 y1.2.2.2.1 ∧ IvX5 y1.2.2.2.2 := by
    intro oi on hoi hon
    have h9' : bk_X8_back_O_9 pl oi on (S 0) (S 4) (S 5) (S 11) = some (z1.1, z1.2, S 4, S 5, S 11) := by
      unfold bk_X8_back_O_9
      rw [ez1]; rfl
    unfold f_X8_back_O
    by_cases c1 : a1 < (0 : Int32)
    · rw [if_pos c1]; exact ⟨_, h9', g1, h4, h5, h11⟩
    · rw [if_neg c1]
      by_cases c2 : a1 < (2 : Int32)
      · have d1 := cv_nlt (a := a1.toInt) (b := 0) rfl (by decide) c1
        have d2 := cv_lt (a := a1.toInt) (b := 2) rfl (by decide) c2
        have hz : zin a1 2 = true := zin_of (m := 2) rfl (by omega) (by omega)
        obtain ⟨z4, e4, q1, -, q2, -⟩ := s_X2_set_O (S 4) (S 5) pl oi on h4 h5 hpl hoi hon
        obtain ⟨z5, e5, q3, -⟩ := s_X5_clear (S 11) h11
        obtain ⟨z6, e6, q4, -⟩ := s_X8_grant (S 0) 0 (rfl : IvX8 (gR (S 0) 7) (S 0))
        refine ⟨(z6.1, z6.2, z4.1, z4.2, z5), ?_, q4, q1, q2, q3⟩
        rw [if_pos c2, hz, e4]
        show ((f_X5_clear (S 11)).bind fun z5 => (f_X8_grant (S 0) 0).bind fun z6 => some (z6.1, z6.2, z4.1, z4.2, z5)) = _
        rw [e5]
        show ((f_X8_grant (S 0) 0).bind fun z6 => some (z6.1, z6.2, z4.1, z4.2, z5)) = _
        rw [e6]; rfl
      · rw [if_neg c2]; exact ⟨_, h9', g1, h4, h5, h11⟩
  have hcase : gR (S 0) 7 a1.toNatClampNeg = none ∨ (∃ r : IR, im0 = some r ∧ gR (S 0) 7 a1.toNatClampNeg = some r.1 ∧ ¬ gA (S 14) 5 a1.toNatClampNeg = 0 ∧ Tis r.2.2.2.2.2.2.1 (fun j => gA (S 14) 4 (5484 * a1.toNatClampNeg + j))) ∨ (∃ r : IR, im1 = some r ∧ gR (S 0) 7 a1.toNatClampNeg = some r.1 ∧ ¬ gA (S 14) 5 a1.toNatClampNeg = 0 ∧ Tis r.2.2.2.2.2.2.1 (fun j => gA (S 14) 4 (5484 * a1.toNatClampNeg + j))) := by
    rcases (show a1.toNatClampNeg < 2 ∨ 2 ≤ a1.toNatClampNeg by omega) with h | h
    · obtain ⟨s, hs, ta, tb⟩ := ht.2.2
      rcases (show a1.toNatClampNeg = s ∨ a1.toNatClampNeg = 1 - s by omega) with e | e
      · rw [e]
        rcases opt_c im0 with e0 | ⟨r, e0⟩
        · exact Or.inl (ta.1 e0).1
        · exact Or.inr (Or.inl ⟨r, e0, ta.2 r e0⟩)
      · rw [e]
        rcases opt_c im1 with e0 | ⟨r, e0⟩
        · exact Or.inl (tb.1 e0).1
        · exact Or.inr (Or.inr ⟨r, e0, tb.2 r e0⟩)
    · exact Or.inl (hik.1 _ h)
  rcases hcase with q | ⟨r, er, q, r5, rt⟩ | ⟨r, er, q, r5, rt⟩
  · obtain ⟨y1, ey1, w1⟩ := hN
    have tt := t_backN ht ey1 e2 q w1 hsz
    exact Or.inl ⟨q, y1, ey1, ⟨⟨p2.1, ((p2.2.1 20 (by decide)).trans h20), tt.2, ⟨Eq.trans (rfl) (hb.1.trans (p2.2.2.1 12 (by decide)).symm), Eq.trans (backN_13 ey1) (hb.2.trans (p2.2.1 11 (by decide)).symm)⟩⟩, hpl, h1, h2, h3, h4, h5, h6, h7, h8, h9, h10, h11, h12, h13, IK.eq w1 hik, hi0, hi1⟩⟩
  · obtain ⟨y1, ey1, w1, w2, w3, w4⟩ := hO _ _ (hi0 r er).1 (hi0 r er).2
    have tt := t_backO ht ey1 e2 r5 rt w1 hsz
    subst er
    exact Or.inr (Or.inl ⟨r, rfl, q, y1, ey1, ⟨⟨p2.1, ((p2.2.1 20 (by decide)).trans h20), tt.2, ⟨Eq.trans (rfl) (hb.1.trans (p2.2.2.1 12 (by decide)).symm), Eq.trans (backO_13 ey1) (hb.2.trans (p2.2.1 11 (by decide)).symm)⟩⟩, hpl, h1, h2, h3, w2, w3, h6, h7, h8, h9, h10, w4, h12, h13, IK.eq w1 hik, hi0, hi1⟩⟩)
  · obtain ⟨y1, ey1, w1, w2, w3, w4⟩ := hO _ _ (hi1 r er).1 (hi1 r er).2
    have tt := t_backO ht ey1 e2 r5 rt w1 hsz
    subst er
    exact Or.inr (Or.inr ⟨r, rfl, q, y1, ey1, ⟨⟨p2.1, ((p2.2.1 20 (by decide)).trans h20), tt.2, ⟨Eq.trans (rfl) (hb.1.trans (p2.2.2.1 12 (by decide)).symm), Eq.trans (backO_13 ey1) (hb.2.trans (p2.2.1 11 (by decide)).symm)⟩⟩, hpl, h1, h2, h3, w2, w3, h6, h7, h8, h9, h10, w4, h12, h13, IK.eq w1 hik, hi0, hi1⟩⟩)
theorem okp_37 : ok_37 JI := by
  intro S pl im0 im1 a1 hJ
  obtain ⟨⟨h14, h20, ht, hb⟩, hpl, h1, h2, h3, h4, h5, h6, h7, h8, h9, h10, h11, h12, h13, hik, hi0, hi1⟩ := hJ
  obtain ⟨y2, e2, p2⟩ := s_X9_count (S 14) a1 h14 
  obtain ⟨y1, e1, p1⟩ := s_X8_count (S 0) (S 1) (S 4) (S 5) (S 11) a1 (rfl : IvX8 (gR (S 0) 7) (S 0)) h1 h4 h5 h11
  exact ⟨y2, e2, y1, e1, ⟨⟨p2.1, ((p2.2.1 20 (by decide)).trans h20), Tall.eq ht rfl rfl rfl rfl rfl rfl (rfl : gR (S 0) 7 = gR (S 0) 7) p2.2 (by decide) (by decide) (by decide) (by decide) (by decide) (by decide) (by decide) (by decide), ⟨Eq.trans (rfl) (hb.1.trans (p2.2.2.1 12 (by decide)).symm), Eq.trans (rfl) (hb.2.trans (p2.2.1 11 (by decide)).symm)⟩⟩, hpl, h1, h2, h3, h4, h5, h6, h7, h8, h9, h10, h11, h12, h13, hik, hi0, hi1⟩⟩
theorem okp_38 : ok_38 JI := by
  intro S pl im0 im1  hJ
  obtain ⟨⟨h14, h20, ht, hb⟩, hpl, h1, h2, h3, h4, h5, h6, h7, h8, h9, h10, h11, h12, h13, hik, hi0, hi1⟩ := hJ
  obtain ⟨y2, e2, p2⟩ := s_X9_status (S 14)  h14 
  obtain ⟨y1, e1, p1⟩ := s_X8_status (S 0)  (rfl : IvX8 (gR (S 0) 7) (S 0))
  exact ⟨y2, e2, y1, e1, ⟨⟨p2.1, ((p2.2.1 20 (by decide)).trans h20), Tall.eq ht rfl rfl rfl rfl rfl rfl (rfl : gR (S 0) 7 = gR (S 0) 7) p2.2 (by decide) (by decide) (by decide) (by decide) (by decide) (by decide) (by decide) (by decide), ⟨Eq.trans (rfl) (hb.1.trans (p2.2.2.1 12 (by decide)).symm), Eq.trans (rfl) (hb.2.trans (p2.2.1 11 (by decide)).symm)⟩⟩, hpl, h1, h2, h3, h4, h5, h6, h7, h8, h9, h10, h11, h12, h13, hik, hi0, hi1⟩⟩
theorem okp_all : okS JI := ⟨okp_0, okp_1, okp_2, okp_3, okp_4, okp_5, okp_6, okp_7, okp_8, okp_9, okp_10, okp_11, okp_12, okp_13, okp_14, okp_15, okp_16, okp_17, okp_18, okp_19, okp_20, okp_21, okp_22, okp_23, okp_24, okp_25, okp_26, okp_27, okp_28, okp_29, okp_30, okp_31, okp_32, okp_33, okp_34, okp_35, okp_36, okp_37, okp_38⟩
def row0 : Nat → Int32 := upd (upd (fun _ => 0) (3 : Int32).toNatClampNeg (-1)) (5 : Int32).toNatClampNeg 1
theorem row0_z {j : Nat} (h3 : j ≠ 3) (h5 : j ≠ 5) : row0 j = 0 := by
  have n3 : (3 : Int32).toNatClampNeg = 3 := by decide
  have n5 : (5 : Int32).toNatClampNeg = 5 := by decide
  unfold row0
  rw [n3, n5, upd_n h5, upd_n h3]
theorem sg_row0 : sgd rowS row0 := by
  refine ⟨fun j h1 h2 => ?_, fun j h1 h2 => ?_, fun j h1 h2 => ?_, fun j h1 h2 => ?_, fun j h1 h2 => ?_, fun j h1 h2 => ?_, fun j h1 h2 => ?_, fun j h1 h2 => ?_, fun j h1 h2 => ?_, trivial⟩
  · rw [row0_z (by omega) (by omega)]; decide
  · rw [row0_z (by omega) (by omega)]; decide
  · rw [row0_z (by omega) (by omega)]; decide
  · have e : j = 3 := by omega
    subst e; exact (by decide : -1 ≤ (row0 3).toInt ∧ (row0 3).toInt ≤ 5)
  · rw [row0_z (by omega) (by omega)]; decide
  · rw [row0_z (by omega) (by omega)]; decide
  · rw [row0_z (by omega) (by omega)]; decide
  · rw [row0_z (by omega) (by omega)]; decide
  · rw [row0_z (by omega) (by omega)]; decide
theorem pw_0 (j : Nat) : PW rowS j 0 := by
  have h : ∀ s ∈ rowS, s.2.2.1 ≤ (0 : Int32).toInt ∧ (0 : Int32).toInt ≤ s.2.2.2 := by decide
  exact fun s hs _ _ => h s hs
theorem wl_0 {g : Nat → Int32} {s : Nat} (h : g (s + 1) = 0) : WL g s := by
  refine ⟨by rw [h]; decide, fun c hc => ?_⟩
  rw [h] at hc
  have z : (0 : Int32).toInt = 0 := by decide
  omega
theorem ex_0 : EX9 row0 (fun _ => 0) (fun _ => 0) (fun _ => 0) := ⟨fun l hl => wl_0 (row0_z (by omega) (by omega)), fun k hk => ⟨fun l hl => wl_0 rfl, fun j hj => pw_0 j⟩, fun k i hk hi => pw_0 _, fun k i hk hi => pw_0 _⟩
theorem iv9_0 : IvX9 (S0 14) := ⟨⟨by decide, by decide⟩, ⟨by decide, by decide⟩, ⟨by decide, by decide⟩, ⟨by decide, by decide⟩, ⟨by decide, by decide⟩, ⟨by decide, by decide⟩, ⟨by decide, by decide⟩, ⟨by decide, by decide⟩, ⟨by decide, by decide⟩, ⟨by decide, by decide⟩, ⟨by decide, by decide⟩, ⟨by decide, by decide⟩, ⟨by decide, by decide⟩, ⟨by decide, by decide⟩, ⟨by decide, by decide⟩, sg_row0, ⟨fun _ _ _ => (show 0 ≤ (0 : Int32).toInt ∧ (0 : Int32).toInt ≤ 3 by decide), trivial⟩, ⟨fun _ _ _ => (show 0 ≤ (0 : Int32).toInt ∧ (0 : Int32).toInt ≤ 3 by decide), trivial⟩, ⟨fun _ _ _ => (show 0 ≤ (0 : Int32).toInt ∧ (0 : Int32).toInt ≤ 6 by decide), trivial⟩, ⟨fun _ _ _ => (show (-1) ≤ (0 : Int32).toInt ∧ (0 : Int32).toInt ≤ 8 by decide), trivial⟩, ⟨fun _ _ _ => (show 0 ≤ (0 : Int32).toInt ∧ (0 : Int32).toInt ≤ 6 by decide), trivial⟩, ⟨fun _ _ _ => (show 0 ≤ (0 : Int32).toInt ∧ (0 : Int32).toInt ≤ 6 by decide), trivial⟩, ⟨ex_0, by decide, by decide⟩⟩
theorem ivX6_0 : IvX6 (S0 1) := ⟨⟨by decide, by decide⟩, ⟨by decide, by decide⟩, ⟨by decide, by decide⟩, ⟨by decide, by decide⟩, ⟨by decide, by decide⟩, ⟨by decide, by decide⟩, trivial⟩
theorem ivX1_0 : IvX1 (S0 6) := ⟨⟨by decide, by decide⟩, ⟨fun _ _ _ => (show 0 ≤ (0 : Int32).toInt ∧ (0 : Int32).toInt ≤ 6 by decide), trivial⟩, trivial⟩
theorem ivX7_0 : IvX7 (S0 7) := ⟨⟨fun _ _ _ => (show 0 ≤ (0 : Int32).toInt ∧ (0 : Int32).toInt ≤ 7 by decide), trivial⟩, ⟨fun _ _ _ => (show 0 ≤ (0 : Int32).toInt ∧ (0 : Int32).toInt ≤ 6 by decide), trivial⟩, trivial⟩
theorem ivX0_0 : IvX0 12 400 (S0 2) := ⟨⟨by decide, by decide, by decide⟩, ⟨by decide, by decide, by decide⟩, fun _ _ _ => (show 0 ≤ (0 : Int32).toInt ∧ (0 : Int32).toInt ≤ 20 by decide), trivial⟩
theorem ivX5_0 : IvX5 (S0 11) := ⟨⟨by decide, by decide⟩, ⟨by decide, by decide⟩, fun _ _ _ _ => (show 0 ≤ (0 : Int32).toInt ∧ (0 : Int32).toInt ≤ 9 by decide)⟩
theorem ji_0 : JI S0 [] none none := ⟨⟨iv9_0, by decide, (⟨rfl, ⟨(row0_z (j := 0) (by decide) (by decide)).symm, (row0_z (j := 1) (by decide) (by decide)).symm, fun j _ => (row0_z (j := 29 + j) (by omega) (by omega)).symm, fun j _ => (row0_z (j := 64 + j) (by omega) (by omega)).symm, fun _ _ _ => rfl, fun j _ => (row0_z (j := 36 + j) (by omega) (by omega)).symm, fun _ _ _ => rfl, (fun j hj _ => by have e9 : (gI (S0 4) 7).toInt = 0 := (by decide); omega)⟩, 0, by decide, ⟨fun _ => ⟨rfl, rfl⟩, fun r q => by cases q⟩, ⟨fun _ => ⟨rfl, rfl⟩, fun r q => by cases q⟩⟩ : Tall (S0 0) (S0 1) (S0 4) (S0 14) none none), ⟨rfl, rfl⟩⟩, fun c hc => absurd hc List.not_mem_nil, ivX6_0, ivX0_0, trivial, iv2_0 [], iv4_0, ivX1_0, ivX7_0, iv2_0 [], iv4_0, ivX1_0, ivX5_0, ivX5_0, iv4_0, ⟨fun _ _ => rfl, fun _ _ => Or.inl rfl, fun _ => ⟨rfl, rfl⟩, fun _ => Or.inl rfl⟩, (fun r hr => by cases hr), (fun r hr => by cases hr)⟩
