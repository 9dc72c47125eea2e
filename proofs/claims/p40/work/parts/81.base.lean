-- what the small calls answer
theorem in_iff (x a b : Int64) (z : Int32) (h : f_X9_in x a b = some z) : (z = 0 ∧ ¬ (a.toInt ≤ x.toInt ∧ x.toInt ≤ b.toInt)) ∨ (¬ z = 0 ∧ a.toInt ≤ x.toInt ∧ x.toInt ≤ b.toInt) := by
  unfold f_X9_in at h
  by_cases c1 : (lg_cmp x a) < (0 : Int32)
  · have h := z_t h c1
    have c1 := cvl_lt (a := x.toInt) (b := a.toInt) rfl rfl c1
    exact Or.inl ⟨(Option.some.inj h).symm, by omega⟩
  · have h := z_f h c1
    have c1 := cvl_nlt (a := x.toInt) (b := a.toInt) rfl rfl c1
    by_cases c2 : (0 : Int32) < (lg_cmp x b)
    · have h := z_t h c2
      have c2 := cvl_gt (a := x.toInt) (b := b.toInt) rfl rfl c2
      exact Or.inl ⟨(Option.some.inj h).symm, by omega⟩
    · have h := z_f h c2
      have c2 := cvl_ngt (a := x.toInt) (b := b.toInt) rfl rfl c2
      exact Or.inr ⟨by rw [← Option.some.inj h]; decide, c1, c2⟩
theorem refuse_ret {o : Ob} {p : Int32} {y : Int32 × Ob} (h : f_X8_refuse o p = some y) : y.1 = p := by
  unfold f_X8_refuse at h
  obtain ⟨o1, -, h⟩ := z_lt h
  by_cases c : (0 : Int32) ≤ p
  · rw [← Option.some.inj (z_t h c)]
  · have h := z_f h c
    by_cases c : p < (-6 : Int32)
    · rw [← Option.some.inj (z_t h c)]
    · have h := z_f h c
      obtain ⟨x2, -, h⟩ := z_lt h
      obtain ⟨-, h⟩ := z_gd h
      obtain ⟨-, h⟩ := z_gd h
      obtain ⟨o5, -, h⟩ := z_lt h
      rw [← Option.some.inj h]
theorem grant_ret {o : Ob} {p : Int32} {y : Int32 × Ob} (h : f_X8_grant o p = some y) : y.1 = p := by
  unfold f_X8_grant at h
  obtain ⟨o1, -, h⟩ := z_lt h
  rw [← Option.some.inj h]
theorem rg8 {p z b : Int32} {n : Int} (hb : b.toInt = n) (h : (if p < (0 : Int32) then some (0 : Int32) else (if b ≤ p then some (0 : Int32) else some (1 : Int32))) = some z) : (z = 0 ∧ ¬ (0 ≤ p.toInt ∧ p.toInt < n)) ∨ (¬ z = 0 ∧ 0 ≤ p.toInt ∧ p.toInt < n) := by
  by_cases c1 : p < (0 : Int32)
  · have c := cv_lt (a := p.toInt) (b := 0) rfl (by decide) c1
    exact Or.inl ⟨(Option.some.inj (z_t h c1)).symm, by omega⟩
  · have h := z_f h c1
    have c := cv_nlt (a := p.toInt) (b := 0) rfl (by decide) c1
    by_cases c2 : b ≤ p
    · have d := cv_le (a := n) (b := p.toInt) hb rfl c2
      exact Or.inl ⟨(Option.some.inj (z_t h c2)).symm, by omega⟩
    · have d := cv_nle (a := n) (b := p.toInt) hb rfl c2
      exact Or.inr ⟨by rw [← Option.some.inj (z_f h c2)]; decide, by omega, by omega⟩
theorem isP2 {o : Ob} {p z : Int32} (h : f_X2_isPerson o p = some z) : (z = 0 ∧ ¬ (0 ≤ p.toInt ∧ p.toInt < (gI o 7).toInt)) ∨ (¬ z = 0 ∧ 0 ≤ p.toInt ∧ p.toInt < (gI o 7).toInt) := rg8 (b := gI o 7) rfl h
theorem isR8 {p z : Int32} (h : f_X8_isRace p = some z) : (z = 0 ∧ ¬ (0 ≤ p.toInt ∧ p.toInt < 4)) ∨ (¬ z = 0 ∧ 0 ≤ p.toInt ∧ p.toInt < 4) := rg8 (b := 4) (by decide) h
theorem isT8 {p z : Int32} (h : f_X8_isTrade p = some z) : (z = 0 ∧ ¬ (0 ≤ p.toInt ∧ p.toInt < 10)) ∨ (¬ z = 0 ∧ 0 ≤ p.toInt ∧ p.toInt < 10) := rg8 (b := 10) (by decide) h
theorem in9 {p z : Int32} {a b : Int64} {m n : Int} (ha : a.toInt = m) (hb : b.toInt = n) (h : f_X9_in p.toInt64 a b = some z) : (z = 0 ∧ ¬ (m ≤ p.toInt ∧ p.toInt ≤ n)) ∨ (¬ z = 0 ∧ m ≤ p.toInt ∧ p.toInt ≤ n) := by
  have ep : p.toInt64.toInt = p.toInt := Int32.toInt_toInt64 p
  rcases in_iff _ _ _ _ h with ⟨c, d⟩ | ⟨c, d, e⟩
  · exact Or.inl ⟨c, by omega⟩
  · exact Or.inr ⟨c, by omega, by omega⟩
theorem isR9 {p z : Int32} (h : f_X9_isRace p = some z) : (z = 0 ∧ ¬ (0 ≤ p.toInt ∧ p.toInt < 4)) ∨ (¬ z = 0 ∧ 0 ≤ p.toInt ∧ p.toInt < 4) := by
  unfold f_X9_isRace at h
  obtain ⟨z1, ez, h⟩ := z_bd h
  obtain ⟨-, h⟩ := z_gd h
  rw [← Option.some.inj h]
  rcases in9 (m := 0) (n := 3) (by decide) (by decide) ez with ⟨c, d⟩ | ⟨c, d⟩
  · exact Or.inl ⟨c, by omega⟩
  · exact Or.inr ⟨c, by omega, by omega⟩
theorem isP9 {o : Ob} {p z : Int32} (h : f_X9_isPerson o p = some z) (hr : 0 ≤ (gA o 3 0).toInt ∧ (gA o 3 0).toInt ≤ 7) : (z = 0 ∧ ¬ (0 ≤ p.toInt ∧ p.toInt < (gA o 3 0).toInt)) ∨ (¬ z = 0 ∧ 0 ≤ p.toInt ∧ p.toInt < (gA o 3 0).toInt) := by
  unfold f_X9_isPerson at h
  obtain ⟨z1, ez, h⟩ := z_bd h
  obtain ⟨-, h⟩ := z_gd h
  rw [← Option.some.inj h]
  have n0 : (0 : Int32).toNatClampNeg = 0 := by decide
  rw [n0] at ez
  have eg : ((gA o 3 0).toInt64 - (1 : Int64)).toInt = (gA o 3 0).toInt - 1 := i64_sub (Int32.toInt_toInt64 _) (by decide) (by omega) (by omega)
  rcases in9 (m := 0) (n := (gA o 3 0).toInt - 1) (by decide) eg ez with ⟨a, b⟩ | ⟨a, b⟩
  · exact Or.inl ⟨a, by omega⟩
  · exact Or.inr ⟨a, by omega, by omega⟩
theorem t3_at {o : Ob} {j i : Nat} {v : Int32} : gA (tA o 3 j v) 3 i = if i = j then v else gA o 3 i := rfl
theorem t3_ne {o : Ob} {j v : Int32} {i : Nat} {n : Int} (hj : j.toInt = n) (h0 : 0 ≤ n) (h : (i : Int) ≠ n) : gA (tA o 3 j.toNatClampNeg v) 3 i = gA o 3 i := by
  have e : j.toNatClampNeg = j.toInt.toNat := rfl
  exact if_neg (show ¬ i = j.toNatClampNeg by rw [e]; omega)
theorem tell_3 {o : Ob} {p : Int32} {y : Int32 × Ob} (h : f_X9_tell o p = some y) : y.1 = p ∧ gA y.2 3 = gA o 3 ∧ gA y.2 4 = gA o 4 ∧ gI y.2 13 = gI o 13 ∧ gA y.2 5 = gA o 5 := by
  have hb : ∀ s, bk_X9_tell_10 p s o = some y → y.1 = p ∧ gA y.2 3 = gA o 3 ∧ gA y.2 4 = gA o 4 ∧ gI y.2 13 = gI o 13 ∧ gA y.2 5 = gA o 5 := by
    intro s h
    unfold bk_X9_tell_10 at h
    obtain ⟨o1, eo1, h⟩ := z_lt h
    by_cases c : (0 : Int32) ≤ p
    · have h := z_t h c
      rw [← Option.some.inj h, eo1]; exact ⟨rfl, rfl, rfl, rfl, rfl⟩
    · have h := z_f h c
      obtain ⟨x2, -, h⟩ := z_lt h
      obtain ⟨-, h⟩ := z_gd h
      obtain ⟨-, h⟩ := z_gd h
      obtain ⟨o5, eo5, h⟩ := z_lt h
      rw [← Option.some.inj h, eo5, eo1]; exact ⟨rfl, rfl, rfl, rfl, rfl⟩
  unfold f_X9_tell at h
  by_cases c : (0 : Int32) ≤ p
  · exact hb _ (z_t h c)
  · exact hb _ (z_f h c)
theorem settled_3 {o : Ob} {p : Int32} {y : Int32 × Ob} (h : f_X9_settled o p = some y) : y.1 = p ∧ gA y.2 3 = gA o 3 ∧ gA y.2 4 = gA o 4 ∧ gA y.2 5 = gA o 5 := by
  have hb : ∀ s, bk_X9_settled_13 p s o = some y → y.1 = p ∧ gA y.2 3 = gA o 3 ∧ gA y.2 4 = gA o 4 ∧ gA y.2 5 = gA o 5 := by
    intro s h
    unfold bk_X9_settled_13 at h
    obtain ⟨o1, eo1, h⟩ := z_lt h
    obtain ⟨z2, ez, h⟩ := z_bd h
    obtain ⟨a, b, c, -, d⟩ := tell_3 ez
    rw [← Option.some.inj h]
    refine ⟨a, ?_, ?_, ?_⟩
    · show gA z2.2 3 = _
      rw [b, eo1]; rfl
    · show gA z2.2 4 = _
      rw [c, eo1]; rfl
    · show gA z2.2 5 = _
      rw [d, eo1]; rfl
  unfold f_X9_settled at h
  by_cases c : (0 : Int32) ≤ p
  · exact hb _ (z_t h c)
  · exact hb _ (z_f h c)
-- seen, forget
theorem seen9 {o : Ob} {p0 p1 : Int32} {y : Int32 × Ob} (h : f_X9_seen o p0 p1 = some y) (hr : 0 ≤ (gA o 3 1).toInt ∧ (gA o 3 1).toInt ≤ 6) :
    (¬ ((0 ≤ p0.toInt ∧ p0.toInt < 4) ∧ 0 ≤ p1.toInt ∧ p1.toInt ≤ 9) ∧ y.1 = -1 ∧ gA y.2 3 = gA o 3) ∨
    (((0 ≤ p0.toInt ∧ p0.toInt < 4) ∧ 0 ≤ p1.toInt ∧ p1.toInt ≤ 9) ∧ ((gA o 3 1 = 6 ∧ y.1 = -5 ∧ gA y.2 3 = gA o 3) ∨ (¬ gA o 3 1 = 6 ∧ y.1 = gA o 3 1 + 1 ∧ gA y.2 3 1 = gA o 3 1 + 1 ∧ ∀ j, j ≠ 1 → j < 71 → gA y.2 3 j = gA o 3 j))) := by
  unfold f_X9_seen at h
  obtain ⟨o1, eo1, h⟩ := z_lt h
  have g1 : gA o1 3 = gA o 3 := by rw [eo1]; rfl
  have h24 : bk_X9_seen_24 o1 = some y → y.1 = -1 ∧ gA y.2 3 = gA o 3 := by
    intro h
    unfold bk_X9_seen_24 at h
    obtain ⟨z, ez, h⟩ := z_bd h
    rw [← Option.some.inj h, ← g1]; exact ⟨(tell_3 ez).1, (tell_3 ez).2.1⟩
  obtain ⟨z2, ez2, h⟩ := z_bd h
  rcases isR9 ez2 with ⟨a, b⟩ | ⟨a, b⟩
  · exact Or.inl ⟨fun q => b q.1, h24 (z_t h a)⟩
  · have h := z_f h a
    obtain ⟨z4, ez4, h⟩ := z_bd h
    rcases in9 (m := 0) (n := 9) (by decide) (by decide) ez4 with ⟨c, d⟩ | ⟨c, d⟩
    · exact Or.inl ⟨fun q => d q.2, h24 (z_t h c)⟩
    · refine Or.inr ⟨⟨b, d⟩, ?_⟩
      obtain ⟨x5, ex, h⟩ := z_lt (z_f h c)
      have n1 : (1 : Int32).toNatClampNeg = 1 := by decide
      rw [n1, g1] at ex
      by_cases c6 : x5 = (6 : Int32)
      · obtain ⟨z, ez, h⟩ := z_bd (z_t h c6)
        refine Or.inl ⟨by rw [← ex]; exact c6, ?_⟩
        rw [← Option.some.inj h, ← g1]; exact ⟨(tell_3 ez).1, (tell_3 ez).2.1⟩
      · have h := z_f h c6
        obtain ⟨-, h⟩ := z_gd h
        obtain ⟨o7, e7, h⟩ := z_lt h
        obtain ⟨-, h⟩ := z_gd h
        obtain ⟨o9, e9, h⟩ := z_lt h
        obtain ⟨o10, e10, h⟩ := z_lt h
        obtain ⟨z, ez, h⟩ := z_bd h
        have hx : x5.toInt = (gA o 3 1).toInt := by rw [ex]
        have m1 : ((2 : Int32) * x5).toInt = 2 * x5.toInt := i32_mul (by decide) rfl (by omega) (by omega)
        have m2 : ((71 : Int32) + ((2 : Int32) * x5)).toInt = 71 + 2 * x5.toInt := i32_add (by decide) m1 (by omega) (by omega)
        have m3 : (((71 : Int32) + ((2 : Int32) * x5)) + (1 : Int32)).toInt = 71 + 2 * x5.toInt + 1 := i32_add m2 (by decide) (by omega) (by omega)
        have lo : ∀ j, j < 71 → gA o9 3 j = gA o 3 j := fun j hj => by
          rw [e9, t3_ne m3 (by omega) (by omega), e7, t3_ne m2 (by omega) (by omega), g1]
        have hy := tell_3 ez
        refine Or.inr ⟨by rw [← ex]; exact c6, ?_, ?_, ?_⟩
        · rw [← Option.some.inj h]; show z.1 = _
          rw [hy.1, ex]
        · rw [← Option.some.inj h]; show gA z.2 3 1 = _
          rw [hy.2.1, e10, n1, t3_at, if_pos rfl, lo 1 (by decide)]
        · intro j hj hj'
          rw [← Option.some.inj h]; show gA z.2 3 j = _
          rw [hy.2.1, e10, n1, t3_at, if_neg hj, lo j hj']
theorem seen8 {o0 o4 : Ob} {p0 p1 : Int32} {y : Int32 × Ob × Ob} (h : f_X8_seen o0 o4 p0 p1 = some y) (hr : 0 ≤ (gI o4 8).toInt ∧ (gI o4 8).toInt ≤ 6) :
    (¬ ((0 ≤ p0.toInt ∧ p0.toInt < 4) ∧ 0 ≤ p1.toInt ∧ p1.toInt ≤ 9) ∧ y.1 = -1 ∧ y.2.2 = o4) ∨
    (((0 ≤ p0.toInt ∧ p0.toInt < 4) ∧ 0 ≤ p1.toInt ∧ p1.toInt ≤ 9) ∧ ((gI o4 8 = 6 ∧ y.1 = -5 ∧ y.2.2 = o4) ∨ (¬ gI o4 8 = 6 ∧ y.1 = gI o4 8 + 1 ∧ gI y.2.2 8 = gI o4 8 + 1 ∧ gI y.2.2 7 = gI o4 7 ∧ gA y.2.2 1 = gA o4 1 ∧ gA y.2.2 2 = gA o4 2 ∧ gA y.2.2 3 = gA o4 3))) := by
  unfold f_X8_seen at h
  have h14 : bk_X8_seen_14 o0 o4 = some y → y.1 = -1 ∧ y.2.2 = o4 := by
    intro h
    unfold bk_X8_seen_14 at h
    obtain ⟨z, ez, h⟩ := z_bd h
    rw [← Option.some.inj h]; exact ⟨refuse_ret ez, rfl⟩
  obtain ⟨z1, ez1, h⟩ := z_bd h
  rcases isR8 ez1 with ⟨a, b⟩ | ⟨a, b⟩
  · exact Or.inl ⟨fun q => b q.1, h14 (z_t h a)⟩
  · have h := z_f h a
    obtain ⟨z3, ez3, h⟩ := z_bd h
    rcases isT8 ez3 with ⟨c, d⟩ | ⟨c, d⟩
    · exact Or.inl ⟨fun q => d ⟨q.2.1, by omega⟩, h14 (z_t h c)⟩
    · refine Or.inr ⟨⟨b, d.1, by omega⟩, ?_⟩
      have h := z_f h c
      by_cases c6 : gI o4 8 < (6 : Int32)
      · have d6 := cv_lt (a := (gI o4 8).toInt) (b := 6) rfl (by decide) c6
        obtain ⟨z4, ez4, h⟩ := z_bd (z_t h c6)
        obtain ⟨z5, ez5, h⟩ := z_bd h
        unfold f_X2_addSeen at ez4
        have ez4 := z_f ez4 (fun q => by have q := cv_le (a := 6) (b := (gI o4 8).toInt) (by decide) rfl q; omega)
        obtain ⟨-, ez4⟩ := z_gd ez4
        obtain ⟨u2, f2, ez4⟩ := z_lt ez4
        obtain ⟨-, ez4⟩ := z_gd ez4
        obtain ⟨u4, f4, ez4⟩ := z_lt ez4
        obtain ⟨u5, f5, ez4⟩ := z_lt ez4
        unfold bk_X2_addSeen_39 at ez4
        have ez4 := Option.some.inj ez4
        have k8 : gI u5 8 = gI o4 8 + 1 := by rw [f5, f4, f2]; rfl
        refine Or.inr ⟨fun q => by rw [q] at d6; revert d6; decide, ?_, ?_, ?_, ?_, ?_, ?_⟩
        · rw [← Option.some.inj h]; show z5.1 = _
          rw [grant_ret ez5, ← ez4]; exact k8
        · rw [← Option.some.inj h]; show gI z4.2 8 = _
          rw [← ez4]; exact k8
        · rw [← Option.some.inj h]; show gI z4.2 7 = _
          rw [← ez4]; show gI u5 7 = _
          rw [f5, f4, f2]; rfl
        · rw [← Option.some.inj h]; show gA z4.2 1 = _
          rw [← ez4]; show gA u5 1 = _
          rw [f5, f4, f2]; rfl
        · rw [← Option.some.inj h]; show gA z4.2 2 = _
          rw [← ez4]; show gA u5 2 = _
          rw [f5, f4, f2]; rfl
        · rw [← Option.some.inj h]; show gA z4.2 3 = _
          rw [← ez4]; show gA u5 3 = _
          rw [f5, f4, f2]; rfl
      · have d6 := cv_nlt (a := (gI o4 8).toInt) (b := 6) rfl (by decide) c6
        obtain ⟨z6, ez6, h⟩ := z_bd (z_f h c6)
        refine Or.inl ⟨Int32.toInt_inj.mp ((show (gI o4 8).toInt = 6 by omega).trans (by decide)), ?_⟩
        rw [← Option.some.inj h]; exact ⟨refuse_ret ez6, rfl⟩
theorem forget9 {o : Ob} {y : Int32 × Ob} (h : f_X9_forget o = some y) : y.1 = gA o 3 1 ∧ gA y.2 3 1 = 0 ∧ ∀ j, j ≠ 1 → gA y.2 3 j = gA o 3 j := by
  unfold f_X9_forget at h
  obtain ⟨o1, eo1, h⟩ := z_lt h
  obtain ⟨x2, ex, h⟩ := z_lt h
  obtain ⟨o3, eo3, h⟩ := z_lt h
  have n1 : (1 : Int32).toNatClampNeg = 1 := by decide
  have g1 : gA o1 3 = gA o 3 := by rw [eo1]; rfl
  rw [← Option.some.inj h]
  refine ⟨by rw [ex, n1, g1], ?_, fun j hj => ?_⟩
  · show gA o3 3 1 = 0
    rw [eo3, n1, t3_at, if_pos rfl]
  · show gA o3 3 j = _
    rw [eo3, n1, t3_at, if_neg hj, g1]
theorem forget8 {o0 o4 : Ob} {y : Int32 × Ob} (h : f_X8_forget o0 o4 = some y) : y.1 = gI o4 8 ∧ y.2 = sI o4 8 0 := by
  unfold f_X8_forget at h
  obtain ⟨x1, ex, h⟩ := z_lt h
  obtain ⟨o2, eo2, h⟩ := z_lt h
  rw [← Option.some.inj h]
  exact ⟨ex, eo2⟩
-- the tie of p8 and p9: both tapes are of one size (the calls feed and end)
theorem four1 {N : Nat} {v1 v2 : Int32} {o y : Ob} (h : lp_X9_four_3 (N + 1) (v1, v2, o) = some y) (c : ¬ v2 < (0 : Int32)) : ∃ o', lp_X9_four_3 N (v1, v2 + (-8), o') = some y ∧ gI o' 13 = gI o 13 + 1 := by
  have h : lb_X9_four_3 (lp_X9_four_3 N) v1 v2 o = some y := h
  unfold lb_X9_four_3 at h
  obtain ⟨-, h⟩ := z_gd (z_f h c)
  obtain ⟨o2, e2, h⟩ := z_lt h
  obtain ⟨o3, e3, h⟩ := z_lt h
  obtain ⟨x4, e4, h⟩ := z_lt h
  refine ⟨o3, by rw [← e4]; exact h, ?_⟩
  rw [e3, e2]; rfl
theorem four0 {N : Nat} {v1 v2 : Int32} {o y : Ob} (h : lp_X9_four_3 (N + 1) (v1, v2, o) = some y) (c : v2 < (0 : Int32)) : o = y := by
  have h : lb_X9_four_3 (lp_X9_four_3 N) v1 v2 o = some y := h
  unfold lb_X9_four_3 at h
  exact Option.some.inj (z_t h c)
theorem four_sz {o y : Ob} {p : Int32} (h : f_X9_four o p = some y) : gI y 13 = gI o 13 + 1 + 1 + 1 + 1 := by
  have h : lp_X9_four_3 (99995 + 1 + 1 + 1 + 1 + 1) (p, 24, o) = some y := h
  obtain ⟨o1, h, e1⟩ := four1 h (by decide)
  obtain ⟨o2, h, e2⟩ := four1 h (by decide)
  obtain ⟨o3, h, e3⟩ := four1 h (by decide)
  obtain ⟨o4, h, e4⟩ := four1 h (by decide)
  have e5 := four0 h (by decide)
  rw [← e5, e4, e3, e2, e1]
theorem addn1 {N : Nat} {v1 v2 : Int32} {o y : Ob} (h : lp_X6_addNumber_3 (N + 1) (v1, v2, o) = some y) (c : ¬ v2 < (0 : Int32)) {n : Int} (hn : (gI o 2).toInt = n) (h0 : 0 ≤ n) (h1 : n < 400) : ∃ o', lp_X6_addNumber_3 N (v1, v2 + (-8), o') = some y ∧ gI o' 2 = gI o 2 + 1 ∧ (gI o' 2).toInt = n + 1 := by
  have h : lb_X6_addNumber_3 (lp_X6_addNumber_3 N) v1 v2 o = some y := h
  unfold lb_X6_addNumber_3 at h
  have c4 : ¬ (400 : Int32) ≤ gI o 2 := fun q => by have q := cv_le (a := 400) (b := n) (by decide) hn q; omega
  obtain ⟨-, h⟩ := z_gd (z_f (z_f h c) c4)
  obtain ⟨o3, e3, h⟩ := z_lt h
  obtain ⟨o4, e4, h⟩ := z_lt h
  unfold bk_X6_addNumber_43 at h
  obtain ⟨x1, ex, h⟩ := z_lt h
  have eg : gI o4 2 = gI o 2 + 1 := by rw [e4, e3]; rfl
  exact ⟨o4, by rw [← ex]; exact h, eg, by rw [eg]; exact i32_add hn (by decide) (by omega) (by omega)⟩
theorem addn0 {N : Nat} {v1 v2 : Int32} {o y : Ob} (h : lp_X6_addNumber_3 (N + 1) (v1, v2, o) = some y) (c : v2 < (0 : Int32)) : o = y := by
  have h : lb_X6_addNumber_3 (lp_X6_addNumber_3 N) v1 v2 o = some y := h
  unfold lb_X6_addNumber_3 at h
  exact Option.some.inj (z_t h c)
theorem addn_sz {o y : Ob} {p : Int32} {n : Int} (h : f_X6_addNumber o p = some y) (hn : (gI o 2).toInt = n) (h0 : 0 ≤ n) (h1 : n ≤ 396) : gI y 2 = gI o 2 + 1 + 1 + 1 + 1 ∧ (gI y 2).toInt = n + 4 := by
  have h : lp_X6_addNumber_3 (99995 + 1 + 1 + 1 + 1 + 1) (p, 24, o) = some y := h
  obtain ⟨o1, h, e1, n1⟩ := addn1 h (by decide) hn h0 (by omega)
  obtain ⟨o2, h, e2, n2⟩ := addn1 h (by decide) n1 (by omega) (by omega)
  obtain ⟨o3, h, e3, n3⟩ := addn1 h (by decide) n2 (by omega) (by omega)
  obtain ⟨o4, h, e4, n4⟩ := addn1 h (by decide) n3 (by omega) (by omega)
  have e5 := addn0 h (by decide)
  rw [← e5]
  exact ⟨by rw [e4, e3, e2, e1], by omega⟩
theorem feed_ts {o0 o1 o9 : Ob} {p0 p1 p2 p3 p4 : Int32} {y1 y2 : Int32 × Ob} (ht : gI o1 2 = gI o9 13) (hr : 0 ≤ (gI o1 2).toInt ∧ (gI o1 2).toInt ≤ 400) (h1 : f_X8_feed o0 o1 p0 p1 p2 p3 p4 = some y1) (h2 : f_X9_feed o9 p0 p1 p2 p3 p4 = some y2) : y1.1 = y2.1 ∧ gI y1.2 2 = gI y2.2 13 := by
  unfold f_X8_feed at h1
  obtain ⟨z1, ez1, h1⟩ := z_bd h1
  unfold f_X6_hasRoom at ez1
  unfold f_X9_feed at h2
  obtain ⟨a1, ea1, h2⟩ := z_lt h2
  have eg : gI a1 13 = gI o9 13 := by rw [ea1]; rfl
  have es : (gI o1 2 + (20 : Int32)).toInt = (gI o1 2).toInt + 20 := i32_add rfl (by decide) (by omega) (by omega)
  rw [eg, ← ht] at h2
  by_cases c : (400 : Int32) < gI o1 2 + 20
  · have ez := Option.some.inj (z_t ez1 c)
    have h1 := z_t h1 ez.symm
    have c := cv_lt (a := 400) (b := (gI o1 2).toInt + 20) (by decide) es c
    have c' : ¬ gI o1 2 + (20 : Int32) ≤ 400 := fun q => by have q := cv_le (a := (gI o1 2).toInt + 20) (b := 400) es (by decide) q; omega
    have h2 := z_f h2 c'
    rw [← Option.some.inj h1, ← Option.some.inj h2]
    exact ⟨rfl, by show gI o1 2 = gI a1 13; rw [eg]; exact ht⟩
  · have ez := Option.some.inj (z_f ez1 c)
    have h1 := z_f h1 (by rw [← ez]; decide)
    have c := cv_nlt (a := 400) (b := (gI o1 2).toInt + 20) (by decide) es c
    have c' : gI o1 2 + (20 : Int32) ≤ 400 := Int32.le_iff_toInt_le.mpr (by have e : (400 : Int32).toInt = 400 := (by decide); omega)
    have h2 := z_t h2 c'
    obtain ⟨b1, f1, h1⟩ := z_bd h1
    obtain ⟨b2, f2, h1⟩ := z_bd h1
    obtain ⟨b3, f3, h1⟩ := z_bd h1
    obtain ⟨b4, f4, h1⟩ := z_bd h1
    obtain ⟨b5, f5, h1⟩ := z_bd h1
    obtain ⟨d1, g1, h2⟩ := z_bd h2
    obtain ⟨d2, g2, h2⟩ := z_bd h2
    obtain ⟨d3, g3, h2⟩ := z_bd h2
    obtain ⟨d4, g4, h2⟩ := z_bd h2
    obtain ⟨d5, g5, h2⟩ := z_bd h2
    obtain ⟨q1, r1⟩ := addn_sz f1 rfl hr.1 (by omega)
    obtain ⟨q2, r2⟩ := addn_sz f2 r1 (by omega) (by omega)
    obtain ⟨q3, r3⟩ := addn_sz f3 r2 (by omega) (by omega)
    obtain ⟨q4, r4⟩ := addn_sz f4 r3 (by omega) (by omega)
    obtain ⟨q5, r5⟩ := addn_sz f5 r4 (by omega) (by omega)
    have e : gI b5 2 = gI d5 13 := by rw [q5, q4, q3, q2, q1, four_sz g5, four_sz g4, four_sz g3, four_sz g2, four_sz g1, eg, ht]
    rw [← Option.some.inj h1, ← Option.some.inj h2]
    exact ⟨e, e⟩
theorem end_ts {o0 o1 o9 : Ob} {p : Int32} {y1 y2 : Int32 × Ob} (ht : gI o1 2 = gI o9 13) (h1 : f_X8_end o0 o1 p = some y1) (h2 : f_X9_end o9 p = some y2) : y1.1 = y2.1 ∧ gI y1.2 2 = gI y2.2 13 := by
  unfold f_X8_end at h1
  unfold f_X9_end at h2
  obtain ⟨a1, ea1, h2⟩ := z_lt h2
  have eg : gI a1 13 = gI o9 13 := by rw [ea1]; rfl
  have hx : gI o1 2 = gI a1 13 := by rw [eg]; exact ht
  by_cases c : p < (0 : Int32)
  · rw [← Option.some.inj (z_t h1 c), ← Option.some.inj (z_t h2 c)]
    exact ⟨rfl, hx⟩
  · have h1 := z_f h1 c
    have h2 := z_f h2 c
    rw [← hx] at h2
    by_cases c : p ≤ gI o1 2
    · obtain ⟨u1, eu1, h1⟩ := z_lt (z_t h1 c)
      obtain ⟨u2, eu2, h2⟩ := z_lt (z_t h2 c)
      rw [← Option.some.inj h1, ← Option.some.inj h2]
      exact ⟨rfl, by rw [eu1, eu2]; rfl⟩
    · rw [← Option.some.inj (z_f h1 c), ← Option.some.inj (z_f h2 c)]
      exact ⟨rfl, hx⟩
-- person
theorem l9_pers {y : Int32 × Ob} {v3 : Int32} {n : Nat} (en : v3.toInt = (n : Int)) (hn : n < 7) : ∀ (N : Nat) (v4 : Int32) (o : Ob) (k : Nat), v4.toInt = (k : Int) → lp_X9_person_109 N (v3, v4, o) = some y → y.1 = v3 ∧ gA y.2 3 0 = gA o 3 0 + 1 ∧ ∀ j, j ≠ 0 → gA y.2 3 j = if 36 + 4 * n + k ≤ j ∧ j < 36 + 4 * n + 4 then 0 else gA o 3 j := by
  intro N
  induction N with
  | zero => intro v4 o k _ h; cases h
  | succ N ih =>
    intro v4 o k ek h
    have h : lb_X9_person_109 (lp_X9_person_109 N) v3 v4 o = some y := h
    unfold lb_X9_person_109 at h
    by_cases c : (4 : Int32) ≤ v4
    · have d := cv_le (a := 4) (b := (k : Int)) (by decide) ek c
      obtain ⟨o15, e15, h⟩ := z_lt (z_t h c)
      obtain ⟨z, ez, h⟩ := z_bd h
      have n0 : (0 : Int32).toNatClampNeg = 0 := by decide
      have hs := settled_3 ez
      rw [← Option.some.inj h]
      refine ⟨hs.1, ?_, fun j hj => ?_⟩
      · show gA z.2 3 0 = _
        rw [hs.2.1, e15, n0, t3_at, if_pos rfl]
      · show gA z.2 3 j = _
        rw [hs.2.1, e15, n0, t3_at, if_neg hj, if_neg (by omega)]
    · have d := cv_nle (a := 4) (b := (k : Int)) (by decide) ek c
      obtain ⟨-, h⟩ := z_gd (z_f h c)
      obtain ⟨o18, e18, h⟩ := z_lt h
      obtain ⟨x19, e19, h⟩ := z_lt h
      have m1 : ((4 : Int32) * v3).toInt = 4 * (n : Int) := i32_mul (by decide) en (by omega) (by omega)
      have m2 : ((36 : Int32) + ((4 : Int32) * v3)).toInt = 36 + 4 * (n : Int) := i32_add (by decide) m1 (by omega) (by omega)
      have m3 : (((36 : Int32) + ((4 : Int32) * v3)) + v4).toInt = 36 + 4 * (n : Int) + (k : Int) := i32_add m2 ek (by omega) (by omega)
      have i3 : (((36 : Int32) + ((4 : Int32) * v3)) + v4).toNatClampNeg = 36 + 4 * n + k := tnc_eq (by omega)
      have t19 : x19.toInt = (k : Int) + 1 := by rw [e19]; exact i32_add ek (by decide) (by omega) (by omega)
      rw [i3] at e18
      obtain ⟨a, b, l⟩ := ih x19 o18 (k + 1) (by omega) h
      refine ⟨a, ?_, fun j hj => ?_⟩
      · rw [b, e18, t3_at, if_neg (by omega)]
      · rw [l j hj, e18, t3_at]
        by_cases q : 36 + 4 * n + (k + 1) ≤ j ∧ j < 36 + 4 * n + 4
        · rw [if_pos q, if_pos ⟨by omega, by omega⟩]
        · rw [if_neg q]
          by_cases q2 : j = 36 + 4 * n + k
          · rw [if_pos q2, if_pos ⟨by omega, by omega⟩]
          · rw [if_neg q2, if_neg (by omega)]
theorem pers36 {o : Ob} {v1 v2 : Int32} {y : Int32 × Ob} {n : Nat} (en : (gA o 3 0).toInt = (n : Int)) (hn : n ≤ 7) (h : bk_X9_person_36 v1 v2 o = some y) : (n = 7 ∧ y.1 = -5 ∧ gA y.2 3 = gA o 3) ∨
    (n < 7 ∧ y.1 = gA o 3 0 ∧ gA y.2 3 0 = gA o 3 0 + 1 ∧ gA y.2 3 1 = gA o 3 1 ∧ (∀ j, j < 7 → gA y.2 3 (29 + j) = if j = n then v2 else gA o 3 (29 + j)) ∧ (∀ j, j < 28 → gA y.2 3 (36 + j) = if 4 * n ≤ j ∧ j < 4 * n + 4 then 0 else gA o 3 (36 + j)) ∧ (∀ j, j < 7 → gA y.2 3 (64 + j) = if j = n then 0 else gA o 3 (64 + j))) := by
  unfold bk_X9_person_36 at h
  obtain ⟨x4, ex, h⟩ := z_lt h
  have n0 : (0 : Int32).toNatClampNeg = 0 := by decide
  rw [n0] at ex
  have tx : x4.toInt = (n : Int) := by rw [ex]; exact en
  by_cases c : x4 = (7 : Int32)
  · have d := cv_eq (a := (n : Int)) (b := 7) tx (by decide) c
    obtain ⟨z, ez, h⟩ := z_bd (z_t h c)
    refine Or.inl ⟨by omega, ?_⟩
    rw [← Option.some.inj h]; exact ⟨(tell_3 ez).1, (tell_3 ez).2.1⟩
  · have hlt : n < 7 := by have d := cv_ne (a := (n : Int)) (b := 7) tx (by decide) c; clear tx en; omega
    have h := z_f h c
    obtain ⟨-, h⟩ := z_gd h
    obtain ⟨o6, e6, h⟩ := z_lt h
    obtain ⟨-, h⟩ := z_gd h
    obtain ⟨o8, e8, h⟩ := z_lt h
    obtain ⟨-, h⟩ := z_gd h
    obtain ⟨o10, e10, h⟩ := z_lt h
    obtain ⟨-, h⟩ := z_gd h
    obtain ⟨o12, e12, h⟩ := z_lt h
    obtain ⟨-, h⟩ := z_gd h
    obtain ⟨o14, e14, h⟩ := z_lt h
    have s6 : ((8 : Int32) + x4).toInt = 8 + (n : Int) := i32_add (by decide) tx (by omega) (by omega)
    have s8 : ((15 : Int32) + x4).toInt = 15 + (n : Int) := i32_add (by decide) tx (by omega) (by omega)
    have s10 : ((22 : Int32) + x4).toInt = 22 + (n : Int) := i32_add (by decide) tx (by omega) (by omega)
    have s12 : ((29 : Int32) + x4).toInt = 29 + (n : Int) := i32_add (by decide) tx (by omega) (by omega)
    have s14 : ((64 : Int32) + x4).toInt = 64 + (n : Int) := i32_add (by decide) tx (by omega) (by omega)
    have i6 : ((8 : Int32) + x4).toNatClampNeg = 8 + n := tnc_eq (by omega)
    have i8 : ((15 : Int32) + x4).toNatClampNeg = 15 + n := tnc_eq (by omega)
    have i10 : ((22 : Int32) + x4).toNatClampNeg = 22 + n := tnc_eq (by omega)
    have i12 : ((29 : Int32) + x4).toNatClampNeg = 29 + n := tnc_eq (by omega)
    have i14 : ((64 : Int32) + x4).toNatClampNeg = 64 + n := tnc_eq (by omega)
    rw [i6] at e6
    rw [i8] at e8
    rw [i10] at e10
    rw [i12] at e12
    rw [i14] at e14
    obtain ⟨a, b, l⟩ := l9_pers tx hlt zfu 0 o14 0 (by decide) h
    have lo : ∀ k, gA o14 3 k = if k = 64 + n then 0 else if k = 29 + n then v2 else if k = 22 + n then 0 else if k = 15 + n then 0 else if k = 8 + n then v1 else gA o 3 k := by
      intro k
      rw [e14, t3_at, e12, t3_at, e10, t3_at, e8, t3_at, e6, t3_at]
    clear tx en s6 s8 s10 s12 s14 i6 i8 i10 i12 i14 e6 e8 e10 e12 e14 c hn h
    refine Or.inr ⟨hlt, by rw [a]; exact ex, ?_, ?_, fun j hj => ?_, fun j hj => ?_, fun j hj => ?_⟩
    · rw [b, lo 0, if_neg (by omega), if_neg (by omega), if_neg (by omega), if_neg (by omega), if_neg (by omega)]
    · rw [l 1 (by decide), if_neg (by omega), lo 1, if_neg (by omega), if_neg (by omega), if_neg (by omega), if_neg (by omega), if_neg (by omega)]
    · rw [l (29 + j) (by omega), if_neg (by omega), lo (29 + j), if_neg (by omega)]
      by_cases q : j = n
      · rw [if_pos (by omega), if_pos q]
      · rw [if_neg (by omega), if_neg (by omega), if_neg (by omega), if_neg (by omega), if_neg q]
    · rw [l (36 + j) (by omega)]
      by_cases q : 4 * n ≤ j ∧ j < 4 * n + 4
      · rw [if_pos ⟨by omega, by omega⟩, if_pos q]
      · rw [if_neg (fun z => q ⟨by omega, by omega⟩)]
        rw [lo (36 + j), if_neg (by omega), if_neg (by omega), if_neg (by omega), if_neg (by omega), if_neg (by omega), if_neg q]
    · rw [l (64 + j) (by omega), if_neg (by omega), lo (64 + j)]
      by_cases q : j = n
      · rw [if_pos (by omega), if_pos q]
      · rw [if_neg (by omega), if_neg (by omega), if_neg (by omega), if_neg (by omega), if_neg (by omega), if_neg q]
theorem person9 {o : Ob} {p0 p1 : Int32} {y : Int32 × Ob} {n : Nat} (en : (gA o 3 0).toInt = (n : Int)) (hn : n ≤ 7) (h : f_X9_person o p0 p1 = some y) :
    (¬ ((0 ≤ p0.toInt ∧ p0.toInt ≤ 9) ∧ (p1 = -1 ∨ (0 ≤ p1.toInt ∧ p1.toInt < (n : Int)))) ∧ y.1 = -1 ∧ gA y.2 3 = gA o 3) ∨
    (((0 ≤ p0.toInt ∧ p0.toInt ≤ 9) ∧ (p1 = -1 ∨ (0 ≤ p1.toInt ∧ p1.toInt < (n : Int)))) ∧ ((n = 7 ∧ y.1 = -5 ∧ gA y.2 3 = gA o 3) ∨
      (n < 7 ∧ y.1 = gA o 3 0 ∧ gA y.2 3 0 = gA o 3 0 + 1 ∧ gA y.2 3 1 = gA o 3 1 ∧ (∀ j, j < 7 → gA y.2 3 (29 + j) = if j = n then p1 else gA o 3 (29 + j)) ∧ (∀ j, j < 28 → gA y.2 3 (36 + j) = if 4 * n ≤ j ∧ j < 4 * n + 4 then 0 else gA o 3 (36 + j)) ∧ (∀ j, j < 7 → gA y.2 3 (64 + j) = if j = n then 0 else gA o 3 (64 + j))))) := by
  unfold f_X9_person at h
  obtain ⟨o1, eo1, h⟩ := z_lt h
  have g1 : gA o1 3 = gA o 3 := by rw [eo1]; rfl
  have h30 : bk_X9_person_30 o1 = some y → y.1 = -1 ∧ gA y.2 3 = gA o 3 := by
    intro h
    unfold bk_X9_person_30 at h
    obtain ⟨z, ez, h⟩ := z_bd h
    rw [← Option.some.inj h, ← g1]; exact ⟨(tell_3 ez).1, (tell_3 ez).2.1⟩
  have h36 := fun h => pers36 (o := o1) (v1 := p0) (v2 := p1) (y := y) (n := n) (by rw [g1]; exact en) hn h
  rw [g1] at h36
  obtain ⟨z2, ez2, h⟩ := z_bd h
  rcases in9 (m := 0) (n := 9) (by decide) (by decide) ez2 with ⟨a, b⟩ | ⟨a, b⟩
  · exact Or.inl ⟨fun q => b q.1, h30 (z_t h a)⟩
  · have h := z_f h a
    by_cases c : p1 = (-1 : Int32)
    · exact Or.inr ⟨⟨b, Or.inl c⟩, h36 (z_t h c)⟩
    · obtain ⟨z, ez, h⟩ := z_bd (z_f h c)
      rcases isP9 ez (by rw [g1]; omega) with ⟨d, e⟩ | ⟨d, e⟩
      · rw [g1, en] at e
        exact Or.inl ⟨fun q => q.2.elim c e, h30 (z_t h d)⟩
      · rw [g1, en] at e
        exact Or.inr ⟨⟨b, Or.inr e⟩, h36 (z_f h d)⟩
theorem pers29 {o0 o4 o5 o11 : Ob} {v1 v2 : Int32} {y : Int32 × Ob × Ob × Ob × Ob} {n : Nat} (en : (gI o4 7).toInt = (n : Int)) (hn : n ≤ 7) (h : bk_X8_person_29 v1 v2 o0 o4 o5 o11 = some y) : (n = 7 ∧ y.1 = -5 ∧ y.2.2.1 = o4) ∨
    (n < 7 ∧ y.1 = gI o4 7 ∧ gI y.2.2.1 7 = gI o4 7 + 1 ∧ gI y.2.2.1 8 = gI o4 8 ∧ (∀ j, gA y.2.2.1 1 j = if j = n then v2 else gA o4 1 j) ∧ gA y.2.2.1 2 = gA o4 2 ∧ gA y.2.2.1 3 = gA o4 3) := by
  unfold bk_X8_person_29 at h
  by_cases c : gI o4 7 < (7 : Int32)
  · have d := cv_lt (a := (n : Int)) (b := 7) en (by decide) c
    obtain ⟨z3, -, h⟩ := z_bd (z_t h c)
    obtain ⟨z4, ez4, h⟩ := z_bd h
    obtain ⟨z5, ez5, h⟩ := z_bd h
    unfold f_X2_addPerson at ez4
    obtain ⟨-, ez4⟩ := z_gd (z_t ez4 c)
    obtain ⟨u2, f2, ez4⟩ := z_lt ez4
    obtain ⟨-, ez4⟩ := z_gd ez4
    obtain ⟨u4, f4, ez4⟩ := z_lt ez4
    obtain ⟨u5, f5, ez4⟩ := z_lt ez4
    have ez4 := Option.some.inj ez4
    have i7 : (gI o4 7).toNatClampNeg = n := tnc_eq en
    rw [i7] at f4
    have k7 : gI u5 7 = gI o4 7 + 1 := by rw [f5, f4]; rfl
    have w1 : ((gI o4 7 + 1) - (1 : Int32)).toInt = (n : Int) + 1 - 1 := i32_sub (i32_add en (by decide) (by omega) (by omega)) (by decide) (by omega) (by omega)
    have ey : y.2.2.1 = u5 := by rw [← Option.some.inj h, ← ez4]
    refine Or.inr ⟨by omega, ?_, ?_, ?_, ?_, ?_, ?_⟩
    · rw [← Option.some.inj h]; show z5.1 = _
      rw [grant_ret ez5, ← ez4]; show gI u5 7 - 1 = _
      rw [k7]; exact Int32.toInt_inj.mp (by omega)
    · rw [ey]; exact k7
    · rw [ey, f5, f4]; rfl
    · intro j
      rw [ey, f5, f4]; rfl
    · rw [ey, f5, f4]; rfl
    · rw [ey, f5, f4]; rfl
  · have d := cv_nlt (a := (n : Int)) (b := 7) en (by decide) c
    obtain ⟨z6, ez6, h⟩ := z_bd (z_f h c)
    refine Or.inl ⟨by omega, ?_⟩
    rw [← Option.some.inj h]; exact ⟨refuse_ret ez6, rfl⟩
theorem person8 {o0 o4 o5 o11 : Ob} {p0 p1 : Int32} {y : Int32 × Ob × Ob × Ob × Ob} {n : Nat} (en : (gI o4 7).toInt = (n : Int)) (hn : n ≤ 7) (h : f_X8_person o0 o4 o5 o11 p0 p1 = some y) :
    (¬ ((0 ≤ p0.toInt ∧ p0.toInt ≤ 9) ∧ (p1 = -1 ∨ (0 ≤ p1.toInt ∧ p1.toInt < (n : Int)))) ∧ y.1 = -1 ∧ y.2.2.1 = o4) ∨
    (((0 ≤ p0.toInt ∧ p0.toInt ≤ 9) ∧ (p1 = -1 ∨ (0 ≤ p1.toInt ∧ p1.toInt < (n : Int)))) ∧ ((n = 7 ∧ y.1 = -5 ∧ y.2.2.1 = o4) ∨
      (n < 7 ∧ y.1 = gI o4 7 ∧ gI y.2.2.1 7 = gI o4 7 + 1 ∧ gI y.2.2.1 8 = gI o4 8 ∧ (∀ j, gA y.2.2.1 1 j = if j = n then p1 else gA o4 1 j) ∧ gA y.2.2.1 2 = gA o4 2 ∧ gA y.2.2.1 3 = gA o4 3))) := by
  unfold f_X8_person at h
  have h23 : bk_X8_person_23 o0 o4 o5 o11 = some y → y.1 = -1 ∧ y.2.2.1 = o4 := by
    intro h
    unfold bk_X8_person_23 at h
    obtain ⟨z, ez, h⟩ := z_bd h
    rw [← Option.some.inj h]; exact ⟨refuse_ret ez, rfl⟩
  have h29 := fun h => pers29 (o0 := o0) (o4 := o4) (o5 := o5) (o11 := o11) (v1 := p0) (v2 := p1) (y := y) (n := n) en hn h
  obtain ⟨z1, ez1, h⟩ := z_bd h
  rcases isT8 ez1 with ⟨a, b⟩ | ⟨a, b⟩
  · exact Or.inl ⟨fun q => b ⟨q.1.1, by omega⟩, h23 (z_t h a)⟩
  · have h := z_f h a
    by_cases c : p1 = (-1 : Int32)
    · exact Or.inr ⟨⟨⟨b.1, by omega⟩, Or.inl c⟩, h29 (z_t h c)⟩
    · obtain ⟨z, ez, h⟩ := z_bd (z_f h c)
      rcases isP2 ez with ⟨d, e⟩ | ⟨d, e⟩
      · rw [en] at e
        exact Or.inl ⟨fun q => q.2.elim c e, h23 (z_t h d)⟩
      · rw [en] at e
        exact Or.inr ⟨⟨⟨b.1, by omega⟩, Or.inr e⟩, h29 (z_f h d)⟩
-- beats
theorem xor01 {x p s : Int32} (hx : 0 ≤ x.toInt ∧ x.toInt ≤ 1) (hp : 0 ≤ p.toInt ∧ p.toInt ≤ 1) (hs : 0 ≤ s.toInt ∧ s.toInt ≤ 7) : (x ^^^ p) <<< (s &&& 31) = if x = p then 0 else (1 : Int32) <<< (s &&& 31) := by
  have e : ∀ z : Int32, 0 ≤ z.toInt → z.toInt ≤ 1 → z = 0 ∨ z = 1 := by
    intro z h0 h1
    rcases (show z.toInt = 0 ∨ z.toInt = 1 by omega) with h | h
    · exact Or.inl (Int32.toInt_inj.mp (h.trans (by decide)))
    · exact Or.inr (Int32.toInt_inj.mp (h.trans (by decide)))
  rcases e x hx.1 hx.2 with h | h <;> rcases e p hp.1 hp.2 with h' | h' <;> rcases i32_cases8 hs.1 hs.2 with q | q | q | q | q | q | q | q <;> rw [h, h', q] <;> decide
theorem beats9 {o : Ob} {p0 p1 p2 : Int32} {y : Int32 × Ob} {n : Nat} (en : (gA o 3 0).toInt = (n : Int)) (hn : n ≤ 7) (h : f_X9_beats o p0 p1 p2 = some y) :
    (¬ (¬ p0 = p1 ∧ 0 ≤ p2.toInt ∧ p2.toInt ≤ 1) ∧ y.1 = -1 ∧ gA y.2 3 = gA o 3) ∨
    ((¬ p0 = p1 ∧ 0 ≤ p2.toInt ∧ p2.toInt ≤ 1) ∧ ((¬ ((0 ≤ p0.toInt ∧ p0.toInt < (n : Int)) ∧ 0 ≤ p1.toInt ∧ p1.toInt < (n : Int)) ∧ y.1 = -2 ∧ gA y.2 3 = gA o 3) ∨
      (((0 ≤ p0.toInt ∧ p0.toInt < (n : Int)) ∧ 0 ≤ p1.toInt ∧ p1.toInt < (n : Int)) ∧ y.1 = ((gA o 3 (64 + p0.toNatClampNeg)) >>> (p1 &&& 31)) &&& (1 : Int32) ∧
        ∀ j, gA y.2 3 j = if j = 64 + p0.toNatClampNeg then (gA o 3 (64 + p0.toNatClampNeg)) ^^^ (if y.1 = p2 then 0 else (1 : Int32) <<< (p1 &&& 31)) else gA o 3 j))) := by
  unfold f_X9_beats at h
  obtain ⟨o1, eo1, h⟩ := z_lt h
  have g1 : gA o1 3 = gA o 3 := by rw [eo1]; rfl
  have h20 : bk_X9_beats_20 o1 = some y → y.1 = -1 ∧ gA y.2 3 = gA o 3 := by
    intro h
    unfold bk_X9_beats_20 at h
    obtain ⟨z, ez, h⟩ := z_bd h
    rw [← Option.some.inj h, ← g1]; exact ⟨(tell_3 ez).1, (tell_3 ez).2.1⟩
  have h42 : bk_X9_beats_42 o1 = some y → y.1 = -2 ∧ gA y.2 3 = gA o 3 := by
    intro h
    unfold bk_X9_beats_42 at h
    obtain ⟨z, ez, h⟩ := z_bd h
    rw [← Option.some.inj h, ← g1]; exact ⟨(tell_3 ez).1, (tell_3 ez).2.1⟩
  by_cases c : p0 = p1
  · exact Or.inl ⟨fun q => q.1 c, h20 (z_t h c)⟩
  · obtain ⟨z3, ez3, h⟩ := z_bd (z_f h c)
    rcases in9 (m := 0) (n := 1) (by decide) (by decide) ez3 with ⟨a, b⟩ | ⟨a, b⟩
    · exact Or.inl ⟨fun q => b q.2, h20 (z_t h a)⟩
    · refine Or.inr ⟨⟨c, b⟩, ?_⟩
      have hp : 0 ≤ (gA o1 3 0).toInt ∧ (gA o1 3 0).toInt ≤ 7 := by rw [g1]; omega
      obtain ⟨z4, ez4, h⟩ := z_bd (z_f h a)
      rcases isP9 ez4 hp with ⟨d, e⟩ | ⟨d, e⟩
      · rw [g1, en] at e
        exact Or.inl ⟨fun q => e q.1, h42 (z_t h d)⟩
      · rw [g1, en] at e
        obtain ⟨z6, ez6, h⟩ := z_bd (z_f h d)
        rcases isP9 ez6 hp with ⟨f, g⟩ | ⟨f, g⟩
        · rw [g1, en] at g
          exact Or.inl ⟨fun q => g q.2, h42 (z_t h f)⟩
        · rw [g1, en] at g
          obtain ⟨-, h⟩ := z_gd (z_f h f)
          obtain ⟨x8, e8, h⟩ := z_lt h
          obtain ⟨x9, e9, h⟩ := z_lt h
          obtain ⟨-, h⟩ := z_gd h
          have s9 : ((64 : Int32) + p0).toInt = 64 + p0.toInt := i32_add (by decide) rfl (by omega) (by omega)
          have ec : p0.toNatClampNeg = p0.toInt.toNat := rfl
          have i9 : ((64 : Int32) + p0).toNatClampNeg = 64 + p0.toNatClampNeg := tnc_eq (by rw [s9, ec]; omega)
          have j9 : x9.toNatClampNeg = 64 + p0.toNatClampNeg := by rw [e9]; exact i9
          rw [i9, g1] at e8
          have h87 : ∀ s0 : Int32, bk_X9_beats_87 x8 s0 (gA o1 3 x9.toNatClampNeg) x9 o1 = some y → y.1 = x8 ∧ ∀ j, gA y.2 3 j = if j = 64 + p0.toNatClampNeg then (gA o 3 (64 + p0.toNatClampNeg)) ^^^ s0 else gA o 3 j := by
            intro s0 h
            unfold bk_X9_beats_87 at h
            obtain ⟨-, h⟩ := z_gd h
            obtain ⟨o12, e12, h⟩ := z_lt h
            obtain ⟨z, ez, h⟩ := z_bd h
            rw [j9] at e12
            rw [← Option.some.inj h]
            refine ⟨(tell_3 ez).1, fun j => ?_⟩
            show gA z.2 3 j = _
            rw [(tell_3 ez).2.1, e12, t3_at, g1]
          refine Or.inr ⟨⟨e, g⟩, ?_⟩
          by_cases k : x8 = p2
          · obtain ⟨q1, q2⟩ := h87 _ (z_t h k)
            refine ⟨q1.trans e8, fun j => ?_⟩
            rw [q2 j, q1, if_pos k]
          · obtain ⟨q1, q2⟩ := h87 _ (z_f h k)
            refine ⟨q1.trans e8, fun j => ?_⟩
            rw [q2 j, q1, if_neg k]
theorem beats8 {o0 o4 : Ob} {p0 p1 p2 : Int32} {y : Int32 × Ob × Ob} {n : Nat} (en : (gI o4 7).toInt = (n : Int)) (hn : n ≤ 7) (h : f_X8_beats o0 o4 p0 p1 p2 = some y) :
    (¬ (¬ p0 = p1 ∧ 0 ≤ p2.toInt ∧ p2.toInt ≤ 1) ∧ y.1 = -1 ∧ y.2.2 = o4) ∨
    ((¬ p0 = p1 ∧ 0 ≤ p2.toInt ∧ p2.toInt ≤ 1) ∧ ((¬ ((0 ≤ p0.toInt ∧ p0.toInt < (n : Int)) ∧ 0 ≤ p1.toInt ∧ p1.toInt < (n : Int)) ∧ y.1 = -2 ∧ y.2.2 = o4) ∨
      (((0 ≤ p0.toInt ∧ p0.toInt < (n : Int)) ∧ 0 ≤ p1.toInt ∧ p1.toInt < (n : Int)) ∧ y.1 = ((gA o4 3 p0.toNatClampNeg) >>> (p1 &&& 31)) &&& (1 : Int32) ∧
        y.2.2 = tA o4 3 p0.toNatClampNeg ((gA o4 3 p0.toNatClampNeg) ^^^ (if y.1 = p2 then 0 else (1 : Int32) <<< (p1 &&& 31)))))) := by
  unfold f_X8_beats at h
  have h14 : bk_X8_beats_14 o0 o4 = some y → y.1 = -1 ∧ y.2.2 = o4 := by
    intro h
    unfold bk_X8_beats_14 at h
    obtain ⟨z, ez, h⟩ := z_bd h
    rw [← Option.some.inj h]; exact ⟨refuse_ret ez, rfl⟩
  have h42 : bk_X8_beats_42 o0 o4 = some y → y.1 = -2 ∧ y.2.2 = o4 := by
    intro h
    unfold bk_X8_beats_42 at h
    obtain ⟨z, ez, h⟩ := z_bd h
    rw [← Option.some.inj h]; exact ⟨refuse_ret ez, rfl⟩
  by_cases c : p0 = p1
  · exact Or.inl ⟨fun q => q.1 c, h14 (z_t h c)⟩
  · have h := z_f h c
    by_cases c1 : p2 < (0 : Int32)
    · have d := cv_lt (a := p2.toInt) (b := 0) rfl (by decide) c1
      exact Or.inl ⟨fun q => by omega, h14 (z_t h c1)⟩
    · have h := z_f h c1
      have d := cv_nlt (a := p2.toInt) (b := 0) rfl (by decide) c1
      by_cases c2 : p2 ≤ (1 : Int32)
      · have d2 := cv_le (a := p2.toInt) (b := 1) rfl (by decide) c2
        have h := z_t h c2
        refine Or.inr ⟨⟨c, d, d2⟩, ?_⟩
        obtain ⟨z2, ez2, h⟩ := z_bd h
        rcases isP2 ez2 with ⟨e, f⟩ | ⟨e, f⟩
        · rw [en] at f
          exact Or.inl ⟨fun q => f q.1, h42 (z_t h e)⟩
        · rw [en] at f
          obtain ⟨z4, ez4, h⟩ := z_bd (z_f h e)
          rcases isP2 ez4 with ⟨g, k⟩ | ⟨g, k⟩
          · rw [en] at k
            exact Or.inl ⟨fun q => k q.2, h42 (z_t h g)⟩
          · rw [en] at k
            obtain ⟨-, h⟩ := z_gd (z_f h g)
            obtain ⟨x6, e6, h⟩ := z_lt h
            obtain ⟨-, h⟩ := z_gd h
            obtain ⟨-, h⟩ := z_gd h
            obtain ⟨o9, e9, h⟩ := z_lt h
            obtain ⟨z10, ez10, h⟩ := z_bd h
            have r6 : 0 ≤ x6.toInt ∧ x6.toInt ≤ 1 := by rw [e6]; exact i32_and ⟨by decide, by decide⟩
            rw [xor01 r6 ⟨d, d2⟩ ⟨k.1, by omega⟩] at e9
            have q1 : y.1 = x6 := by rw [← Option.some.inj h]; exact grant_ret ez10
            refine Or.inr ⟨⟨f, k⟩, q1.trans e6, ?_⟩
            rw [q1, ← Option.some.inj h]; exact e9
      · have d2 := cv_nle (a := p2.toInt) (b := 1) rfl (by decide) c2
        exact Or.inl ⟨fun q => by omega, h14 (z_f h c2)⟩
-- the tape's size behind row, law, orders
theorem endText_13 {o z : Ob} (e : f_X9_endText o = some z) : gI z 13 = 0 := by
  unfold f_X9_endText at e
  have h19 : ∀ q : Ob, bk_X9_endText_19 q = some z → gI z 13 = 0 := by
    intro q hq
    have hq : some (sI (sI q 20 (0 : Int32)) 13 (0 : Int32)) = some z := hq
    rw [← Option.some.inj hq]; rfl
  by_cases c : gI o 19 = 0
  · have e := z_t e c
    by_cases d : gI o 16 = 0
    · exact h19 _ (z_t e d)
    · obtain ⟨w, -, e⟩ := z_bd (z_f e d)
      exact h19 _ e
  · exact h19 _ (z_f e c)
theorem l145_13 {y : Int32 × Ob} : ∀ (N : Nat) (v1 v2 : Int32) (o : Ob), lp_X9_law_145 N (v1, v2, o) = some y → gI y.2 13 = gI o 13 := by
  intro N
  induction N with
  | zero => intro v1 v2 o h; cases h
  | succ N ih =>
    intro v1 v2 o h
    have h : lb_X9_law_145 (lp_X9_law_145 N) v1 v2 o = some y := h
    unfold lb_X9_law_145 at h
    by_cases c : gI o 23 ≤ v2
    · obtain ⟨o8, e8, h⟩ := z_lt (z_t h c)
      obtain ⟨z, ez, h⟩ := z_bd h
      rw [← Option.some.inj h]; show gI z.2 13 = _
      rw [(tell_3 ez).2.2.2.1, e8]; rfl
    · obtain ⟨-, h⟩ := z_gd (z_f h c)
      obtain ⟨-, h⟩ := z_gd h
      obtain ⟨o12, e12, h⟩ := z_lt h
      obtain ⟨-, h⟩ := z_gd h
      obtain ⟨-, h⟩ := z_gd h
      obtain ⟨o15, e15, h⟩ := z_lt h
      obtain ⟨x16, -, h⟩ := z_lt h
      rw [ih _ _ _ h, e15, e12]; rfl
theorem l110_13 {y : Int32 × Ob} : ∀ (N : Nat) (v1 v2 : Int32) (o : Ob), lp_X9_law_110 N (v1, v2, o) = some y → gI y.2 13 = gI o 13 := by
  intro N
  induction N with
  | zero => intro v1 v2 o h; cases h
  | succ N ih =>
    intro v1 v2 o h
    have h : lb_X9_law_110 (lp_X9_law_110 N) v1 v2 o = some y := h
    unfold lb_X9_law_110 at h
    by_cases c : (8 : Int32) * gI o 21 ≤ v2
    · exact l145_13 _ _ _ _ (z_t h c)
    · obtain ⟨-, h⟩ := z_gd (z_f h c)
      obtain ⟨-, h⟩ := z_gd h
      obtain ⟨o19, e19, h⟩ := z_lt h
      obtain ⟨x20, -, h⟩ := z_lt h
      rw [ih _ _ _ h, e19]; rfl
theorem law64_13 {o : Ob} {y : Int32 × Ob} (h : bk_X9_law_64 o = some y) : gI y.2 13 = 0 := by
  unfold bk_X9_law_64 at h
  obtain ⟨z4, ez4, h⟩ := z_bd h
  have e := endText_13 ez4
  by_cases c : gI z4 19 = 0
  · obtain ⟨x5, -, h⟩ := z_lt (z_t h c)
    obtain ⟨-, h⟩ := z_gd h
    obtain ⟨o7, e7, h⟩ := z_lt h
    rw [l110_13 _ _ _ _ h, e7]; exact e
  · obtain ⟨z, ez, h⟩ := z_bd (z_f h c)
    rw [← Option.some.inj h]; show gI z.2 13 = _
    rw [(tell_3 ez).2.2.2.1]; exact e
theorem l37_13 {y : Int32 × Ob} : ∀ (N : Nat) (o : Ob), lp_X9_law_37 N o = some y → gI y.2 13 = 0 := by
  intro N
  induction N with
  | zero => intro o h; cases h
  | succ N ih =>
    intro o h
    have h : lb_X9_law_37 (lp_X9_law_37 N) o = some y := h
    unfold lb_X9_law_37 at h
    by_cases c : gI o 19 = 0
    · obtain ⟨z22, -, h⟩ := z_bd (z_t h c)
      by_cases d : z22 = 0
      · exact law64_13 (z_t h d)
      · obtain ⟨z23, -, h⟩ := z_bd (z_f h d)
        obtain ⟨z24, -, h⟩ := z_bd h
        exact ih _ h
    · exact law64_13 (z_f h c)
theorem law9_13 {o : Ob} {y : Int32 × Ob} (h : f_X9_law o = some y) : gI y.2 13 = 0 := by
  unfold f_X9_law at h
  obtain ⟨o1, -, h⟩ := z_lt h
  by_cases c : gA o1 3 (2 : Int32).toNatClampNeg = 6
  · obtain ⟨o25, e25, h⟩ := z_lt (z_t h c)
    obtain ⟨z, ez, h⟩ := z_bd h
    rw [← Option.some.inj h]; show gI z.2 13 = _
    rw [(tell_3 ez).2.2.2.1, e25]; rfl
  · obtain ⟨z2, -, h⟩ := z_bd (z_f h c)
    obtain ⟨z3, -, h⟩ := z_bd h
    exact l37_13 _ _ h
theorem l58_13 {y : Int32 × Ob} {rec35 : Int32 × Int32 × Int32 × Ob → Option (Int32 × Ob)} {v1 v2 v3 : Int32} (hrec : ∀ (w2 w3 : Int32) (o' : Ob), rec35 (v1, w2, w3, o') = some y → gI y.2 13 = gI o' 13) : ∀ (N : Nat) (v4 : Int32) (o : Ob), lp_X9_row_58 rec35 N (v1, v2, v3, v4, o) = some y → gI y.2 13 = gI o 13 := by
  intro N
  induction N with
  | zero => intro v4 o h; cases h
  | succ N ih =>
    intro v4 o h
    have h : lb_X9_row_58 rec35 (lp_X9_row_58 rec35 N) v1 v2 v3 v4 o = some y := h
    unfold lb_X9_row_58 at h
    by_cases c : (4 : Int32) ≤ v4
    · obtain ⟨x9, -, h⟩ := z_lt (z_t h c)
      unfold bk_X9_row_116 at h
      obtain ⟨x7, -, h⟩ := z_lt h
      exact hrec _ _ _ h
    · obtain ⟨-, h⟩ := z_gd (z_f h c)
      obtain ⟨-, h⟩ := z_gd h
      obtain ⟨-, h⟩ := z_gd h
      obtain ⟨o13, e13, h⟩ := z_lt h
      obtain ⟨x14, -, h⟩ := z_lt h
      rw [ih _ _ h, e13]; rfl
theorem l35_13 {y : Int32 × Ob} {v1 : Int32} : ∀ (N : Nat) (v2 v3 : Int32) (o : Ob), lp_X9_row_35 N (v1, v2, v3, o) = some y → gI y.2 13 = gI o 13 := by
  intro N
  induction N with
  | zero => intro v2 v3 o h; cases h
  | succ N ih =>
    intro v2 v3 o h
    have h : lb_X9_row_35 (lp_X9_row_35 N) v1 v2 v3 o = some y := h
    unfold lb_X9_row_35 at h
    have h106 : bk_X9_row_106 (lp_X9_row_35 N) v1 v2 v3 o = some y → gI y.2 13 = gI o 13 := by
      intro h
      unfold bk_X9_row_106 at h
      obtain ⟨o6, e6, h⟩ := z_lt h
      unfold bk_X9_row_116 at h
      obtain ⟨x7, -, h⟩ := z_lt h
      rw [ih _ _ _ h, e6]; rfl
    by_cases c : v1 ≤ v3
    · obtain ⟨z, ez, h⟩ := z_bd (z_t h c)
      rw [← Option.some.inj h]; exact (tell_3 ez).2.2.2.1
    · have h := z_f h c
      by_cases d : v1 ≤ v3 + (4 : Int32)
      · exact h106 (z_t h d)
      · obtain ⟨z8, -, h⟩ := z_bd (z_f h d)
        by_cases e : z8 = 0
        · exact h106 (z_t h e)
        · exact l58_13 (fun w2 w3 o' q => ih w2 w3 o' q) _ _ _ (z_f h e)
theorem row9_13 {o : Ob} {y : Int32 × Ob} (h : f_X9_row o = some y) : gI y.2 13 = 0 := by
  unfold f_X9_row at h
  obtain ⟨o1, -, h⟩ := z_lt h
  obtain ⟨x2, -, h⟩ := z_lt h
  obtain ⟨o3, e3, h⟩ := z_lt h
  by_cases c : x2 = 0
  · obtain ⟨z, ez, h⟩ := z_bd (z_t h c)
    rw [← Option.some.inj h]; show gI z.2 13 = _
    rw [(tell_3 ez).2.2.2.1, e3]; rfl
  · obtain ⟨o4, e4, h⟩ := z_lt (z_f h c)
    rw [l35_13 _ _ _ _ h, e4, e3]; rfl
theorem l26_2 {y : Int32 × Ob × Ob × Ob} : ∀ (N : Nat) (v1 v2 : Int32) (o0 o1 o4 : Ob), lp_X8_row_26 N (v1, v2, o0, o1, o4) = some y → gI y.2.2.1 2 = 0 := by
  intro N
  induction N with
  | zero => intro v1 v2 o0 o1 o4 h; cases h
  | succ N ih =>
    intro v1 v2 o0 o1 o4 h
    have h : lb_X8_row_26 (lp_X8_row_26 N) v1 v2 o0 o1 o4 = some y := h
    unfold lb_X8_row_26 at h
    by_cases c : gI o1 2 ≤ v2
    · obtain ⟨o2, e2, h⟩ := z_lt (z_t h c)
      obtain ⟨z, -, h⟩ := z_bd h
      rw [← Option.some.inj h]; show gI o2 2 = _
      rw [e2]; rfl
    · obtain ⟨z4, -, h⟩ := z_bd (z_f h c)
      by_cases d : z4.1 = 0
      · obtain ⟨o5, -, h⟩ := z_lt (z_t h d)
        unfold bk_X8_row_61 at h
        obtain ⟨x6, -, h⟩ := z_lt h
        exact ih _ _ _ _ _ h
      · obtain ⟨x7, -, h⟩ := z_lt (z_f h d)
        unfold bk_X8_row_61 at h
        obtain ⟨x6, -, h⟩ := z_lt h
        exact ih _ _ _ _ _ h
theorem row8_2 {o0 o1 o4 : Ob} {y : Int32 × Ob × Ob × Ob} (h : f_X8_row o0 o1 o4 = some y) : gI y.2.2.1 2 = 0 := by
  unfold f_X8_row at h
  by_cases c : gI o1 2 = 0
  · obtain ⟨z, -, h⟩ := z_bd (z_t h c)
    rw [← Option.some.inj h]; exact c
  · obtain ⟨x, -, h⟩ := z_lt (z_f h c)
    exact l26_2 _ _ _ _ _ _ h
theorem l89_2 {nc ns : Nat} {o4 : Ob} {pl : List CR} {y : Int32 × Ob × Ob × Ob × Ob × Ob × Ob × Ob × Ob × Ob} {r78 : Int32 × Ob × Ob × Ob × Ob × Ob × Ob × Ob × Ob × Ob → Option (Int32 × Ob × Ob × Ob × Ob × Ob × Ob × Ob × Ob × Ob)} (hrec : ∀ x, r78 x = some y → y.2.2.1 = x.2.2.1) : ∀ (N : Nat) (v3 v4 : Int32) (a b c d e f g i k : Ob), lp_X8_orders_89 nc ns o4 pl r78 N (v3, v4, a, b, c, d, e, f, g, i, k) = some y → y.2.2.1 = b := by
  intro N
  induction N with
  | zero => intro v3 v4 a b c d e f g i k h; cases h
  | succ N ih =>
    intro v3 v4 a b c d e f g i k h
    have h : lb_X8_orders_89 nc ns o4 pl r78 (lp_X8_orders_89 nc ns o4 pl r78 N) v3 v4 a b c d e f g i k = some y := h
    unfold lb_X8_orders_89 at h
    obtain ⟨-, h⟩ := z_gd h
    by_cases q : gA c 1 v3.toNatClampNeg ≤ v4
    · obtain ⟨x10, -, h⟩ := z_lt (z_t h q)
      exact hrec _ h
    · obtain ⟨z11, -, h⟩ := z_bd (z_f h q)
      by_cases q2 : z11.1 = 0
      · obtain ⟨o13, -, h⟩ := z_lt (z_t h q2)
        obtain ⟨z14, -, h⟩ := z_bd h
        obtain ⟨z15, -, h⟩ := z_bd h
        obtain ⟨z16, -, h⟩ := z_bd h
        rw [← Option.some.inj h]
      · obtain ⟨x12, -, h⟩ := z_lt (z_f h q2)
        exact ih _ _ _ _ _ _ _ _ _ _ _ h
theorem l78_2 {nc ns : Nat} {o4 : Ob} {pl : List CR} {y : Int32 × Ob × Ob × Ob × Ob × Ob × Ob × Ob × Ob × Ob} : ∀ (N : Nat) (x : Int32 × Ob × Ob × Ob × Ob × Ob × Ob × Ob × Ob × Ob), lp_X8_orders_78 nc ns o4 pl N x = some y → y.2.2.1 = x.2.2.1 := by
  intro N
  induction N with
  | zero => intro x h; cases h
  | succ N ih =>
    intro x h
    obtain ⟨v3, a, b, c, d, e, f, g, i, k⟩ := x
    have h : lb_X8_orders_78 nc ns o4 pl (lp_X8_orders_78 nc ns o4 pl N) v3 a b c d e f g i k = some y := h
    unfold lb_X8_orders_78 at h
    by_cases q : gI c 7 ≤ v3
    · obtain ⟨z8, -, h⟩ := z_bd (z_t h q)
      rw [← Option.some.inj h]
    · exact l89_2 (fun x q => ih x q) _ _ _ _ _ _ _ _ _ _ _ _ (z_f h q)
theorem orders8_2 {nc ns : Nat} {a b c d e f g i k l : Ob} {pl : List CR} {y : Int32 × Ob × Ob × Ob × Ob × Ob × Ob × Ob × Ob × Ob} (h : f_X8_orders nc ns a b c d e f g i k l pl = some y) : gI y.2.2.1 2 = 0 := by
  unfold f_X8_orders at h
  obtain ⟨o1, -, h⟩ := z_lt h
  obtain ⟨z2, -, h⟩ := z_bd h
  obtain ⟨o3, e3, h⟩ := z_lt h
  have k3 : gI o3 2 = 0 := by rw [e3]; rfl
  by_cases q : z2.1 = 0
  · obtain ⟨z17, -, h⟩ := z_bd (z_t h q)
    rw [← Option.some.inj h]; exact k3
  · obtain ⟨z4, -, h⟩ := z_bd (z_f h q)
    obtain ⟨z5, -, h⟩ := z_bd h
    obtain ⟨o6, -, h⟩ := z_lt h
    obtain ⟨o7, -, h⟩ := z_lt h
    have w := l78_2 _ _ h
    rw [w]; exact k3
-- an isles' copy
theorem cpy0 {f g : Nat → Int32} {m : Int32} {n j : Nat} (hm : m.toNatClampNeg = n) (hj : j < n) : va_cpy f g (0 : Int32).toNatClampNeg (0 : Int32).toNatClampNeg m.toNatClampNeg j = f j := by
  unfold va_cpy
  have n0 : (0 : Int32).toNatClampNeg = 0 := by decide
  rw [n0, hm]
  split
  · have e : 0 + (j - 0) = j := by omega
    rw [e]
  · rename_i q
    exact absurd (by omega) q
theorem setO_l {pl : List CR} {a0 a0n : Ob} {y : Ob × Ob} : ∀ (N : Nat) (v2 : Int32) (o on : Ob), lp_X2_set_O_88 pl a0 a0n N (v2, o, on) = some y → gI y.1 7 = gI a0 7 ∧ gI y.1 8 = gI a0 8 ∧ gA y.1 1 = gA o 1 ∧ gA y.1 2 = gA o 2 ∧ gA y.1 3 = gA o 3 := by
  intro N
  induction N with
  | zero => intro v2 o on h; cases h
  | succ N ih =>
    intro v2 o on h
    have h : lb_X2_set_O_88 pl a0 a0n (lp_X2_set_O_88 pl a0 a0n N) v2 o on = some y := h
    unfold lb_X2_set_O_88 at h
    by_cases c : (6 : Int32) ≤ v2
    · obtain ⟨o12, e12, h⟩ := z_lt (z_t h c)
      obtain ⟨o13, e13, h⟩ := z_lt h
      obtain ⟨o14, e14, h⟩ := z_lt h
      obtain ⟨o15, e15, h⟩ := z_lt h
      obtain ⟨o16, e16, h⟩ := z_lt h
      obtain ⟨o17, e17, h⟩ := z_lt h
      rw [← Option.some.inj h, e17, e16, e15, e14, e13, e12]
      exact ⟨rfl, rfl, rfl, rfl, rfl⟩
    · obtain ⟨-, h⟩ := z_gd (z_f h c)
      obtain ⟨-, h⟩ := z_gd h
      obtain ⟨-, h⟩ := z_gd h
      obtain ⟨o21, e21, h⟩ := z_lt h
      obtain ⟨x22, -, h⟩ := z_lt h
      have w := ih _ _ _ h
      rw [e21] at w
      exact w
theorem setO_i {pl : List CR} {o on a0 a0n : Ob} {y : Ob × Ob} (h : f_X2_set_O o on pl a0 a0n = some y) : gI y.1 7 = gI a0 7 ∧ gI y.1 8 = gI a0 8 ∧ (∀ j, j < 7 → gA y.1 1 j = gA a0 1 j) ∧ (∀ j, j < 28 → gA y.1 2 j = gA a0 2 j) ∧ (∀ j, j < 7 → gA y.1 3 j = gA a0 3 j) := by
  unfold f_X2_set_O at h
  obtain ⟨z1, -, h⟩ := z_bd h
  obtain ⟨-, h⟩ := z_gd h
  obtain ⟨o3, e3, h⟩ := z_lt h
  obtain ⟨-, h⟩ := z_gd h
  obtain ⟨o5, e5, h⟩ := z_lt h
  obtain ⟨-, h⟩ := z_gd h
  obtain ⟨o7, e7, h⟩ := z_lt h
  obtain ⟨-, h⟩ := z_gd h
  obtain ⟨o9, e9, h⟩ := z_lt h
  obtain ⟨-, h⟩ := z_gd h
  obtain ⟨o11, e11, h⟩ := z_lt h
  obtain ⟨a, b, c, d, e⟩ := setO_l _ _ _ _ h
  have k1 : gA o11 1 = va_cpy (gA a0 1) (gA o 1) (0 : Int32).toNatClampNeg (0 : Int32).toNatClampNeg (7 : Int32).toNatClampNeg := by rw [e11, e9, e7, e5, e3]; rfl
  have k2 : gA o11 2 = va_cpy (gA a0 2) (gA o 2) (0 : Int32).toNatClampNeg (0 : Int32).toNatClampNeg (28 : Int32).toNatClampNeg := by rw [e11, e9, e7, e5, e3]; rfl
  have k3 : gA o11 3 = va_cpy (gA a0 3) (gA o 3) (0 : Int32).toNatClampNeg (0 : Int32).toNatClampNeg (7 : Int32).toNatClampNeg := by rw [e11, e9, e7, e5, e3]; rfl
  refine ⟨a, b, fun j hj => ?_, fun j hj => ?_, fun j hj => ?_⟩
  · rw [c, k1]; exact cpy0 (n := 7) (by decide) hj
  · rw [d, k2]; exact cpy0 (n := 28) (by decide) hj
  · rw [e, k3]; exact cpy0 (n := 7) (by decide) hj
-- images of the reference
theorem l9_img4 {y : Int32 × Ob} {v1 : Int32} {k : Nat} (e1 : v1.toInt = (k : Int)) (hk : k < 2) : ∀ (N : Nat) (v2 : Int32) (o : Ob) (n : Nat), v2.toInt = (n : Int) → n ≤ 5484 → lp_X9_image_23 N (v1, v2, o) = some y →
    (∀ i, n ≤ i → i < 5484 → gA y.2 4 (5484 * k + i) = gA o 3 i) ∧ (∀ j, j < 5484 * k + n ∨ 5484 * k + 5484 ≤ j → gA y.2 4 j = gA o 4 j) ∧ gA y.2 3 = gA o 3 ∧ (∀ j, gA y.2 5 j = if j = k then 1 else gA o 5 j) := by
  intro N
  induction N with
  | zero => intro v2 o n _ _ h; cases h
  | succ N ih =>
    intro v2 o n e2 hn h
    have h : lb_X9_image_23 (lp_X9_image_23 N) v1 v2 o = some y := h
    unfold lb_X9_image_23 at h
    by_cases c : (5484 : Int32) ≤ v2
    · have d := cv_le (a := 5484) (b := (n : Int)) (by decide) e2 c
      obtain ⟨-, h⟩ := z_gd (z_t h c)
      obtain ⟨o4, e4, h⟩ := z_lt h
      obtain ⟨z, ez, h⟩ := z_bd h
      have i1 : v1.toNatClampNeg = k := tnc_eq e1
      rw [i1] at e4
      obtain ⟨-, t3, t4, -, t5⟩ := tell_3 ez
      rw [← Option.some.inj h]
      refine ⟨fun i a b => by omega, fun j _ => ?_, ?_, fun j => ?_⟩
      · show gA z.2 4 j = _
        rw [t4, e4]; rfl
      · show gA z.2 3 = _
        rw [t3, e4]; rfl
      · show gA z.2 5 j = _
        rw [t5, e4]; rfl
    · have d := cv_nle (a := 5484) (b := (n : Int)) (by decide) e2 c
      obtain ⟨-, h⟩ := z_gd (z_f h c)
      obtain ⟨-, h⟩ := z_gd h
      obtain ⟨o8, e8, h⟩ := z_lt h
      obtain ⟨x9, e9, h⟩ := z_lt h
      have m1 : ((5484 : Int32) * v1).toInt = 5484 * (k : Int) := i32_mul (by decide) e1 (by omega) (by omega)
      have m2 : (((5484 : Int32) * v1) + v2).toInt = 5484 * (k : Int) + (n : Int) := i32_add m1 e2 (by omega) (by omega)
      have n1 : (((5484 : Int32) * v1) + v2).toNatClampNeg = 5484 * k + n := tnc_eq (by omega)
      have n2 : v2.toNatClampNeg = n := tnc_eq e2
      rw [n1, n2] at e8
      have t9 : x9.toInt = (n : Int) + 1 := by rw [e9]; exact i32_add e2 (by decide) (by omega) (by omega)
      obtain ⟨a, b, c3, c5⟩ := ih x9 o8 (n + 1) (by omega) (by omega) h
      have k3 : gA o8 3 = gA o 3 := by rw [e8]; rfl
      have k5 : gA o8 5 = gA o 5 := by rw [e8]; rfl
      have k4 : ∀ j, gA o8 4 j = if j = 5484 * k + n then gA o 3 n else gA o 4 j := by
        intro j
        rw [e8]; rfl
      refine ⟨fun i g1 g2 => ?_, fun j hj => ?_, c3.trans k3, fun j => by rw [c5 j, k5]⟩
      · by_cases q : i = n
        · rw [b _ (by omega), k4, if_pos (by omega), q]
        · rw [a i (by omega) g2, k3]
      · rw [b j (by omega), k4, if_neg (by omega)]
theorem image9 {o : Ob} {p : Int32} {y : Int32 × Ob} {k : Nat} (h : f_X9_image o p = some y) (ek : p.toInt = (k : Int)) (hk : k < 2) :
    (∀ i, i < 5484 → gA y.2 4 (5484 * k + i) = gA o 3 i) ∧ (∀ j, j < 5484 * k ∨ 5484 * k + 5484 ≤ j → gA y.2 4 j = gA o 4 j) ∧ gA y.2 3 = gA o 3 ∧ (∀ j, gA y.2 5 j = if j = k then 1 else gA o 5 j) := by
  unfold f_X9_image at h
  obtain ⟨o1, eo1, h⟩ := z_lt h
  obtain ⟨z2, ez2, h⟩ := z_bd h
  rcases in9 (m := 0) (n := 1) (by decide) (by decide) ez2 with ⟨a, b⟩ | ⟨a, b⟩
  · exact absurd ⟨by omega, by omega⟩ b
  · obtain ⟨c1, c2, c3, c5⟩ := l9_img4 ek hk _ _ _ 0 (by decide) (by decide) (z_f h a)
    have k3 : gA o1 3 = gA o 3 := by rw [eo1]; rfl
    have k4 : gA o1 4 = gA o 4 := by rw [eo1]; rfl
    have k5 : gA o1 5 = gA o 5 := by rw [eo1]; rfl
    rw [k3] at c1 c3
    rw [k4] at c2
    rw [k5] at c5
    exact ⟨fun i hi => c1 i (Nat.zero_le _) hi, fun j hj => c2 j (by omega), c3, c5⟩
theorem l9_bck3 {y : Int32 × Ob} {v1 : Int32} {k : Nat} (e1 : v1.toInt = (k : Int)) (hk : k < 2) : ∀ (N : Nat) (v2 : Int32) (o : Ob) (n : Nat), v2.toInt = (n : Int) → n ≤ 5484 → lp_X9_back_39 N (v1, v2, o) = some y →
    (∀ i, n ≤ i → i < 5484 → gA y.2 3 i = gA o 4 (5484 * k + i)) ∧ (∀ i, i < n → gA y.2 3 i = gA o 3 i) ∧ gA y.2 4 = gA o 4 ∧ gA y.2 5 = gA o 5 := by
  intro N
  induction N with
  | zero => intro v2 o n _ _ h; cases h
  | succ N ih =>
    intro v2 o n e2 hn h
    have h : lb_X9_back_39 (lp_X9_back_39 N) v1 v2 o = some y := h
    unfold lb_X9_back_39 at h
    by_cases c : (5484 : Int32) ≤ v2
    · have d := cv_le (a := 5484) (b := (n : Int)) (by decide) e2 c
      obtain ⟨z, ez, h⟩ := z_bd (z_t h c)
      obtain ⟨-, t3, t4, t5⟩ := settled_3 ez
      rw [← Option.some.inj h]
      exact ⟨fun i a b => by omega, fun i _ => congrFun t3 i, t4, t5⟩
    · have d := cv_nle (a := 5484) (b := (n : Int)) (by decide) e2 c
      obtain ⟨-, h⟩ := z_gd (z_f h c)
      obtain ⟨-, h⟩ := z_gd h
      obtain ⟨o7, e7, h⟩ := z_lt h
      obtain ⟨x8, e8, h⟩ := z_lt h
      have m1 : ((5484 : Int32) * v1).toInt = 5484 * (k : Int) := i32_mul (by decide) e1 (by omega) (by omega)
      have m2 : (((5484 : Int32) * v1) + v2).toInt = 5484 * (k : Int) + (n : Int) := i32_add m1 e2 (by omega) (by omega)
      have n1 : (((5484 : Int32) * v1) + v2).toNatClampNeg = 5484 * k + n := tnc_eq (by omega)
      have n2 : v2.toNatClampNeg = n := tnc_eq e2
      rw [n1, n2] at e7
      have t8 : x8.toInt = (n : Int) + 1 := by rw [e8]; exact i32_add e2 (by decide) (by omega) (by omega)
      obtain ⟨a, b, c4, c5⟩ := ih x8 o7 (n + 1) (by omega) (by omega) h
      have k4 : gA o7 4 = gA o 4 := by rw [e7]; rfl
      have k5 : gA o7 5 = gA o 5 := by rw [e7]; rfl
      refine ⟨fun i g1 g2 => ?_, fun i hi => ?_, c4.trans k4, c5.trans k5⟩
      · by_cases q : i = n
        · rw [b i (by omega), e7, t3_at, if_pos q, q]
        · rw [a i (by omega) g2, k4]
      · rw [b i (by omega), e7, t3_at, if_neg (by omega)]
theorem back9 {o : Ob} {p : Int32} {y : Int32 × Ob} {k : Nat} (h : f_X9_back o p = some y) (ek : p.toInt = (k : Int)) (hk : k < 2) (hb : ¬ gA o 5 k = 0) : (∀ i, i < 5484 → gA y.2 3 i = gA o 4 (5484 * k + i)) ∧ gA y.2 4 = gA o 4 ∧ gA y.2 5 = gA o 5 := by
  unfold f_X9_back at h
  obtain ⟨o1, eo1, h⟩ := z_lt h
  obtain ⟨z2, ez2, h⟩ := z_bd h
  have k4 : gA o1 4 = gA o 4 := by rw [eo1]; rfl
  have k5 : gA o1 5 = gA o 5 := by rw [eo1]; rfl
  have ik : p.toNatClampNeg = k := tnc_eq ek
  rcases in9 (m := 0) (n := 1) (by decide) (by decide) ez2 with ⟨a, b⟩ | ⟨a, b⟩
  · exact absurd ⟨by omega, by omega⟩ b
  · obtain ⟨-, h⟩ := z_gd (z_f h a)
    obtain ⟨c1, c2, c4, c5⟩ := l9_bck3 ek hk _ _ _ 0 (by decide) (by decide) (z_f h (by rw [k5, ik]; exact hb))
    rw [k4] at c1 c4
    exact ⟨fun i hi => c1 i (Nat.zero_le _) hi, c4, c5.trans k5⟩
theorem strength9 {o : Ob} {p0 p1 p2 : Int32} {y : Int32 × Ob} {n : Nat} (en : (gA o 3 0).toInt = (n : Int)) (hn : n ≤ 7) (h : f_X9_strength o p0 p1 p2 = some y) :
    (¬ ((0 ≤ p1.toInt ∧ p1.toInt < 4) ∧ 0 ≤ p2.toInt ∧ p2.toInt ≤ 9) ∧ y.1 = -1 ∧ gA y.2 3 = gA o 3) ∨
    (((0 ≤ p1.toInt ∧ p1.toInt < 4) ∧ 0 ≤ p2.toInt ∧ p2.toInt ≤ 9) ∧ ((¬ (0 ≤ p0.toInt ∧ p0.toInt < (n : Int)) ∧ y.1 = -2 ∧ gA y.2 3 = gA o 3) ∨
      ((0 ≤ p0.toInt ∧ p0.toInt < (n : Int)) ∧ y.1 = gA o 3 (36 + (4 * p0.toNatClampNeg + p1.toNatClampNeg)) ∧ ∀ j, gA y.2 3 j = if j = 36 + (4 * p0.toNatClampNeg + p1.toNatClampNeg) then p2 else gA o 3 j))) := by
  unfold f_X9_strength at h
  obtain ⟨o1, eo1, h⟩ := z_lt h
  have g1 : gA o1 3 = gA o 3 := by rw [eo1]; rfl
  have h24 : bk_X9_strength_24 o1 = some y → y.1 = -1 ∧ gA y.2 3 = gA o 3 := by
    intro h
    unfold bk_X9_strength_24 at h
    obtain ⟨z, ez, h⟩ := z_bd h
    rw [← Option.some.inj h, ← g1]; exact ⟨(tell_3 ez).1, (tell_3 ez).2.1⟩
  obtain ⟨z2, ez2, h⟩ := z_bd h
  rcases isR9 ez2 with ⟨a, b⟩ | ⟨a, b⟩
  · exact Or.inl ⟨fun q => b q.1, h24 (z_t h a)⟩
  · obtain ⟨z4, ez4, h⟩ := z_bd (z_f h a)
    rcases in9 (m := 0) (n := 9) (by decide) (by decide) ez4 with ⟨c, d⟩ | ⟨c, d⟩
    · exact Or.inl ⟨fun q => d q.2, h24 (z_t h c)⟩
    · refine Or.inr ⟨⟨b, d⟩, ?_⟩
      obtain ⟨z5, ez5, h⟩ := z_bd (z_f h c)
      rcases isP9 ez5 (by rw [g1]; omega) with ⟨e, f⟩ | ⟨e, f⟩
      · rw [g1, en] at f
        obtain ⟨z, ez, h⟩ := z_bd (z_t h e)
        refine Or.inl ⟨f, ?_⟩
        rw [← Option.some.inj h, ← g1]; exact ⟨(tell_3 ez).1, (tell_3 ez).2.1⟩
      · rw [g1, en] at f
        obtain ⟨z7, ez7, h⟩ := z_bd (z_f h e)
        refine Or.inr ⟨f, ?_⟩
        have ec : p0.toNatClampNeg = p0.toInt.toNat := rfl
        have ed : p1.toNatClampNeg = p1.toInt.toNat := rfl
        have m1 : ((4 : Int32) * p0).toInt = 4 * p0.toInt := i32_mul (by decide) rfl (by omega) (by omega)
        have m2 : ((36 : Int32) + ((4 : Int32) * p0)).toInt = 36 + 4 * p0.toInt := i32_add (by decide) m1 (by omega) (by omega)
        have m3 : (((36 : Int32) + ((4 : Int32) * p0)) + p1).toInt = 36 + 4 * p0.toInt + p1.toInt := i32_add m2 rfl (by omega) (by omega)
        have i3 : (((36 : Int32) + ((4 : Int32) * p0)) + p1).toNatClampNeg = 36 + (4 * p0.toNatClampNeg + p1.toNatClampNeg) := tnc_eq (by rw [m3, ec, ed]; omega)
        unfold f_X9_change at ez7
        obtain ⟨-, ez7⟩ := z_gd ez7
        obtain ⟨x2, e2, ez7⟩ := z_lt ez7
        obtain ⟨-, ez7⟩ := z_gd ez7
        obtain ⟨o4, e4, ez7⟩ := z_lt ez7
        obtain ⟨o5, e5, ez7⟩ := z_lt ez7
        rw [i3] at e2 e4
        have ez7 := Option.some.inj ez7
        rw [← Option.some.inj h, ← ez7]
        refine ⟨by rw [e2, g1], fun j => ?_⟩
        show gA o5 3 j = _
        rw [e5]; show gA o4 3 j = _
        rw [e4, t3_at, g1]
theorem strength8 {o0 o4 : Ob} {p0 p1 p2 : Int32} {y : Int32 × Ob × Ob} {n : Nat} (en : (gI o4 7).toInt = (n : Int)) (hn : n ≤ 7) (h : f_X8_strength o0 o4 p0 p1 p2 = some y) :
    (¬ ((0 ≤ p1.toInt ∧ p1.toInt < 4) ∧ 0 ≤ p2.toInt ∧ p2.toInt ≤ 9) ∧ y.1 = -1 ∧ y.2.2 = o4) ∨
    (((0 ≤ p1.toInt ∧ p1.toInt < 4) ∧ 0 ≤ p2.toInt ∧ p2.toInt ≤ 9) ∧ ((¬ (0 ≤ p0.toInt ∧ p0.toInt < (n : Int)) ∧ y.1 = -2 ∧ y.2.2 = o4) ∨
      ((0 ≤ p0.toInt ∧ p0.toInt < (n : Int)) ∧ y.1 = gA o4 2 (4 * p0.toNatClampNeg + p1.toNatClampNeg) ∧ y.2.2 = tA o4 2 (4 * p0.toNatClampNeg + p1.toNatClampNeg) p2))) := by
  unfold f_X8_strength at h
  have h17 : bk_X8_strength_17 o0 o4 = some y → y.1 = -1 ∧ y.2.2 = o4 := by
    intro h
    unfold bk_X8_strength_17 at h
    obtain ⟨z, ez, h⟩ := z_bd h
    rw [← Option.some.inj h]; exact ⟨refuse_ret ez, rfl⟩
  obtain ⟨z1, ez1, h⟩ := z_bd h
  rcases isR8 ez1 with ⟨a, b⟩ | ⟨a, b⟩
  · exact Or.inl ⟨fun q => b q.1, h17 (z_t h a)⟩
  · have h := z_f h a
    by_cases c1 : p2 < (0 : Int32)
    · have d := cv_lt (a := p2.toInt) (b := 0) rfl (by decide) c1
      exact Or.inl ⟨fun q => by omega, h17 (z_t h c1)⟩
    · have h := z_f h c1
      have d := cv_nlt (a := p2.toInt) (b := 0) rfl (by decide) c1
      by_cases c2 : p2 ≤ (9 : Int32)
      · have d2 := cv_le (a := p2.toInt) (b := 9) rfl (by decide) c2
        refine Or.inr ⟨⟨b, d, d2⟩, ?_⟩
        obtain ⟨z3, ez3, h⟩ := z_bd (z_t h c2)
        rcases isP2 ez3 with ⟨e, f⟩ | ⟨e, f⟩
        · rw [en] at f
          obtain ⟨z10, ez10, h⟩ := z_bd (z_t h e)
          refine Or.inl ⟨f, ?_⟩
          rw [← Option.some.inj h]; exact ⟨refuse_ret ez10, rfl⟩
        · rw [en] at f
          obtain ⟨x4, e4, h⟩ := z_lt (z_f h e)
          obtain ⟨-, h⟩ := z_gd h
          obtain ⟨x6, e6, h⟩ := z_lt h
          obtain ⟨-, h⟩ := z_gd h
          obtain ⟨o8, e8, h⟩ := z_lt h
          obtain ⟨z9, ez9, h⟩ := z_bd h
          have ec : p0.toNatClampNeg = p0.toInt.toNat := rfl
          have ed : p1.toNatClampNeg = p1.toInt.toNat := rfl
          have m1 : (p0 * (4 : Int32)).toInt = p0.toInt * 4 := i32_mul rfl (by decide) (by omega) (by omega)
          have m2 : ((p0 * (4 : Int32)) + p1).toInt = p0.toInt * 4 + p1.toInt := i32_add m1 rfl (by omega) (by omega)
          have i4 : x4.toNatClampNeg = 4 * p0.toNatClampNeg + p1.toNatClampNeg := by
            rw [e4]; exact tnc_eq (by rw [m2, ec, ed]; omega)
          rw [i4] at e6 e8
          refine Or.inr ⟨f, ?_, ?_⟩
          · rw [← Option.some.inj h]; show z9.1 = _
            rw [grant_ret ez9]; exact e6
          · rw [← Option.some.inj h]; exact e8
      · have d2 := cv_nle (a := p2.toInt) (b := 9) rfl (by decide) c2
        exact Or.inl ⟨fun q => by omega, h17 (z_f h c2)⟩
-- rows on the tape
theorem byte8 {o : Ob} {p z : Int32} {k : Nat} (ek : p.toInt = (k : Int)) (hs : 0 ≤ (gI o 2).toInt ∧ (gI o 2).toInt ≤ 400) (h : f_X6_byteAt o p = some z) : ((k : Int) < (gI o 2).toInt ∧ z = gA o 0 k) ∨ ((gI o 2).toInt ≤ (k : Int) ∧ z = -1) := by
  unfold f_X6_byteAt at h
  have h := z_f h (fun q => by have q := cv_lt (a := (k : Int)) (b := 0) ek (by decide) q; omega)
  by_cases c : gI o 2 ≤ p
  · have d := cv_le (a := (gI o 2).toInt) (b := (k : Int)) rfl ek c
    exact Or.inr ⟨d, (Option.some.inj (z_t h c)).symm⟩
  · have d := cv_nle (a := (gI o 2).toInt) (b := (k : Int)) rfl ek c
    have h := z_f (z_f h c) (fun q => by have q := cv_le (a := 400) (b := (k : Int)) (by decide) ek q; omega)
    obtain ⟨-, h⟩ := z_gd h
    have ik : p.toNatClampNeg = k := tnc_eq ek
    rw [ik] at h
    exact Or.inl ⟨d, (Option.some.inj h).symm⟩
def BG (t : Nat → Int32) (sz : Int) (k i : Nat) : Prop := ((k + 1 + i : Nat) : Int) < sz ∧ 0 ≤ (t (k + 1 + i)).toInt ∧ (t (k + 1 + i)).toInt ≤ 9
theorem l24_8 {o0 o1 is : Ob} {v1 v2 : Int32} {k : Nat} {z : Int32 × Ob} (ek : v1.toInt = (k : Int)) (hk : k ≤ 400) (hs : 0 ≤ (gI o1 2).toInt ∧ (gI o1 2).toInt ≤ 400) : ∀ (N : Nat) (v3 : Int32) (r : Nat), v3.toInt = (r : Int) → r ≤ 4 → lp_X8_tellRow_24 o0 o1 N (v1, v2, v3, is) = some z →
    (z.1 = 0 ∧ z.2 = is ∧ ∃ i, r ≤ i ∧ i < 4 ∧ ¬ BG (gA o1 0) (gI o1 2).toInt k i) ∨ ((∀ i, r ≤ i → i < 4 → BG (gA o1 0) (gI o1 2).toInt k i) ∧ lp_X8_tellRow_65 o0 o1 zfu (v1, v2, 0, is) = some z) := by
  intro N
  induction N with
  | zero => intro v3 r _ _ h; cases h
  | succ N ih =>
    intro v3 r er hr h
    have h : lb_X8_tellRow_24 o0 o1 (lp_X8_tellRow_24 o0 o1 N) v1 v2 v3 is = some z := h
    unfold lb_X8_tellRow_24 at h
    by_cases c : (4 : Int32) ≤ v3
    · have d := cv_le (a := 4) (b := (r : Int)) (by decide) er c
      exact Or.inr ⟨fun i a b => by omega, z_t h c⟩
    · have d := cv_nle (a := 4) (b := (r : Int)) (by decide) er c
      obtain ⟨z7, ez7, h⟩ := z_bd (z_f h c)
      have m1 : (v1 + (1 : Int32)).toInt = (k : Int) + 1 := i32_add ek (by decide) (by omega) (by omega)
      have m2 : ((v1 + (1 : Int32)) + v3).toInt = ((k + 1 + r : Nat) : Int) := by
        have := i32_add m1 er (by omega) (by omega)
        omega
      by_cases c1 : z7 < (0 : Int32)
      · have d1 := cv_lt (a := z7.toInt) (b := 0) rfl (by decide) c1
        have h := Option.some.inj (z_t h c1)
        refine Or.inl ⟨by rw [← h], by rw [← h], r, Nat.le_refl _, by omega, fun q => ?_⟩
        rcases byte8 m2 hs ez7 with ⟨a, b⟩ | ⟨a, b⟩
        · rw [b] at d1
          have := q.2.1
          omega
        · have := q.1
          omega
      · have h := z_f h c1
        have d1 := cv_nlt (a := z7.toInt) (b := 0) rfl (by decide) c1
        by_cases c2 : z7 ≤ (9 : Int32)
        · have d2 := cv_le (a := z7.toInt) (b := 9) rfl (by decide) c2
          obtain ⟨x8, e8, h⟩ := z_lt (z_t h c2)
          have t8 : x8.toInt = (r : Int) + 1 := by rw [e8]; exact i32_add er (by decide) (by omega) (by omega)
          have hb : BG (gA o1 0) (gI o1 2).toInt k r := by
            rcases byte8 m2 hs ez7 with ⟨a, b⟩ | ⟨a, b⟩
            · rw [b] at d1 d2
              exact ⟨a, d1, d2⟩
            · rw [b] at d1
              exact absurd d1 (by decide)
          rcases ih x8 (r + 1) (by omega) (by omega) h with ⟨a, b, i, q1, q2, q3⟩ | ⟨a, b⟩
          · exact Or.inl ⟨a, b, i, by omega, q2, q3⟩
          · refine Or.inr ⟨fun i q1 q2 => ?_, b⟩
            by_cases q : i = r
            · rw [q]; exact hb
            · exact a i (by omega) q2
        · have d2 := cv_nle (a := z7.toInt) (b := 9) rfl (by decide) c2
          have h := Option.some.inj (z_f h c2)
          refine Or.inl ⟨by rw [← h], by rw [← h], r, Nat.le_refl _, by omega, fun q => ?_⟩
          rcases byte8 m2 hs ez7 with ⟨a, b⟩ | ⟨a, b⟩
          · rw [b] at d2
            have := q.2.2
            omega
          · have := q.1
            omega
theorem l65_8 {o0 o1 : Ob} {v1 v2 : Int32} {k a : Nat} {z : Int32 × Ob} (ek : v1.toInt = (k : Int)) (hk : k ≤ 400) (ea : v2.toInt = (a : Int)) (ha : a < 7) (hs : 0 ≤ (gI o1 2).toInt ∧ (gI o1 2).toInt ≤ 400) (hB : ∀ i, i < 4 → BG (gA o1 0) (gI o1 2).toInt k i) : ∀ (N : Nat) (v3 : Int32) (r : Nat) (is : Ob), v3.toInt = (r : Int) → r ≤ 4 → lp_X8_tellRow_65 o0 o1 N (v1, v2, v3, is) = some z →
    z.1 = 1 ∧ gI z.2 7 = gI is 7 ∧ gI z.2 8 = gI is 8 ∧ gA z.2 1 = gA is 1 ∧ gA z.2 3 = gA is 3 ∧ ∀ j, gA z.2 2 j = if 4 * a + r ≤ j ∧ j < 4 * a + 4 then gA o1 0 (k + 1 + (j - 4 * a)) else gA is 2 j := by
  intro N
  induction N with
  | zero => intro v3 r is _ _ h; cases h
  | succ N ih =>
    intro v3 r is er hr h
    have h : lb_X8_tellRow_65 o0 o1 (lp_X8_tellRow_65 o0 o1 N) v1 v2 v3 is = some z := h
    unfold lb_X8_tellRow_65 at h
    by_cases c : (4 : Int32) ≤ v3
    · have d := cv_le (a := 4) (b := (r : Int)) (by decide) er c
      have h := Option.some.inj (z_t h c)
      rw [← h]
      exact ⟨rfl, rfl, rfl, rfl, rfl, fun j => by rw [if_neg (by omega)]⟩
    · have d := cv_nle (a := 4) (b := (r : Int)) (by decide) er c
      obtain ⟨z3, ez3, h⟩ := z_bd (z_f h c)
      obtain ⟨-, h⟩ := z_gd h
      obtain ⟨o5, e5, h⟩ := z_lt h
      obtain ⟨x6, e6, h⟩ := z_lt h
      have m1 : (v1 + (1 : Int32)).toInt = (k : Int) + 1 := i32_add ek (by decide) (by omega) (by omega)
      have m2 : ((v1 + (1 : Int32)) + v3).toInt = ((k + 1 + r : Nat) : Int) := by
        have := i32_add m1 er (by omega) (by omega)
        omega
      have ez : z3 = gA o1 0 (k + 1 + r) := by
        rcases byte8 m2 hs ez3 with ⟨a, b⟩ | ⟨a, b⟩
        · exact b
        · have := (hB r (by omega)).1
          omega
      have m3 : (v2 * (4 : Int32)).toInt = (a : Int) * 4 := i32_mul ea (by decide) (by omega) (by omega)
      have m4 : ((v2 * (4 : Int32)) + v3).toInt = (a : Int) * 4 + (r : Int) := i32_add m3 er (by omega) (by omega)
      have i4 : ((v2 * (4 : Int32)) + v3).toNatClampNeg = 4 * a + r := tnc_eq (by omega)
      rw [i4, ez] at e5
      have t6 : x6.toInt = (r : Int) + 1 := by rw [e6]; exact i32_add er (by decide) (by omega) (by omega)
      obtain ⟨b1, b2, b3, b4, b5, b6⟩ := ih x6 (r + 1) o5 (by omega) (by omega) h
      have k2 : ∀ j, gA o5 2 j = if j = 4 * a + r then gA o1 0 (k + 1 + r) else gA is 2 j := fun j => by rw [e5]; rfl
      refine ⟨b1, by rw [b2, e5]; rfl, by rw [b3, e5]; rfl, by rw [b4, e5]; rfl, by rw [b5, e5]; rfl, fun j => ?_⟩
      rw [b6 j, k2 j]
      by_cases q : 4 * a + (r + 1) ≤ j ∧ j < 4 * a + 4
      · rw [if_pos q, if_pos ⟨by omega, by omega⟩]
      · rw [if_neg q]
        by_cases q2 : j = 4 * a + r
        · have e : j - 4 * a = r := by omega
          rw [if_pos q2, if_pos ⟨by omega, by omega⟩, e]
        · rw [if_neg q2, if_neg (by omega)]
theorem tellRow8 {o0 o1 is : Ob} {p : Int32} {k : Nat} {z : Int32 × Ob} (ek : p.toInt = (k : Int)) (hk : (k : Int) < (gI o1 2).toInt) (hs : 0 ≤ (gI o1 2).toInt ∧ (gI o1 2).toInt ≤ 400) (hp : 0 ≤ (gI is 7).toInt ∧ (gI is 7).toInt ≤ 7) (h : f_X8_tellRow o0 o1 is p = some z) :
    (z.1 = 0 ∧ z.2 = is ∧ ¬ ((0 ≤ (gA o1 0 k).toInt ∧ (gA o1 0 k).toInt < (gI is 7).toInt) ∧ ∀ i, i < 4 → BG (gA o1 0) (gI o1 2).toInt k i)) ∨
    (¬ z.1 = 0 ∧ ((0 ≤ (gA o1 0 k).toInt ∧ (gA o1 0 k).toInt < (gI is 7).toInt) ∧ ∀ i, i < 4 → BG (gA o1 0) (gI o1 2).toInt k i) ∧ gI z.2 7 = gI is 7 ∧ gI z.2 8 = gI is 8 ∧ gA z.2 1 = gA is 1 ∧ gA z.2 3 = gA is 3 ∧ ∀ j, gA z.2 2 j = if 4 * (gA o1 0 k).toNatClampNeg ≤ j ∧ j < 4 * (gA o1 0 k).toNatClampNeg + 4 then gA o1 0 (k + 1 + (j - 4 * (gA o1 0 k).toNatClampNeg)) else gA is 2 j) := by
  unfold f_X8_tellRow at h
  obtain ⟨z1, ez1, h⟩ := z_bd h
  obtain ⟨z2, ez2, h⟩ := z_bd h
  have e1 : z1 = gA o1 0 k := by
    rcases byte8 ek hs ez1 with ⟨a, b⟩ | ⟨a, b⟩
    · exact b
    · omega
  rw [e1] at ez2 h
  rcases isP2 ez2 with ⟨a, b⟩ | ⟨a, b⟩
  · have h := Option.some.inj (z_t h a)
    exact Or.inl ⟨by rw [← h], by rw [← h], fun q => b q.1⟩
  · have h := z_f h a
    rcases l24_8 ek (by omega) hs _ _ 0 (by decide) (by decide) h with ⟨c, d, i, q1, q2, q3⟩ | ⟨c, d⟩
    · exact Or.inl ⟨c, d, fun q => q3 (q.2 i q2)⟩
    · have hB : ∀ i, i < 4 → BG (gA o1 0) (gI o1 2).toInt k i := fun i hi => c i (Nat.zero_le _) hi
      have ec : (gA o1 0 k).toNatClampNeg = (gA o1 0 k).toInt.toNat := rfl
      obtain ⟨b1, b2, b3, b4, b5, b6⟩ := l65_8 (a := (gA o1 0 k).toNatClampNeg) ek (by omega) (by rw [ec]; omega) (by rw [ec]; omega) hs hB _ _ 0 is (by decide) (by decide) d
      exact Or.inr ⟨by rw [b1]; decide, ⟨b, hB⟩, b2, b3, b4, b5, b6⟩
theorem lt13_9 {o : Ob} {v1 : Int32} {k : Nat} {y : Int32} (ek : v1.toInt = (k : Int)) (hk : k ≤ 400) : ∀ (N : Nat) (v2 v3 : Int32) (r : Nat), v3.toInt = (r : Int) → r ≤ 4 → lp_X9_isTold_13 o N (v1, v2, v3) = some y →
    (y = 0 ∧ (v2 = 0 ∨ ∃ i, r ≤ i ∧ i < 4 ∧ ¬ (0 ≤ (gA o 12 (k + 1 + i)).toInt ∧ (gA o 12 (k + 1 + i)).toInt ≤ 9))) ∨ (¬ y = 0 ∧ ¬ v2 = 0 ∧ ∀ i, r ≤ i → i < 4 → 0 ≤ (gA o 12 (k + 1 + i)).toInt ∧ (gA o 12 (k + 1 + i)).toInt ≤ 9) := by
  intro N
  induction N with
  | zero => intro v2 v3 r _ _ h; cases h
  | succ N ih =>
    intro v2 v3 r er hr h
    have h : lb_X9_isTold_13 o (lp_X9_isTold_13 o N) v1 v2 v3 = some y := h
    unfold lb_X9_isTold_13 at h
    by_cases c : (4 : Int32) ≤ v3
    · have d := cv_le (a := 4) (b := (r : Int)) (by decide) er c
      obtain ⟨-, h⟩ := z_gd (z_t h c)
      have e := Option.some.inj h
      rw [← e]
      by_cases q : v2 = 0
      · exact Or.inl ⟨q, Or.inl q⟩
      · exact Or.inr ⟨q, q, fun i a b => by omega⟩
    · have d := cv_nle (a := 4) (b := (r : Int)) (by decide) er c
      have h := z_f h c
      have hst : ∀ s0 : Int32, bk_X9_isTold_48 o (lp_X9_isTold_13 o N) v1 v3 s0 = some y → (y = 0 ∧ (s0 = 0 ∨ ∃ i, r + 1 ≤ i ∧ i < 4 ∧ ¬ (0 ≤ (gA o 12 (k + 1 + i)).toInt ∧ (gA o 12 (k + 1 + i)).toInt ≤ 9))) ∨ (¬ y = 0 ∧ ¬ s0 = 0 ∧ ∀ i, r + 1 ≤ i → i < 4 → 0 ≤ (gA o 12 (k + 1 + i)).toInt ∧ (gA o 12 (k + 1 + i)).toInt ≤ 9) := by
        intro s0 h
        unfold bk_X9_isTold_48 at h
        obtain ⟨x4, e4, h⟩ := z_lt h
        have t4 : x4.toInt = (r : Int) + 1 := by rw [e4]; exact i32_add er (by decide) (by omega) (by omega)
        exact ih s0 x4 (r + 1) (by omega) (by omega) h
      have h47 : bk_X9_isTold_47 o (lp_X9_isTold_13 o N) v1 v3 = some y → y = 0 := by
        intro h
        unfold bk_X9_isTold_47 at h
        rcases hst 0 h with ⟨a, -⟩ | ⟨-, a, -⟩
        · exact a
        · exact absurd rfl a
      by_cases c0 : v2 = 0
      · exact Or.inl ⟨h47 (z_t h c0), Or.inl c0⟩
      · obtain ⟨-, h⟩ := z_gd (z_f h c0)
        obtain ⟨z6, ez6, h⟩ := z_bd h
        have m1 : (v1 + (1 : Int32)).toInt = (k : Int) + 1 := i32_add ek (by decide) (by omega) (by omega)
        have m2 : ((v1 + (1 : Int32)) + v3).toInt = (k : Int) + 1 + (r : Int) := i32_add m1 er (by omega) (by omega)
        have i2 : ((v1 + (1 : Int32)) + v3).toNatClampNeg = k + 1 + r := tnc_eq (by omega)
        rw [i2] at ez6
        rcases in9 (m := 0) (n := 9) (by decide) (by decide) ez6 with ⟨a, b⟩ | ⟨a, b⟩
        · exact Or.inl ⟨h47 (z_t h a), Or.inr ⟨r, Nat.le_refl _, by omega, b⟩⟩
        · rcases hst 1 (z_f h a) with ⟨e, f⟩ | ⟨e, -, f⟩
          · rcases f with f | ⟨i, q1, q2, q3⟩
            · exact absurd f (by decide)
            · exact Or.inl ⟨e, Or.inr ⟨i, by omega, q2, q3⟩⟩
          · refine Or.inr ⟨e, c0, fun i q1 q2 => ?_⟩
            by_cases q : i = r
            · rw [q]; exact b
            · exact f i (by omega) q2
theorem isTold9 {o : Ob} {p y : Int32} {k : Nat} (ek : p.toInt = (k : Int)) (hk : k ≤ 400) (hp : 0 ≤ (gA o 3 0).toInt ∧ (gA o 3 0).toInt ≤ 7) (h : f_X9_isTold o p = some y) :
    (y = 0 ∧ ¬ ((0 ≤ (gA o 12 k).toInt ∧ (gA o 12 k).toInt < (gA o 3 0).toInt) ∧ ∀ i, i < 4 → 0 ≤ (gA o 12 (k + 1 + i)).toInt ∧ (gA o 12 (k + 1 + i)).toInt ≤ 9)) ∨
    (¬ y = 0 ∧ (0 ≤ (gA o 12 k).toInt ∧ (gA o 12 k).toInt < (gA o 3 0).toInt) ∧ ∀ i, i < 4 → 0 ≤ (gA o 12 (k + 1 + i)).toInt ∧ (gA o 12 (k + 1 + i)).toInt ≤ 9) := by
  unfold f_X9_isTold at h
  obtain ⟨-, h⟩ := z_gd h
  obtain ⟨z2, ez2, h⟩ := z_bd h
  have ik : p.toNatClampNeg = k := tnc_eq ek
  rw [ik] at ez2
  rcases isP9 ez2 hp with ⟨a, b⟩ | ⟨a, b⟩ <;> rcases lt13_9 ek hk _ _ _ 0 (by decide) (by decide) h with ⟨c, d⟩ | ⟨c, d, e⟩
  · exact Or.inl ⟨c, fun q => b q.1⟩
  · exact absurd a d
  · rcases d with d | ⟨i, q1, q2, q3⟩
    · exact absurd d a
    · exact Or.inl ⟨c, fun q => q3 (q.2 i q2)⟩
  · exact Or.inr ⟨c, b, fun i hi => e i (Nat.zero_le _) hi⟩
theorem l58_9 {y : Int32 × Ob} {rec35 : Int32 × Int32 × Int32 × Ob → Option (Int32 × Ob)} {v1 v2 v3 : Int32} {k a : Nat} (ek : v3.toInt = (k : Int)) (hk : k ≤ 400) (ha : a < 7) : ∀ (N : Nat) (v4 : Int32) (r : Nat) (o : Ob), v4.toInt = (r : Int) → r ≤ 4 → (gA o 12 k).toInt = (a : Int) → lp_X9_row_58 rec35 N (v1, v2, v3, v4, o) = some y →
    ∃ o' : Ob, bk_X9_row_116 rec35 v1 (v2 + 1) v3 o' = some y ∧ gA o' 12 = gA o 12 ∧ gI o' 11 = gI o 11 ∧ ∀ j, gA o' 3 j = if 36 + 4 * a + r ≤ j ∧ j < 36 + 4 * a + 4 then gA o 12 (k + 1 + (j - (36 + 4 * a))) else gA o 3 j := by
  intro N
  induction N with
  | zero => intro v4 r o _ _ _ h; cases h
  | succ N ih =>
    intro v4 r o er hr et h
    have h : lb_X9_row_58 rec35 (lp_X9_row_58 rec35 N) v1 v2 v3 v4 o = some y := h
    unfold lb_X9_row_58 at h
    by_cases c : (4 : Int32) ≤ v4
    · have d := cv_le (a := 4) (b := (r : Int)) (by decide) er c
      obtain ⟨x9, e9, h⟩ := z_lt (z_t h c)
      rw [e9] at h
      exact ⟨o, h, rfl, rfl, fun j => by rw [if_neg (by omega)]⟩
    · have d := cv_nle (a := 4) (b := (r : Int)) (by decide) er c
      obtain ⟨-, h⟩ := z_gd (z_f h c)
      obtain ⟨-, h⟩ := z_gd h
      obtain ⟨-, h⟩ := z_gd h
      obtain ⟨o13, e13, h⟩ := z_lt h
      obtain ⟨x14, e14, h⟩ := z_lt h
      have ik : v3.toNatClampNeg = k := tnc_eq ek
      rw [ik] at e13
      have m1 : (v3 + (1 : Int32)).toInt = (k : Int) + 1 := i32_add ek (by decide) (by omega) (by omega)
      have m2 : ((v3 + (1 : Int32)) + v4).toInt = (k : Int) + 1 + (r : Int) := i32_add m1 er (by omega) (by omega)
      have i2 : ((v3 + (1 : Int32)) + v4).toNatClampNeg = k + 1 + r := tnc_eq (by omega)
      have m3 : ((4 : Int32) * gA o 12 k).toInt = 4 * (a : Int) := i32_mul (by decide) et (by omega) (by omega)
      have m4 : ((36 : Int32) + ((4 : Int32) * gA o 12 k)).toInt = 36 + 4 * (a : Int) := i32_add (by decide) m3 (by omega) (by omega)
      have m5 : (((36 : Int32) + ((4 : Int32) * gA o 12 k)) + v4).toInt = 36 + 4 * (a : Int) + (r : Int) := i32_add m4 er (by omega) (by omega)
      have i5 : (((36 : Int32) + ((4 : Int32) * gA o 12 k)) + v4).toNatClampNeg = 36 + 4 * a + r := tnc_eq (by omega)
      rw [i2, i5] at e13
      have t14 : x14.toInt = (r : Int) + 1 := by rw [e14]; exact i32_add er (by decide) (by omega) (by omega)
      have k12 : gA o13 12 = gA o 12 := by rw [e13]; rfl
      have k11 : gI o13 11 = gI o 11 := by rw [e13]; rfl
      have k3 : ∀ j, gA o13 3 j = if j = 36 + 4 * a + r then gA o 12 (k + 1 + r) else gA o 3 j := fun j => by rw [e13, t3_at]
      obtain ⟨o', b1, b2, b3, b4⟩ := ih x14 (r + 1) o13 (by omega) (by omega) (by rw [k12]; exact et) h
      refine ⟨o', b1, b2.trans k12, b3.trans k11, fun j => ?_⟩
      rw [b4 j, k12, k3 j]
      by_cases q : 36 + 4 * a + (r + 1) ≤ j ∧ j < 36 + 4 * a + 4
      · rw [if_pos q, if_pos ⟨by omega, by omega⟩]
      · rw [if_neg q]
        by_cases q2 : j = 36 + 4 * a + r
        · have e : j - (36 + 4 * a) = r := by omega
          rw [if_pos q2, if_pos ⟨by omega, by omega⟩, e]
        · rw [if_neg q2, if_neg (by omega)]
-- the tape's bytes
theorem bv_byte (n : Nat) (hn : n ≤ 24) (b : BitVec 32) : (b >>> n) &&& 255#32 = (b.sshiftRight n) &&& 255#32 := by
  have hz : ∀ i : Fin 32, ¬ i.1 < 8 → (255#32).getLsbD i.1 = false := by decide
  apply BitVec.eq_of_getLsbD_eq
  intro i hi
  rw [BitVec.getLsbD_and, BitVec.getLsbD_and]
  by_cases c : i < 8
  · have q : n + i < 32 := by omega
    have r : ¬ 32 ≤ i := by omega
    have e : (b >>> n).getLsbD i = (b.sshiftRight n).getLsbD i := by
      rw [BitVec.getLsbD_sshiftRight]
      simp [q, r]
    rw [e]
  · rw [hz ⟨i, hi⟩ c, Bool.and_false, Bool.and_false]
theorem byte_eq {x s : Int32} (hs : s = 24 ∨ s = 16 ∨ s = 8 ∨ s = 0) : ((x.toUInt32 >>> (s.toUInt32 &&& Int32.toUInt32 31)).toInt32) &&& (255 : Int32) = (x >>> (s &&& 31)) &&& (255 : Int32) := by
  rcases hs with h | h | h | h
  · subst h; exact Int32.toBitVec_inj.mp (bv_byte 24 (by decide) x.toBitVec)
  · subst h; exact Int32.toBitVec_inj.mp (bv_byte 16 (by decide) x.toBitVec)
  · subst h; exact Int32.toBitVec_inj.mp (bv_byte 8 (by decide) x.toBitVec)
  · subst h; exact Int32.toBitVec_inj.mp (bv_byte 0 (by decide) x.toBitVec)
theorem four1t {N : Nat} {v1 v2 : Int32} {o y : Ob} (h : lp_X9_four_3 (N + 1) (v1, v2, o) = some y) (c : ¬ v2 < (0 : Int32)) : ∃ o', lp_X9_four_3 N (v1, v2 + (-8), o') = some y ∧ gI o' 13 = gI o 13 + 1 ∧ gA o' 12 = upd (gA o 12) (gI o 13).toNatClampNeg ((v1 >>> (v2 &&& 31)) &&& (255 : Int32)) := by
  have h : lb_X9_four_3 (lp_X9_four_3 N) v1 v2 o = some y := h
  unfold lb_X9_four_3 at h
  obtain ⟨-, h⟩ := z_gd (z_f h c)
  obtain ⟨o2, e2, h⟩ := z_lt h
  obtain ⟨o3, e3, h⟩ := z_lt h
  obtain ⟨x4, e4, h⟩ := z_lt h
  refine ⟨o3, by rw [← e4]; exact h, ?_, ?_⟩
  · rw [e3, e2]; rfl
  · rw [e3, e2]; rfl
theorem addn1t {N : Nat} {v1 v2 : Int32} {o y : Ob} (h : lp_X6_addNumber_3 (N + 1) (v1, v2, o) = some y) (c : ¬ v2 < (0 : Int32)) {n : Int} (hn : (gI o 2).toInt = n) (h0 : 0 ≤ n) (h1 : n < 400) : ∃ o', lp_X6_addNumber_3 N (v1, v2 + (-8), o') = some y ∧ gI o' 2 = gI o 2 + 1 ∧ (gI o' 2).toInt = n + 1 ∧ gA o' 0 = upd (gA o 0) (gI o 2).toNatClampNeg (((v1.toUInt32 >>> (v2.toUInt32 &&& Int32.toUInt32 31)).toInt32) &&& (255 : Int32)) := by
  have h : lb_X6_addNumber_3 (lp_X6_addNumber_3 N) v1 v2 o = some y := h
  unfold lb_X6_addNumber_3 at h
  have c4 : ¬ (400 : Int32) ≤ gI o 2 := fun q => by have q := cv_le (a := 400) (b := n) (by decide) hn q; omega
  obtain ⟨-, h⟩ := z_gd (z_f (z_f h c) c4)
  obtain ⟨o3, e3, h⟩ := z_lt h
  obtain ⟨o4, e4, h⟩ := z_lt h
  unfold bk_X6_addNumber_43 at h
  obtain ⟨x1, ex, h⟩ := z_lt h
  have eg : gI o4 2 = gI o 2 + 1 := by rw [e4, e3]; rfl
  exact ⟨o4, by rw [← ex]; exact h, eg, by rw [eg]; exact i32_add hn (by decide) (by omega) (by omega), by rw [e4, e3]; rfl⟩
theorem num1 {N : Nat} {v1 v2 : Int32} {a b a' b' : Ob} {n : Int} (h1 : lp_X6_addNumber_3 (N + 1) (v1, v2, a) = some a') (h2 : lp_X9_four_3 (N + 1) (v1, v2, b) = some b') (c : ¬ v2 < (0 : Int32)) (hv : v2 = 24 ∨ v2 = 16 ∨ v2 = 8 ∨ v2 = 0) (hz : gI a 2 = gI b 13) (ht : gA a 0 = gA b 12) (hn : (gI a 2).toInt = n) (h0 : 0 ≤ n) (h3 : n < 400) : ∃ u w, lp_X6_addNumber_3 N (v1, v2 + (-8), u) = some a' ∧ lp_X9_four_3 N (v1, v2 + (-8), w) = some b' ∧ gI u 2 = gI w 13 ∧ gA u 0 = gA w 12 ∧ (gI u 2).toInt = n + 1 := by
  obtain ⟨u, r1, r2, r3, r4⟩ := addn1t h1 c hn h0 h3
  obtain ⟨w, s1, s2, s3⟩ := four1t h2 c
  exact ⟨u, w, r1, s1, by rw [r2, s2, hz], by rw [r4, s3, hz, ht, byte_eq hv], r3⟩
theorem num_eq {a b a' b' : Ob} {p : Int32} {n : Int} (h1 : f_X6_addNumber a p = some a') (h2 : f_X9_four b p = some b') (hz : gI a 2 = gI b 13) (ht : gA a 0 = gA b 12) (hn : (gI a 2).toInt = n) (h0 : 0 ≤ n) (h3 : n ≤ 396) : gI a' 2 = gI b' 13 ∧ gA a' 0 = gA b' 12 ∧ (gI a' 2).toInt = n + 4 := by
  have h1 : lp_X6_addNumber_3 (99995 + 1 + 1 + 1 + 1 + 1) (p, 24, a) = some a' := h1
  have h2 : lp_X9_four_3 (99995 + 1 + 1 + 1 + 1 + 1) (p, 24, b) = some b' := h2
  obtain ⟨u1, w1, h1, h2, z1, t1, n1⟩ := num1 h1 h2 (by decide) (by decide) hz ht hn h0 (by omega)
  obtain ⟨u2, w2, h1, h2, z2, t2, n2⟩ := num1 h1 h2 (by decide) (by decide) z1 t1 n1 (by omega) (by omega)
  obtain ⟨u3, w3, h1, h2, z3, t3, n3⟩ := num1 h1 h2 (by decide) (by decide) z2 t2 n2 (by omega) (by omega)
  obtain ⟨u4, w4, h1, h2, z4, t4, n4⟩ := num1 h1 h2 (by decide) (by decide) z3 t3 n3 (by omega) (by omega)
  have e5 := addn0 h1 (by decide)
  have f5 := four0 h2 (by decide)
  rw [← e5, ← f5]
  exact ⟨z4, t4, by omega⟩
theorem feed_tb {o0 o1 o9 : Ob} {p0 p1 p2 p3 p4 : Int32} {y1 y2 : Int32 × Ob} (ht : gI o1 2 = gI o9 13) (htp : gA o1 0 = gA o9 12) (hr : 0 ≤ (gI o1 2).toInt ∧ (gI o1 2).toInt ≤ 400) (h1 : f_X8_feed o0 o1 p0 p1 p2 p3 p4 = some y1) (h2 : f_X9_feed o9 p0 p1 p2 p3 p4 = some y2) : gA y1.2 0 = gA y2.2 12 := by
  unfold f_X8_feed at h1
  obtain ⟨z1, ez1, h1⟩ := z_bd h1
  unfold f_X6_hasRoom at ez1
  unfold f_X9_feed at h2
  obtain ⟨a1, ea1, h2⟩ := z_lt h2
  have eg : gI a1 13 = gI o9 13 := by rw [ea1]; rfl
  have et : gA a1 12 = gA o9 12 := by rw [ea1]; rfl
  have es : (gI o1 2 + (20 : Int32)).toInt = (gI o1 2).toInt + 20 := i32_add rfl (by decide) (by omega) (by omega)
  rw [eg, ← ht] at h2
  by_cases c : (400 : Int32) < gI o1 2 + 20
  · have ez := Option.some.inj (z_t ez1 c)
    have h1 := z_t h1 ez.symm
    have c := cv_lt (a := 400) (b := (gI o1 2).toInt + 20) (by decide) es c
    have c' : ¬ gI o1 2 + (20 : Int32) ≤ 400 := fun q => by have q := cv_le (a := (gI o1 2).toInt + 20) (b := 400) es (by decide) q; omega
    have h2 := z_f h2 c'
    rw [← Option.some.inj h1, ← Option.some.inj h2]
    show gA o1 0 = gA a1 12
    rw [et]; exact htp
  · have ez := Option.some.inj (z_f ez1 c)
    have h1 := z_f h1 (by rw [← ez]; decide)
    have c := cv_nlt (a := 400) (b := (gI o1 2).toInt + 20) (by decide) es c
    have c' : gI o1 2 + (20 : Int32) ≤ 400 := Int32.le_iff_toInt_le.mpr (by have e : (400 : Int32).toInt = 400 := (by decide); omega)
    have h2 := z_t h2 c'
    obtain ⟨b1, f1, h1⟩ := z_bd h1
    obtain ⟨b2, f2, h1⟩ := z_bd h1
    obtain ⟨b3, f3, h1⟩ := z_bd h1
    obtain ⟨b4, f4, h1⟩ := z_bd h1
    obtain ⟨b5, f5, h1⟩ := z_bd h1
    obtain ⟨d1, g1, h2⟩ := z_bd h2
    obtain ⟨d2, g2, h2⟩ := z_bd h2
    obtain ⟨d3, g3, h2⟩ := z_bd h2
    obtain ⟨d4, g4, h2⟩ := z_bd h2
    obtain ⟨d5, g5, h2⟩ := z_bd h2
    obtain ⟨q1, t1, r1⟩ := num_eq f1 g1 (by rw [eg]; exact ht) (by rw [et]; exact htp) rfl hr.1 (by omega)
    obtain ⟨q2, t2, r2⟩ := num_eq f2 g2 q1 t1 r1 (by omega) (by omega)
    obtain ⟨q3, t3, r3⟩ := num_eq f3 g3 q2 t2 r2 (by omega) (by omega)
    obtain ⟨q4, t4, r4⟩ := num_eq f4 g4 q3 t3 r3 (by omega) (by omega)
    obtain ⟨q5, t5, r5⟩ := num_eq f5 g5 q4 t4 r4 (by omega) (by omega)
    rw [← Option.some.inj h1, ← Option.some.inj h2]
    exact t5
theorem grant_13 {o : Ob} {p : Int32} {y : Int32 × Ob} (h : f_X8_grant o p = some y) : gI y.2 13 = gI o 13 := by
  unfold f_X8_grant at h
  obtain ⟨o1, e1, h⟩ := z_lt h
  rw [← Option.some.inj h, e1]; rfl
theorem refuse_13 {o : Ob} {p : Int32} {y : Int32 × Ob} (h : f_X8_refuse o p = some y) : gI y.2 13 = gI o 13 := by
  unfold f_X8_refuse at h
  obtain ⟨o1, e1, h⟩ := z_lt h
  by_cases c : (0 : Int32) ≤ p
  · rw [← Option.some.inj (z_t h c), e1]; rfl
  · have h := z_f h c
    by_cases c : p < (-6 : Int32)
    · rw [← Option.some.inj (z_t h c), e1]; rfl
    · have h := z_f h c
      obtain ⟨x2, -, h⟩ := z_lt h
      obtain ⟨-, h⟩ := z_gd h
      obtain ⟨-, h⟩ := z_gd h
      obtain ⟨o5, e5, h⟩ := z_lt h
      rw [← Option.some.inj h, e5, e1]; rfl
theorem tell_11 {o : Ob} {p : Int32} {y : Int32 × Ob} (h : f_X9_tell o p = some y) : gI y.2 11 = gI o 11 := by
  have hb : ∀ s, bk_X9_tell_10 p s o = some y → gI y.2 11 = gI o 11 := by
    intro s h
    unfold bk_X9_tell_10 at h
    obtain ⟨o1, eo1, h⟩ := z_lt h
    by_cases c : (0 : Int32) ≤ p
    · rw [← Option.some.inj (z_t h c), eo1]; rfl
    · have h := z_f h c
      obtain ⟨x2, -, h⟩ := z_lt h
      obtain ⟨-, h⟩ := z_gd h
      obtain ⟨-, h⟩ := z_gd h
      obtain ⟨o5, eo5, h⟩ := z_lt h
      rw [← Option.some.inj h, eo5, eo1]; rfl
  unfold f_X9_tell at h
  by_cases c : (0 : Int32) ≤ p
  · exact hb _ (z_t h c)
  · exact hb _ (z_f h c)
def IK (rI : Nat → Option Nat) (im0 im1 : Option IR) : Prop :=
  (∀ j, 2 ≤ j → rI j = none) ∧ (∀ j, j < 2 → rI j = none ∨ (∃ r : IR, im0 = some r ∧ rI j = some r.1) ∨ (∃ r : IR, im1 = some r ∧ rI j = some r.1)) ∧
  ((∀ j, j < 2 → rI j = none) → im0 = none ∧ im1 = none) ∧ ((∃ j, j < 2 ∧ rI j = none) → im0 = none ∨ im1 = none)
theorem IK.eq {rI rI' : Nat → Option Nat} {im0 im1 : Option IR} (e : rI' = rI) (h : IK rI im0 im1) : IK rI' im0 im1 := by rw [e]; exact h
theorem IK.rep0 {rI : Nat → Option Nat} {im1 : Option IR} {r r' : IR} (h : IK rI (some r) im1) (e : r'.1 = r.1) : IK rI (some r') im1 := by
  refine ⟨h.1, fun j hj => ?_, fun hh => ?_, fun hh => ?_⟩
  · rcases h.2.1 j hj with q | ⟨s, q, w⟩ | q
    · exact Or.inl q
    · have es := Option.some.inj q
      subst es
      exact Or.inr (Or.inl ⟨r', rfl, by rw [e]; exact w⟩)
    · exact Or.inr (Or.inr q)
  · have := (h.2.2.1 hh).1; cases this
  · rcases h.2.2.2 hh with q | q
    · cases q
    · exact Or.inr q
theorem IK.rep1 {rI : Nat → Option Nat} {im0 : Option IR} {r r' : IR} (h : IK rI im0 (some r)) (e : r'.1 = r.1) : IK rI im0 (some r') := by
  refine ⟨h.1, fun j hj => ?_, fun hh => ?_, fun hh => ?_⟩
  · rcases h.2.1 j hj with q | q | ⟨s, q, w⟩
    · exact Or.inl q
    · exact Or.inr (Or.inl q)
    · have es := Option.some.inj q
      subst es
      exact Or.inr (Or.inr ⟨r', rfl, by rw [e]; exact w⟩)
  · have := (h.2.2.1 hh).2; cases this
  · rcases h.2.2.2 hh with q | q
    · exact Or.inl q
    · cases q
-- the joint tie
def Tis (o : Ob) (g : Nat → Int32) : Prop := gI o 7 = g 0 ∧ gI o 8 = g 1 ∧ (∀ j, j < 7 → gA o 1 j = g (29 + j)) ∧ (∀ j, j < 7 → gA o 3 j = g (64 + j)) ∧ (∀ j : Nat, (gI o 7).toInt ≤ (j : Int) → j < 7 → gA o 3 j = 0) ∧ (∀ j, j < 28 → gA o 2 j = g (36 + j)) ∧ (∀ j : Nat, 4 * (gI o 7).toInt ≤ (j : Int) → j < 28 → gA o 2 j = 0) ∧ (∀ j : Nat, (j : Int) < (gI o 7).toInt → j < 7 → (gA o 1 j).toInt < (j : Int))
theorem Tis.ext {o o' : Ob} {g g' : Nat → Int32} (h : Tis o g) (e7 : gI o' 7 = gI o 7) (e8 : gI o' 8 = gI o 8) (a1 : ∀ j, j < 7 → gA o' 1 j = gA o 1 j) (a3 : ∀ j, j < 7 → gA o' 3 j = gA o 3 j) (a2 : ∀ j, j < 28 → gA o' 2 j = gA o 2 j) (eg : ∀ j, j < 2 ∨ (29 ≤ j ∧ j < 71) → g' j = g j) : Tis o' g' := by
  obtain ⟨b1, b2, b3, b5, b7, b4, b6, b8⟩ := h
  refine ⟨?_, ?_, fun j hj => ?_, fun j hj => ?_, fun j hj hj' => ?_, fun j hj => ?_, fun j hj hj' => ?_, fun j hj hj' => ?_⟩
  · rw [e7, eg 0 (by omega)]; exact b1
  · rw [e8, eg 1 (by omega)]; exact b2
  · rw [a1 j hj, eg (29 + j) (by omega)]; exact b3 j hj
  · rw [a3 j hj, eg (64 + j) (by omega)]; exact b5 j hj
  · rw [a3 j hj']; rw [e7] at hj; exact b7 j hj hj'
  · rw [a2 j hj, eg (36 + j) (by omega)]; exact b4 j hj
  · rw [a2 j hj']; rw [e7] at hj; exact b6 j hj hj'
  · rw [a1 j hj']; rw [e7] at hj; exact b8 j hj hj'
theorem Tis.eq {o o' : Ob} {g g' : Nat → Int32} (h : Tis o g) (e7 : gI o' 7 = gI o 7) (e8 : gI o' 8 = gI o 8) (a1 : gA o' 1 = gA o 1) (a3 : gA o' 3 = gA o 3) (a2 : gA o' 2 = gA o 2) (eg : ∀ j, j < 2 ∨ (29 ≤ j ∧ j < 71) → g' j = g j) : Tis o' g' := h.ext e7 e8 (fun j _ => congrFun a1 j) (fun j _ => congrFun a3 j) (fun j _ => congrFun a2 j) eg
theorem kp_full {L LA : List Nat} {LC : List (Nat × Nat)} {o o' : Ob} (k : Kp L LA LC o o') (m0 : (0, 1) ∈ LC) (m1 : (1, 2) ∈ LC) (m2 : (29, 36) ∈ LC) (m3 : (36, 64) ∈ LC) (m4 : (64, 71) ∈ LC) : ∀ j, j < 2 ∨ (29 ≤ j ∧ j < 71) → gA o' 3 j = gA o 3 j := by
  intro j hj
  rcases (show j < 1 ∨ (1 ≤ j ∧ j < 2) ∨ (29 ≤ j ∧ j < 36) ∨ (36 ≤ j ∧ j < 64) ∨ (64 ≤ j ∧ j < 71) by omega) with q | ⟨q1, q2⟩ | ⟨q1, q2⟩ | ⟨q1, q2⟩ | ⟨q1, q2⟩
  · exact k.2.2 (0, 1) m0 j (Nat.zero_le _) q
  · exact k.2.2 (1, 2) m1 j q1 q2
  · exact k.2.2 (29, 36) m2 j q1 q2
  · exact k.2.2 (36, 64) m3 j q1 q2
  · exact k.2.2 (64, 71) m4 j q1 q2
def Tsl (o0 o9 : Ob) (k : Nat) (im : Option IR) : Prop := (im = none → gR o0 7 k = none ∧ gA o9 5 k = 0) ∧ (∀ r : IR, im = some r → gR o0 7 k = some r.1 ∧ ¬ gA o9 5 k = 0 ∧ Tis r.2.2.2.2.2.2.1 (fun j => gA o9 4 (5484 * k + j)))
theorem Tsl.eq {o0 o9 o0' o9' : Ob} {k : Nat} {im : Option IR} (h : Tsl o0 o9 k im) (e0 : gR o0' 7 = gR o0 7) (e5 : gA o9' 5 = gA o9 5) (e4 : gA o9' 4 = gA o9 4) : Tsl o0' o9' k im := by
  refine ⟨fun q => ?_, fun r q => ?_⟩
  · rw [e0, e5]; exact h.1 q
  · rw [e0, e5, e4]; exact h.2 r q
def Tim (o0 o9 : Ob) (im0 im1 : Option IR) : Prop := ∃ s : Nat, s < 2 ∧ Tsl o0 o9 s im0 ∧ Tsl o0 o9 (1 - s) im1
theorem Tim.eq {o0 o9 o0' o9' : Ob} {im0 im1 : Option IR} (h : Tim o0 o9 im0 im1) (e0 : gR o0' 7 = gR o0 7) (e5 : gA o9' 5 = gA o9 5) (e4 : gA o9' 4 = gA o9 4) : Tim o0' o9' im0 im1 := by
  obtain ⟨s, hs, a, b⟩ := h
  exact ⟨s, hs, a.eq e0 e5 e4, b.eq e0 e5 e4⟩
def Tall (o0 o1 o4 o9 : Ob) (im0 im1 : Option IR) : Prop := gI o1 2 = gI o9 13 ∧ Tis o4 (gA o9 3) ∧ Tim o0 o9 im0 im1
theorem Tall.eq {L LA : List Nat} {LC : List (Nat × Nat)} {o0 o1 o4 o9 o0' o1' o4' o9' : Ob} {im0 im1 : Option IR} (h : Tall o0 o1 o4 o9 im0 im1) (c1 : gI o1' 2 = gI o1 2) (c3 : gI o4' 7 = gI o4 7) (c4 : gI o4' 8 = gI o4 8) (c5 : gA o4' 1 = gA o4 1) (c7 : gA o4' 3 = gA o4 3) (c6 : gA o4' 2 = gA o4 2) (c9 : gR o0' 7 = gR o0 7) (k : Kp L LA LC o9 o9') (m1 : 13 ∈ L) (m4 : 5 ∈ LA) (m5 : 4 ∈ LA) (n0 : (0, 1) ∈ LC) (n1 : (1, 2) ∈ LC) (n2 : (29, 36) ∈ LC) (n3 : (36, 64) ∈ LC) (n4 : (64, 71) ∈ LC) : Tall o0' o1' o4' o9' im0 im1 :=
  ⟨by rw [c1, k.1 13 m1]; exact h.1, h.2.1.eq c3 c4 c5 c7 c6 (kp_full k n0 n1 n2 n3 n4), h.2.2.eq c9 (k.2.1 5 m4) (k.2.1 4 m5)⟩
theorem Tall.tis {L LA : List Nat} {LC : List (Nat × Nat)} {o0 o1 o4 o9 o0' o1' o4' o9' : Ob} {im0 im1 : Option IR} (h : Tall o0 o1 o4 o9 im0 im1) (c1 : gI o1' 2 = gI o1 2) (c9 : gR o0' 7 = gR o0 7) (k : Kp L LA LC o9 o9') (m1 : 13 ∈ L) (m4 : 5 ∈ LA) (m5 : 4 ∈ LA) (t : Tis o4' (gA o9' 3)) : Tall o0' o1' o4' o9' im0 im1 :=
  ⟨by rw [c1, k.1 13 m1]; exact h.1, t, h.2.2.eq c9 (k.2.1 5 m4) (k.2.1 4 m5)⟩
theorem Tall.sz {L LA : List Nat} {LC : List (Nat × Nat)} {o0 o1 o4 o9 o0' o1' o4' o9' : Ob} {im0 im1 : Option IR} (h : Tall o0 o1 o4 o9 im0 im1) (t : gI o1' 2 = gI o9' 13) (c3 : gI o4' 7 = gI o4 7) (c4 : gI o4' 8 = gI o4 8) (c5 : gA o4' 1 = gA o4 1) (c7 : gA o4' 3 = gA o4 3) (c6 : gA o4' 2 = gA o4 2) (c9 : gR o0' 7 = gR o0 7) (k : Kp L LA LC o9 o9') (m4 : 5 ∈ LA) (m5 : 4 ∈ LA) (n0 : (0, 1) ∈ LC) (n1 : (1, 2) ∈ LC) (n2 : (29, 36) ∈ LC) (n3 : (36, 64) ∈ LC) (n4 : (64, 71) ∈ LC) : Tall o0' o1' o4' o9' im0 im1 :=
  ⟨t, h.2.1.eq c3 c4 c5 c7 c6 (kp_full k n0 n1 n2 n3 n4), h.2.2.eq c9 (k.2.1 5 m4) (k.2.1 4 m5)⟩
-- the calls that change it
theorem people_n {o : Ob} {pl : List CR} (h : IvX2 pl o) : ∃ n : Nat, (gI o 7).toInt = (n : Int) ∧ n ≤ 7 := ⟨(gI o 7).toInt.toNat, by have := h.1; omega, by have := h.1; omega⟩
theorem t_person {o0 o4 o5 o11 o9 : Ob} {pl : List CR} {p0 p1 : Int32} {y1 : Int32 × Ob × Ob × Ob × Ob} {y2 : Int32 × Ob} (h4 : IvX2 pl o4) (ht : Tis o4 (gA o9 3)) (h1 : f_X8_person o0 o4 o5 o11 p0 p1 = some y1) (h2 : f_X9_person o9 p0 p1 = some y2) : y1.1 = y2.1 ∧ Tis y1.2.2.1 (gA y2.2 3) := by
  obtain ⟨n, en, hn⟩ := people_n h4
  have en9 : (gA o9 3 0).toInt = (n : Int) := by rw [← ht.1]; exact en
  have same : ∀ {a b : Ob}, a = o4 → gA b 3 = gA o9 3 → Tis a (gA b 3) := fun ea eb => by rw [ea, eb]; exact ht
  rcases person8 en hn h1 with ⟨a, b, c⟩ | ⟨a, ⟨b, c, d⟩ | ⟨b, c, d7, d8, d1, d2, d3⟩⟩ <;> rcases person9 en9 hn h2 with ⟨a', b', c'⟩ | ⟨a', ⟨b', c', d'⟩ | ⟨b', c', g0, g1, g29, g36, g64⟩⟩
  · exact ⟨by rw [b, b'], same c c'⟩
  · exact absurd a' a
  · exact absurd a' a
  · exact absurd a a'
  · exact ⟨by rw [c, c'], same d d'⟩
  · omega
  · exact absurd a a'
  · omega
  · refine ⟨by rw [c, c']; exact ht.1, ?_⟩
    obtain ⟨b1, b2, b3, b5, b7, b4, b6, b8⟩ := ht
    have t7 : (gI y1.2.2.1 7).toInt = (n : Int) + 1 := by rw [d7]; exact i32_add en (by decide) (by omega) (by omega)
    refine ⟨by rw [d7, g0, b1], by rw [d8, g1]; exact b2, fun j hj => ?_, fun j hj => ?_, fun j hj hj' => ?_, fun j hj => ?_, fun j hj hj' => ?_, fun j hj hj' => ?_⟩
    · rw [d1 j, g29 j hj, b3 j hj]
    · rw [d3, g64 j hj]
      by_cases q : j = n
      · rw [if_pos q]; exact b7 j (by omega) hj
      · rw [if_neg q]; exact b5 j hj
    · rw [d3]; exact b7 j (by omega) hj'
    · rw [d2, g36 j hj]
      by_cases q : 4 * n ≤ j ∧ j < 4 * n + 4
      · rw [if_pos q]; exact b6 j (by omega) hj
      · rw [if_neg q]; exact b4 j hj
    · rw [d2]; exact b6 j (by omega) hj'
    · rw [d1 j]
      by_cases q : j = n
      · rw [if_pos q, q]
        rcases a.2 with e | e
        · rw [e]; show (-1 : Int32).toInt < _; have : (-1 : Int32).toInt = -1 := (by decide); omega
        · exact e.2
      · rw [if_neg q]; exact b8 j (by omega) hj'
theorem t_beats {o0 o4 o9 : Ob} {pl : List CR} {p0 p1 p2 : Int32} {y1 : Int32 × Ob × Ob} {y2 : Int32 × Ob} (h4 : IvX2 pl o4) (ht : Tis o4 (gA o9 3)) (h1 : f_X8_beats o0 o4 p0 p1 p2 = some y1) (h2 : f_X9_beats o9 p0 p1 p2 = some y2) : y1.1 = y2.1 ∧ Tis y1.2.2 (gA y2.2 3) := by
  obtain ⟨n, en, hn⟩ := people_n h4
  have en9 : (gA o9 3 0).toInt = (n : Int) := by rw [← ht.1]; exact en
  have same : ∀ {a b : Ob}, a = o4 → gA b 3 = gA o9 3 → Tis a (gA b 3) := fun ea eb => by rw [ea, eb]; exact ht
  rcases beats8 en hn h1 with ⟨a, b, c⟩ | ⟨a, ⟨b, c, d⟩ | ⟨b, c, d⟩⟩ <;> rcases beats9 en9 hn h2 with ⟨a', b', c'⟩ | ⟨a', ⟨b', c', d'⟩ | ⟨b', c', d'⟩⟩
  · exact ⟨by rw [b, b'], same c c'⟩
  · exact absurd a' a
  · exact absurd a' a
  · exact absurd a a'
  · exact ⟨by rw [c, c'], same d d'⟩
  · exact absurd b' b
  · exact absurd a a'
  · exact absurd b b'
  · obtain ⟨b1, b2, b3, b5, b7, b4, b6, b8⟩ := ht
    have ec : p0.toNatClampNeg = p0.toInt.toNat := rfl
    have hp : p0.toNatClampNeg < 7 := by rw [ec]; omega
    have ev : gA o4 3 p0.toNatClampNeg = gA o9 3 (64 + p0.toNatClampNeg) := b5 _ hp
    have eq : y1.1 = y2.1 := by rw [c, c', ev]
    refine ⟨eq, ?_⟩
    have g3 : ∀ j, gA y1.2.2 3 j = if j = p0.toNatClampNeg then (gA o4 3 p0.toNatClampNeg) ^^^ (if y1.1 = p2 then 0 else (1 : Int32) <<< (p1 &&& 31)) else gA o4 3 j := fun j => by rw [d]; rfl
    have g7 : gI y1.2.2 7 = gI o4 7 := by rw [d]; rfl
    have g8 : gI y1.2.2 8 = gI o4 8 := by rw [d]; rfl
    have g1 : gA y1.2.2 1 = gA o4 1 := by rw [d]; rfl
    have g2 : gA y1.2.2 2 = gA o4 2 := by rw [d]; rfl
    refine ⟨by rw [g7, d' 0, if_neg (by omega)]; exact b1, by rw [g8, d' 1, if_neg (by omega)]; exact b2, fun j hj => ?_, fun j hj => ?_, fun j hj hj' => ?_, fun j hj => ?_, fun j hj hj' => ?_, fun j hj hj' => ?_⟩
    · rw [g1, d' (29 + j), if_neg (by omega)]; exact b3 j hj
    · rw [g3 j, d' (64 + j)]
      by_cases q : j = p0.toNatClampNeg
      · have q' : 64 + j = 64 + p0.toNatClampNeg := by rw [q]
        rw [if_pos q, if_pos q', ev, eq]
      · have q' : ¬ 64 + j = 64 + p0.toNatClampNeg := by omega
        rw [if_neg q, if_neg q']; exact b5 j hj
    · rw [g7] at hj
      rw [g3 j, if_neg (by rw [ec]; omega)]; exact b7 j hj hj'
    · have q' : ¬ 36 + j = 64 + p0.toNatClampNeg := by omega
      rw [g2, d' (36 + j), if_neg q']; exact b4 j hj
    · rw [g7] at hj
      rw [g2]; exact b6 j hj hj'
    · rw [g7] at hj
      rw [g1]; exact b8 j hj hj'
theorem t_seen {o0 o4 o9 : Ob} {pl : List CR} {p0 p1 : Int32} {y1 : Int32 × Ob × Ob} {y2 : Int32 × Ob} (h4 : IvX2 pl o4) (ht : Tis o4 (gA o9 3)) (h1 : f_X8_seen o0 o4 p0 p1 = some y1) (h2 : f_X9_seen o9 p0 p1 = some y2) : y1.1 = y2.1 ∧ Tis y1.2.2 (gA y2.2 3) := by
  have hr := h4.2.1
  have hr9 : 0 ≤ (gA o9 3 1).toInt ∧ (gA o9 3 1).toInt ≤ 6 := by rw [← ht.2.1]; exact hr
  have same : ∀ {a b : Ob}, a = o4 → gA b 3 = gA o9 3 → Tis a (gA b 3) := fun ea eb => by rw [ea, eb]; exact ht
  have e8 := ht.2.1
  rcases seen8 h1 hr with ⟨a, b, c⟩ | ⟨a, ⟨b, c, d⟩ | ⟨b, c, d8, d7, d1, d2, d3⟩⟩ <;> rcases seen9 h2 hr9 with ⟨a', b', c'⟩ | ⟨a', ⟨b', c', d'⟩ | ⟨b', c', g1, g⟩⟩
  · exact ⟨by rw [b, b'], same c c'⟩
  · exact absurd a' a
  · exact absurd a' a
  · exact absurd a a'
  · exact ⟨by rw [c, c'], same d d'⟩
  · exact absurd (e8.symm.trans b) b'
  · exact absurd a a'
  · exact absurd (e8.trans b') b
  · refine ⟨by rw [c, c', e8], ?_⟩
    obtain ⟨b1, b2, b3, b5, b7, b4, b6, b8⟩ := ht
    refine ⟨by rw [d7, g 0 (by decide) (by decide)]; exact b1, by rw [d8, g1, b2], fun j hj => ?_, fun j hj => ?_, fun j hj hj' => ?_, fun j hj => ?_, fun j hj hj' => ?_, fun j hj hj' => ?_⟩
    · rw [d1, g (29 + j) (by omega) (by omega)]; exact b3 j hj
    · rw [d3, g (64 + j) (by omega) (by omega)]; exact b5 j hj
    · rw [d7] at hj
      rw [d3]; exact b7 j hj hj'
    · rw [d2, g (36 + j) (by omega) (by omega)]; exact b4 j hj
    · rw [d7] at hj
      rw [d2]; exact b6 j hj hj'
    · rw [d7] at hj
      rw [d1]; exact b8 j hj hj'
theorem t_forget {o0 o4 o9 : Ob} {y1 : Int32 × Ob} {y2 : Int32 × Ob} (ht : Tis o4 (gA o9 3)) (h1 : f_X8_forget o0 o4 = some y1) (h2 : f_X9_forget o9 = some y2) : y1.1 = y2.1 ∧ Tis y1.2 (gA y2.2 3) := by
  obtain ⟨a, b⟩ := forget8 h1
  obtain ⟨a', g1, g⟩ := forget9 h2
  obtain ⟨b1, b2, b3, b5, b7, b4, b6, b8⟩ := ht
  refine ⟨by rw [a, a', b2], ?_⟩
  rw [b]
  refine ⟨?_, ?_, fun j hj => ?_, fun j hj => ?_, fun j hj hj' => ?_, fun j hj => ?_, fun j hj hj' => ?_, fun j hj hj' => ?_⟩
  · rw [g 0 (by decide)]; exact b1
  · rw [g1]; rfl
  · rw [g (29 + j) (by omega)]; exact b3 j hj
  · rw [g (64 + j) (by omega)]; exact b5 j hj
  · exact b7 j hj hj'
  · rw [g (36 + j) (by omega)]; exact b4 j hj
  · exact b6 j hj hj'
  · exact b8 j hj hj'
theorem Tis.cp {pl : List CR} {o on a0 a0n : Ob} {y : Ob × Ob} {g g' : Nat → Int32} (h : f_X2_set_O o on pl a0 a0n = some y) (ht : Tis a0 g) (eg : ∀ j, j < 2 ∨ (29 ≤ j ∧ j < 71) → g' j = g j) : Tis y.1 g' := by
  obtain ⟨a, b, c, d, e⟩ := setO_i h
  exact ht.ext a b c e d eg
theorem IK.of {o0 o9 : Ob} {im0 im1 : Option IR} (h : Tim o0 o9 im0 im1) (h2 : ∀ j, 2 ≤ j → gR o0 7 j = none) : IK (gR o0 7) im0 im1 := by
  obtain ⟨s, hs, a, b⟩ := h
  have hj : ∀ j, j < 2 → j = s ∨ j = 1 - s := fun j hj => by omega
  refine ⟨h2, fun j q => ?_, fun q => ?_, fun ⟨j, q1, q2⟩ => ?_⟩
  · rcases hj j q with e | e
    · subst e
      cases e0 : im0 with
      | none => exact Or.inl (a.1 e0).1
      | some r => exact Or.inr (Or.inl ⟨r, rfl, (a.2 r e0).1⟩)
    · subst e
      cases e1 : im1 with
      | none => exact Or.inl (b.1 e1).1
      | some r => exact Or.inr (Or.inr ⟨r, rfl, (b.2 r e1).1⟩)
  · refine ⟨?_, ?_⟩
    · cases e0 : im0 with
      | none => rfl
      | some r => have := q s hs; rw [(a.2 r e0).1] at this; cases this
    · cases e1 : im1 with
      | none => rfl
      | some r => have := q (1 - s) (by omega); rw [(b.2 r e1).1] at this; cases this
  · rcases hj j q1 with e | e
    · subst e
      cases e0 : im0 with
      | none => exact Or.inl rfl
      | some r => rw [(a.2 r e0).1] at q2; cases q2
    · subst e
      cases e1 : im1 with
      | none => exact Or.inr rfl
      | some r => rw [(b.2 r e1).1] at q2; cases q2
theorem t_strength {o0 o4 o9 : Ob} {pl : List CR} {p0 p1 p2 : Int32} {y1 : Int32 × Ob × Ob} {y2 : Int32 × Ob} (h4 : IvX2 pl o4) (ht : Tis o4 (gA o9 3)) (h1 : f_X8_strength o0 o4 p0 p1 p2 = some y1) (h2 : f_X9_strength o9 p0 p1 p2 = some y2) : y1.1 = y2.1 ∧ Tis y1.2.2 (gA y2.2 3) := by
  obtain ⟨n, en, hn⟩ := people_n h4
  have en9 : (gA o9 3 0).toInt = (n : Int) := by rw [← ht.1]; exact en
  have same : ∀ {a b : Ob}, a = o4 → gA b 3 = gA o9 3 → Tis a (gA b 3) := fun ea eb => by rw [ea, eb]; exact ht
  rcases strength8 en hn h1 with ⟨a, b, c⟩ | ⟨a, ⟨b, c, d⟩ | ⟨b, c, d⟩⟩ <;> rcases strength9 en9 hn h2 with ⟨a', b', c'⟩ | ⟨a', ⟨b', c', d'⟩ | ⟨b', c', d'⟩⟩
  · exact ⟨by rw [b, b'], same c c'⟩
  · exact absurd a' a
  · exact absurd a' a
  · exact absurd a a'
  · exact ⟨by rw [c, c'], same d d'⟩
  · exact absurd b' b
  · exact absurd a a'
  · exact absurd b b'
  · obtain ⟨b1, b2, b3, b5, b7, b4, b6, b8⟩ := ht
    have ec : p0.toNatClampNeg = p0.toInt.toNat := rfl
    have ed : p1.toNatClampNeg = p1.toInt.toNat := rfl
    have hp : 4 * p0.toNatClampNeg + p1.toNatClampNeg < 28 := by rw [ec, ed]; omega
    generalize hi : 4 * p0.toNatClampNeg + p1.toNatClampNeg = i at *
    have hi4 : (i : Int) < 4 * (gI o4 7).toInt := by rw [← hi, ec, ed, en]; omega
    refine ⟨by rw [c, c']; exact b4 i hp, ?_⟩
    have g7 : gI y1.2.2 7 = gI o4 7 := by rw [d]; rfl
    have g8 : gI y1.2.2 8 = gI o4 8 := by rw [d]; rfl
    have g1 : gA y1.2.2 1 = gA o4 1 := by rw [d]; rfl
    have g3 : gA y1.2.2 3 = gA o4 3 := by rw [d]; rfl
    have g2 : ∀ j, gA y1.2.2 2 j = if j = i then p2 else gA o4 2 j := fun j => by rw [d]; rfl
    refine ⟨by rw [g7, d' 0, if_neg (by omega)]; exact b1, by rw [g8, d' 1, if_neg (by omega)]; exact b2, fun j hj => ?_, fun j hj => ?_, fun j hj hj' => ?_, fun j hj => ?_, fun j hj hj' => ?_, fun j hj hj' => ?_⟩
    · rw [g1, d' (29 + j), if_neg (by omega)]; exact b3 j hj
    · rw [g3, d' (64 + j), if_neg (by omega)]; exact b5 j hj
    · rw [g7] at hj
      rw [g3]; exact b7 j hj hj'
    · rw [g2 j, d' (36 + j)]
      by_cases q : j = i
      · have q' : 36 + j = 36 + i := by rw [q]
        rw [if_pos q, if_pos q']
      · have q' : ¬ 36 + j = 36 + i := by omega
        rw [if_neg q, if_neg q']; exact b4 j hj
    · rw [g7] at hj
      rw [g2 j, if_neg (by omega)]; exact b6 j hj hj'
    · rw [g7] at hj
      rw [g1]; exact b8 j hj hj'
theorem t_rows {o1 : Ob} (hs : 0 ≤ (gI o1 2).toInt ∧ (gI o1 2).toInt ≤ 400) {y1 : Int32 × Ob × Ob × Ob} {y2 : Int32 × Ob} : ∀ (N : Nat) (v1 v2 : Int32) (k : Nat) (o0 is o9 : Ob), v2.toInt = (k : Int) → k ≤ 404 → Tis is (gA o9 3) → (0 ≤ (gI is 7).toInt ∧ (gI is 7).toInt ≤ 7) → gA o1 0 = gA o9 12 → gI o0 13 = gI o9 11 →
    lp_X8_row_26 N (v1, v2, o0, o1, is) = some y1 → lp_X9_row_35 N (gI o1 2, v1, v2, o9) = some y2 → y1.1 = y2.1 ∧ Tis y1.2.2.2 (gA y2.2 3) ∧ gI y1.2.1 13 = gI y2.2 11 := by
  intro N
  induction N with
  | zero => intro v1 v2 k o0 is o9 _ _ _ _ _ _ h; cases h
  | succ N ih =>
    intro v1 v2 k o0 is o9 ek hk ht hp htp hbl h1 h2
    have h1 : lb_X8_row_26 (lp_X8_row_26 N) v1 v2 o0 o1 is = some y1 := h1
    have h2 : lb_X9_row_35 (lp_X9_row_35 N) (gI o1 2) v1 v2 o9 = some y2 := h2
    unfold lb_X8_row_26 at h1
    unfold lb_X9_row_35 at h2
    by_cases c : gI o1 2 ≤ v2
    · obtain ⟨o2, -, h1⟩ := z_lt (z_t h1 c)
      obtain ⟨z3, ez3, h1⟩ := z_bd h1
      obtain ⟨z5, ez5, h2⟩ := z_bd (z_t h2 c)
      rw [← Option.some.inj h1, ← Option.some.inj h2]
      refine ⟨(grant_ret ez3).trans (tell_3 ez5).1.symm, ?_, ?_⟩
      · show Tis is (gA z5.2 3)
        rw [(tell_3 ez5).2.1]; exact ht
      · show gI z3.2 13 = gI z5.2 11
        rw [grant_13 ez3, tell_11 ez5]; exact hbl
    · have d := cv_nle (a := (gI o1 2).toInt) (b := (k : Int)) rfl ek c
      obtain ⟨z4, ez4, h1⟩ := z_bd (z_f h1 c)
      have h2 := z_f h2 c
      have hp9 : 0 ≤ (gA o9 3 0).toInt ∧ (gA o9 3 0).toInt ≤ 7 := by rw [← ht.1]; exact hp
      have m4 : (v2 + (4 : Int32)).toInt = (k : Int) + 4 := i32_add ek (by decide) (by omega) (by omega)
      have m5 : (v2 + (5 : Int32)).toInt = (k : Int) + 5 := i32_add ek (by decide) (by omega) (by omega)
      have e12 : ∀ j, gA o1 0 j = gA o9 12 j := fun j => congrFun htp j
      have hblot : z4.1 = 0 → z4.2 = is → bk_X9_row_106 (lp_X9_row_35 N) (gI o1 2) v1 v2 o9 = some y2 → y1.1 = y2.1 ∧ Tis y1.2.2.2 (gA y2.2 3) ∧ gI y1.2.1 13 = gI y2.2 11 := by
        intro q1 q2 h2
        obtain ⟨o5, e5, h1⟩ := z_lt (z_t h1 q1)
        unfold bk_X8_row_61 at h1
        obtain ⟨x6, e6, h1⟩ := z_lt h1
        unfold bk_X9_row_106 at h2
        obtain ⟨o6, f6, h2⟩ := z_lt h2
        unfold bk_X9_row_116 at h2
        obtain ⟨x7, f7, h2⟩ := z_lt h2
        rw [e6, q2] at h1
        rw [f7] at h2
        have k3 : gA o6 3 = gA o9 3 := by rw [f6]; rfl
        exact ih v1 (v2 + 5) (k + 5) o5 is o6 (by omega) (by omega) (by rw [k3]; exact ht) hp (by rw [f6]; exact htp) (by rw [e5, f6]; show gI o0 13 + 1 = gI o9 11 + 1; rw [hbl]) h1 h2
      rcases tellRow8 ek d hs hp ez4 with ⟨q1, q2, q3⟩ | ⟨q1, ⟨q2, q3⟩, w7, w8, w1, w3, w2⟩
      · by_cases c4 : gI o1 2 ≤ v2 + (4 : Int32)
        · exact hblot q1 q2 (z_t h2 c4)
        · have d4 := cv_nle (a := (gI o1 2).toInt) (b := (k : Int) + 4) rfl m4 c4
          obtain ⟨z8, ez8, h2⟩ := z_bd (z_f h2 c4)
          rcases isTold9 ek (by omega) hp9 ez8 with ⟨a, b⟩ | ⟨a, b1, b2⟩
          · exact hblot q1 q2 (z_t h2 a)
          · refine absurd ⟨?_, fun i hi => ⟨by omega, ?_⟩⟩ q3
            · rw [e12, ht.1]; exact b1
            · rw [e12]; exact b2 i hi
      · have d4 : (k : Int) + 4 < (gI o1 2).toInt := by have := (q3 3 (by decide)).1; omega
        have c4 : ¬ gI o1 2 ≤ v2 + (4 : Int32) := fun q => by have q := cv_le (a := (gI o1 2).toInt) (b := (k : Int) + 4) rfl m4 q; omega
        obtain ⟨z8, ez8, h2⟩ := z_bd (z_f h2 c4)
        rcases isTold9 ek (by omega) hp9 ez8 with ⟨a, b⟩ | ⟨a, b1, b2⟩
        · refine absurd ⟨?_, fun i hi => ?_⟩ b
          · rw [← e12, ← ht.1]; exact q2
          · rw [← e12]; exact (q3 i hi).2
        · have h2 := z_f h2 a
          obtain ⟨x7, e7, h1⟩ := z_lt (z_f h1 q1)
          unfold bk_X8_row_61 at h1
          obtain ⟨x6, e6, h1⟩ := z_lt h1
          rw [e6, e7] at h1
          have ec : (gA o1 0 k).toNatClampNeg = (gA o1 0 k).toInt.toNat := rfl
          obtain ⟨o', b3, b12, b11, bj⟩ := l58_9 (a := (gA o1 0 k).toNatClampNeg) ek (by omega) (by rw [ec]; omega) _ _ 0 o9 (by decide) (by decide) (by rw [← e12, ec]; omega) h2
          unfold bk_X9_row_116 at b3
          obtain ⟨x8, f8, b3⟩ := z_lt b3
          rw [f8] at b3
          have ha : (gA o1 0 k).toNatClampNeg < 7 := by rw [ec]; omega
          have hb : (4 * (gA o1 0 k).toNatClampNeg + 4 : Int) ≤ 4 * (gI is 7).toInt := by rw [ec]; omega
          generalize (gA o1 0 k).toNatClampNeg = t at *
          obtain ⟨r1, r2, r3, r5, r7, r4, r6, r8⟩ := ht
          have ht' : Tis z4.2 (gA o' 3) := by
            refine ⟨?_, ?_, fun j hj => ?_, fun j hj => ?_, fun j hj hj' => ?_, fun j hj => ?_, fun j hj hj' => ?_, fun j hj hj' => ?_⟩
            · rw [w7, bj 0, if_neg (by omega)]; exact r1
            · rw [w8, bj 1, if_neg (by omega)]; exact r2
            · rw [w1, bj (29 + j), if_neg (by omega)]; exact r3 j hj
            · rw [w3, bj (64 + j), if_neg (by omega)]; exact r5 j hj
            · rw [w7] at hj
              rw [w3]; exact r7 j hj hj'
            · rw [w2 j, bj (36 + j)]
              by_cases q : 4 * t ≤ j ∧ j < 4 * t + 4
              · have q' : 36 + 4 * t + 0 ≤ 36 + j ∧ 36 + j < 36 + 4 * t + 4 := ⟨by omega, by omega⟩
                have e : 36 + j - (36 + 4 * t) = j - 4 * t := by omega
                rw [if_pos q, if_pos q', e]; exact e12 _
              · have q' : ¬ (36 + 4 * t + 0 ≤ 36 + j ∧ 36 + j < 36 + 4 * t + 4) := by omega
                rw [if_neg q, if_neg q']; exact r4 j hj
            · rw [w7] at hj
              rw [w2 j, if_neg (by omega)]; exact r6 j hj hj'
            · rw [w7] at hj
              rw [w1]; exact r8 j hj hj'
          exact ih (v1 + 1) (v2 + 5) (k + 5) o0 z4.2 o' (by omega) (by omega) ht' (by rw [w7]; exact hp) (by rw [b12]; exact htp) (by rw [b11]; exact hbl) h1 b3
theorem t_row {o0 o1 o4 o9 : Ob} {pl : List CR} {y1 : Int32 × Ob × Ob × Ob} {y2 : Int32 × Ob} (h4 : IvX2 pl o4) (h1r : 0 ≤ (gI o1 2).toInt ∧ (gI o1 2).toInt ≤ 400) (hsz : gI o1 2 = gI o9 13) (ht : Tis o4 (gA o9 3)) (htp : gA o1 0 = gA o9 12) (hbl : gI o0 13 = gI o9 11) (h1 : f_X8_row o0 o1 o4 = some y1) (h2 : f_X9_row o9 = some y2) : y1.1 = y2.1 ∧ Tis y1.2.2.2 (gA y2.2 3) ∧ gI y1.2.1 13 = gI y2.2 11 := by
  unfold f_X8_row at h1
  unfold f_X9_row at h2
  obtain ⟨a1, ea1, h2⟩ := z_lt h2
  obtain ⟨x2, ex2, h2⟩ := z_lt h2
  obtain ⟨a3, ea3, h2⟩ := z_lt h2
  have exs : x2 = gI o1 2 := by rw [ex2, ea1, hsz]; rfl
  have k3 : gA a3 3 = gA o9 3 := by rw [ea3, ea1]; rfl
  by_cases c : gI o1 2 = 0
  · obtain ⟨z8, ez8, h1⟩ := z_bd (z_t h1 c)
    obtain ⟨z15, ez15, h2⟩ := z_bd (z_t h2 (by rw [exs]; exact c))
    rw [← Option.some.inj h1, ← Option.some.inj h2]
    refine ⟨(refuse_ret ez8).trans (tell_3 ez15).1.symm, ?_, ?_⟩
    · show Tis o4 (gA z15.2 3)
      rw [(tell_3 ez15).2.1, k3]; exact ht
    · show gI z8.2 13 = gI z15.2 11
      rw [refuse_13 ez8, tell_11 ez15, ea3, ea1]; exact hbl
  · obtain ⟨b1, eb1, h1⟩ := z_lt (z_f h1 c)
    obtain ⟨a4, ea4, h2⟩ := z_lt (z_f h2 (by rw [exs]; exact c))
    rw [exs] at h2
    have k3' : gA a4 3 = gA o9 3 := by rw [ea4]; exact k3
    exact t_rows h1r zfu 0 0 0 b1 o4 a4 (by decide) (by decide) (by rw [k3']; exact ht) h4.1 (by rw [ea4, ea3, ea1]; exact htp) (by rw [eb1, ea4]; rfl) h1 h2
theorem opt_c (a : Option IR) : a = none ∨ ∃ r : IR, a = some r := by
  cases a with
  | none => exact Or.inl rfl
  | some r => exact Or.inr ⟨r, rfl⟩
theorem Tsl.put {o0' o9 o9' : Ob} {k : Nat} {g : Nat → Option Nat} {r : IR} (e0 : ∀ j, gR o0' 7 j = if j = k then some r.1 else g j) (e5 : ∀ j, gA o9' 5 j = if j = k then 1 else gA o9 5 j) (ht : Tis r.2.2.2.2.2.2.1 (fun j => gA o9' 4 (5484 * k + j))) : Tsl o0' o9' k (some r) := by
  refine ⟨(fun q => by cases q), fun r' q => ?_⟩
  rw [← Option.some.inj q]
  exact ⟨by rw [e0, if_pos rfl], by rw [e5, if_pos rfl]; decide, ht⟩
theorem Tsl.oth {o0 o9 o0' o9' : Ob} {k k' : Nat} {a : Option Nat} {im : Option IR} (h : Tsl o0 o9 k' im) (hk : k < 2) (hk' : k' < 2) (hn : k' ≠ k) (e0 : ∀ j, gR o0' 7 j = if j = k then a else gR o0 7 j) (e5 : ∀ j, gA o9' 5 j = if j = k then 1 else gA o9 5 j) (e4 : ∀ j, j < 5484 * k ∨ 5484 * k + 5484 ≤ j → gA o9' 4 j = gA o9 4 j) : Tsl o0' o9' k' im := by
  refine ⟨fun q => ?_, fun r q => ?_⟩
  · rw [e0, if_neg hn, e5, if_neg hn]; exact h.1 q
  · obtain ⟨a1, a2, a3⟩ := h.2 r q
    rw [e0, if_neg hn, e5, if_neg hn]
    exact ⟨a1, a2, a3.eq rfl rfl rfl rfl rfl (fun j hj => e4 (5484 * k' + j) (by omega))⟩
theorem Tim.put0 {o0 o9 o0' o9' : Ob} {k : Nat} {im0 im1 : Option IR} {r : IR} (hk : k < 2) (ta : Tsl o0 o9 k im0) (tb : Tsl o0 o9 (1 - k) im1) (e0 : ∀ j, gR o0' 7 j = if j = k then some r.1 else gR o0 7 j) (e5 : ∀ j, gA o9' 5 j = if j = k then 1 else gA o9 5 j) (e4 : ∀ j, j < 5484 * k ∨ 5484 * k + 5484 ≤ j → gA o9' 4 j = gA o9 4 j) (ht : Tis r.2.2.2.2.2.2.1 (fun j => gA o9' 4 (5484 * k + j))) : Tim o0' o9' (some r) im1 :=
  ⟨k, hk, Tsl.put e0 e5 ht, tb.oth hk (by omega) (by omega) e0 e5 e4⟩
theorem Tim.put1 {o0 o9 o0' o9' : Ob} {k : Nat} {im0 im1 : Option IR} {r : IR} (hk : k < 2) (ta : Tsl o0 o9 (1 - k) im0) (tb : Tsl o0 o9 k im1) (e0 : ∀ j, gR o0' 7 j = if j = k then some r.1 else gR o0 7 j) (e5 : ∀ j, gA o9' 5 j = if j = k then 1 else gA o9 5 j) (e4 : ∀ j, j < 5484 * k ∨ 5484 * k + 5484 ≤ j → gA o9' 4 j = gA o9 4 j) (ht : Tis r.2.2.2.2.2.2.1 (fun j => gA o9' 4 (5484 * k + j))) : Tim o0' o9' im0 (some r) := by
  have e : 1 - (1 - k) = k := by omega
  exact ⟨1 - k, by omega, ta.oth hk (by omega) (by omega) e0 e5 e4, by rw [e]; exact Tsl.put e0 e5 ht⟩
