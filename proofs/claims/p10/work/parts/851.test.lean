-- codes of class and reference that say the same, and what they are worth
def WD (od : Bool) (wzz op arg : Int32) : Prop :=
  (∃ kzz : Nat, (kzz < 5 ∨ (od = false ∧ kzz < 9)) ∧ wzz.toInt = (kzz : Int) ∧ op.toInt = (kzz : Int) + 1) ∨
  (od = true ∧ ∃ pzz : Nat, pzz < 7 ∧ arg.toInt = (pzz : Int) ∧ ((wzz.toInt = 5 + (pzz : Int) ∧ op.toInt = 6) ∨ (wzz.toInt = 12 + (pzz : Int) ∧ op.toInt = 7)))
def opB (s pzz : Int32) : Prop := (s = 5 ∧ pzz = 20) ∨ (s = 6 ∧ pzz = 21) ∨ (s = 7 ∧ pzz = 22) ∨ (s = 8 ∧ pzz = 23) ∨ (s = 9 ∧ pzz = 24)
def opC (s pzz : Int32) : Prop := (s = 10 ∧ pzz = 25) ∨ (s = 11 ∧ pzz = 26) ∨ (s = 12 ∧ pzz = 27)
def opA (s pzz : Int32) : Prop := (s = 3 ∧ pzz = 29) ∨ (s = 4 ∧ pzz = 30)
def SxC (od : Bool) (s1zz w1zz s2zz w2zz : Nat → Int32) (Qzz : Bool → Nat → Nat → Nat → Nat → Nat → Prop) : Prop :=
  (∀ a1zz a2, s1zz a1zz = 0 → s2zz a2 = 0 → w1zz a1zz = w2zz a2 → Qzz false a1zz (a1zz + 1) a2 (a2 + 1) 1) ∧
  (∀ a1zz a2, s1zz a1zz = 1 → WD od (w1zz a1zz) (s2zz a2) (w2zz a2) → Qzz false a1zz (a1zz + 1) a2 (a2 + 1) 1) ∧
  (∀ a1zz m1zz b1 a2 m2zz b2 n n', Qzz false a1zz m1zz a2 m2zz n → Qzz false m1zz b1 m2zz b2 n' → opB (s1zz b1) (s2zz b2) → Qzz false a1zz (b1 + 1) a2 (b2 + 1) (n + n')) ∧
  (∀ a1zz m1zz b1 a2 m2zz b2 n n', Qzz false a1zz m1zz a2 m2zz n → Qzz false m1zz b1 m2zz b2 n' → opC (s1zz b1) (s2zz b2) → Qzz true a1zz (b1 + 1) a2 (b2 + 1) (n + n')) ∧
  (∀ a1zz m1zz b1 a2 m2zz b2 n n', Qzz true a1zz m1zz a2 m2zz n → Qzz true (m1zz + 1) b1 (m2zz + 1) b2 n' → opA (s1zz m1zz) (s2zz m2zz) → (w1zz m1zz).toInt = (b1 : Int) → (w2zz m2zz).toInt = (b2 : Int) → Qzz true a1zz b1 a2 b2 (n + n')) ∧
  (∀ a1zz b1 a2 b2 n, Qzz true a1zz b1 a2 b2 n → s1zz b1 = 2 → s2zz b2 = 28 → Qzz true a1zz (b1 + 1) a2 (b2 + 1) n) ∧
  (∀ a1zz b1 a2 b2 n, Qzz true a1zz b1 a2 b2 n → s2zz b2 = 28 → s2zz (b2 + 1) = 28 → Qzz true a1zz b1 a2 (b2 + 2) n)
def Sx (od : Bool) (s1zz w1zz s2zz w2zz : Nat → Int32) (t : Bool) (a1zz b1 a2 b2 n : Nat) : Prop := ∀ Qzz : Bool → Nat → Nat → Nat → Nat → Nat → Prop, SxC od s1zz w1zz s2zz w2zz Qzz → Qzz t a1zz b1 a2 b2 n
set_option maxHeartbeats 200000 in
theorem Sx.cl (od : Bool) (s1zz w1zz s2zz w2zz : Nat → Int32) : SxC od s1zz w1zz s2zz w2zz (Sx od s1zz w1zz s2zz w2zz) :=
  ⟨fun a1zz a2 h1 h2 h3 Qzz hQ => hQ.1 a1zz a2 h1 h2 h3,
   fun a1zz a2 h1 h2 Qzz hQ => hQ.2.1 a1zz a2 h1 h2,
   fun a1zz m1zz b1 a2 m2zz b2 n n' h1 h2 h3 Qzz hQ => hQ.2.2.1 a1zz m1zz b1 a2 m2zz b2 n n' (h1 Qzz hQ) (h2 Qzz hQ) h3,
   fun a1zz m1zz b1 a2 m2zz b2 n n' h1 h2 h3 Qzz hQ => hQ.2.2.2.1 a1zz m1zz b1 a2 m2zz b2 n n' (h1 Qzz hQ) (h2 Qzz hQ) h3,
   fun a1zz m1zz b1 a2 m2zz b2 n n' h1 h2 h3 h4 h5 Qzz hQ => hQ.2.2.2.2.1 a1zz m1zz b1 a2 m2zz b2 n n' (h1 Qzz hQ) (h2 Qzz hQ) h3 h4 h5,
   fun a1zz b1 a2 b2 n h1 h2 h3 Qzz hQ => hQ.2.2.2.2.2.1 a1zz b1 a2 b2 n (h1 Qzz hQ) h2 h3,
   fun a1zz b1 a2 b2 n h1 h2 h3 Qzz hQ => hQ.2.2.2.2.2.2 a1zz b1 a2 b2 n (h1 Qzz hQ) h2 h3⟩
set_option maxHeartbeats 200000 in
theorem Sx.lt {od : Bool} {s1zz w1zz s2zz w2zz : Nat → Int32} {t : Bool} {a1zz b1 a2 b2 n : Nat} (hzz : Sx od s1zz w1zz s2zz w2zz t a1zz b1 a2 b2 n) : a1zz < b1 ∧ a2 < b2 ∧ 1 ≤ n := by
  refine hzz (fun _ a1zz b1 a2 b2 n => a1zz < b1 ∧ a2 < b2 ∧ 1 ≤ n) ⟨?_, ?_, ?_, ?_, ?_, ?_, ?_⟩
  · intro a1zz a2 _ _ _; exact ⟨by omega, by omega, by omega⟩
  · intro a1zz a2 _ _; exact ⟨by omega, by omega, by omega⟩
  · intro a1zz m1zz b1 a2 m2zz b2 n n' h1 h2 _; exact ⟨by omega, by omega, by omega⟩
  · intro a1zz m1zz b1 a2 m2zz b2 n n' h1 h2 _; exact ⟨by omega, by omega, by omega⟩
  · intro a1zz m1zz b1 a2 m2zz b2 n n' h1 h2 _ _ _; exact ⟨by omega, by omega, by omega⟩
  · intro a1zz b1 a2 b2 n h1 _ _; exact ⟨by omega, by omega, h1.2.2⟩
  · intro a1zz b1 a2 b2 n h1 _ _; exact ⟨by omega, by omega, h1.2.2⟩
set_option maxHeartbeats 200000 in
/-- the same codes elsewhere -/
theorem Sx.eq {od : Bool} {s1zz w1zz s2zz w2zz s1' w1' s2' w2' : Nat → Int32} {t : Bool} {a1zz b1 a2 b2 n : Nat} (hzz : Sx od s1zz w1zz s2zz w2zz t a1zz b1 a2 b2 n) (e1zz : ∀ jzz, a1zz ≤ jzz → jzz < b1 → s1' jzz = s1zz jzz ∧ w1' jzz = w1zz jzz) (e2zz : ∀ jzz, a2 ≤ jzz → jzz < b2 → s2' jzz = s2zz jzz ∧ w2' jzz = w2zz jzz) : Sx od s1' w1' s2' w2' t a1zz b1 a2 b2 n := by
  have cl := Sx.cl od s1' w1' s2' w2'
  have gzz := hzz (fun t a1zz b1 a2 b2 n => (a1zz < b1 ∧ a2 < b2) ∧ ((∀ jzz, a1zz ≤ jzz → jzz < b1 → s1' jzz = s1zz jzz ∧ w1' jzz = w1zz jzz) → (∀ jzz, a2 ≤ jzz → jzz < b2 → s2' jzz = s2zz jzz ∧ w2' jzz = w2zz jzz) → Sx od s1' w1' s2' w2' t a1zz b1 a2 b2 n)) ⟨?_, ?_, ?_, ?_, ?_, ?_, ?_⟩
  · exact gzz.2 e1zz e2zz
  · intro a1zz a2 q1zz q2zz q3zz
    refine ⟨⟨by omega, by omega⟩, fun g1 g2 => ?_⟩
    have uzz := g1 a1zz (by omega) (by omega)
    have vzz := g2 a2 (by omega) (by omega)
    exact cl.1 a1zz a2 (by rw [uzz.1]; exact q1zz) (by rw [vzz.1]; exact q2zz) (by rw [uzz.2, vzz.2]; exact q3zz)
  · intro a1zz a2 q1zz q2zz
    refine ⟨⟨by omega, by omega⟩, fun g1 g2 => ?_⟩
    have uzz := g1 a1zz (by omega) (by omega)
    have vzz := g2 a2 (by omega) (by omega)
    exact cl.2.1 a1zz a2 (by rw [uzz.1]; exact q1zz) (by rw [uzz.2, vzz.1, vzz.2]; exact q2zz)
  · intro a1zz m1zz b1 a2 m2zz b2 n n' q1zz q2zz q3zz
    refine ⟨⟨by omega, by omega⟩, fun g1 g2 => ?_⟩
    have uzz := g1 b1 (by omega) (by omega)
    have vzz := g2 b2 (by omega) (by omega)
    exact cl.2.2.1 a1zz m1zz b1 a2 m2zz b2 n n' (q1zz.2 (fun jzz i1zz i2zz => g1 jzz i1zz (by omega)) (fun jzz i1zz i2zz => g2 jzz i1zz (by omega))) (q2zz.2 (fun jzz i1zz i2zz => g1 jzz (by omega) (by omega)) (fun jzz i1zz i2zz => g2 jzz (by omega) (by omega))) (by rw [uzz.1, vzz.1]; exact q3zz)
  · intro a1zz m1zz b1 a2 m2zz b2 n n' q1zz q2zz q3zz
    refine ⟨⟨by omega, by omega⟩, fun g1 g2 => ?_⟩
    have uzz := g1 b1 (by omega) (by omega)
    have vzz := g2 b2 (by omega) (by omega)
    exact cl.2.2.2.1 a1zz m1zz b1 a2 m2zz b2 n n' (q1zz.2 (fun jzz i1zz i2zz => g1 jzz i1zz (by omega)) (fun jzz i1zz i2zz => g2 jzz i1zz (by omega))) (q2zz.2 (fun jzz i1zz i2zz => g1 jzz (by omega) (by omega)) (fun jzz i1zz i2zz => g2 jzz (by omega) (by omega))) (by rw [uzz.1, vzz.1]; exact q3zz)
  · intro a1zz m1zz b1 a2 m2zz b2 n n' q1zz q2zz q3zz q4zz q5zz
    refine ⟨⟨by omega, by omega⟩, fun g1 g2 => ?_⟩
    have uzz := g1 m1zz (by omega) (by omega)
    have vzz := g2 m2zz (by omega) (by omega)
    exact cl.2.2.2.2.1 a1zz m1zz b1 a2 m2zz b2 n n' (q1zz.2 (fun jzz i1zz i2zz => g1 jzz i1zz (by omega)) (fun jzz i1zz i2zz => g2 jzz i1zz (by omega))) (q2zz.2 (fun jzz i1zz i2zz => g1 jzz (by omega) (by omega)) (fun jzz i1zz i2zz => g2 jzz (by omega) (by omega))) (by rw [uzz.1, vzz.1]; exact q3zz) (by rw [uzz.2]; exact q4zz) (by rw [vzz.2]; exact q5zz)
  · intro a1zz b1 a2 b2 n q1zz q2zz q3zz
    refine ⟨⟨by omega, by omega⟩, fun g1 g2 => ?_⟩
    have uzz := g1 b1 (by omega) (by omega)
    have vzz := g2 b2 (by omega) (by omega)
    exact cl.2.2.2.2.2.1 a1zz b1 a2 b2 n (q1zz.2 (fun jzz i1zz i2zz => g1 jzz i1zz (by omega)) (fun jzz i1zz i2zz => g2 jzz i1zz (by omega))) (by rw [uzz.1]; exact q2zz) (by rw [vzz.1]; exact q3zz)
  · intro a1zz b1 a2 b2 n q1zz q2zz q3zz
    refine ⟨⟨by omega, by omega⟩, fun g1 g2 => ?_⟩
    have vzz := g2 b2 (by omega) (by omega)
    have v' := g2 (b2 + 1) (by omega) (by omega)
    exact cl.2.2.2.2.2.2 a1zz b1 a2 b2 n (q1zz.2 (fun jzz i1zz i2zz => g1 jzz i1zz i2zz) (fun jzz i1zz i2zz => g2 jzz i1zz (by omega))) (by rw [vzz.1]; exact q2zz) (by rw [v'.1]; exact q3zz)
-- two numbers joined
set_option maxHeartbeats 200000 in
theorem lim8 {vzz zzz : Int64} (hzz : bk_X3_joined_164 vzz = some zzz) : (zzz = vzz ∧ -1000000000 ≤ vzz.toInt ∧ vzz.toInt ≤ 1000000000) ∨ (zzz = -9000000000000000000 ∧ ¬ (-1000000000 ≤ vzz.toInt ∧ vzz.toInt ≤ 1000000000)) := by
  unfold bk_X3_joined_164 bk_X3_joined_182 at hzz
  by_cases czz : (0 : Int32) < lg_cmp vzz (1000000000 : Int64)
  · have d := cvl_gt (a := vzz.toInt) (b := 1000000000) rfl (by decide) czz
    exact Or.inr ⟨(Option.some.inj (z_t hzz czz)).symm, by omega⟩
  · have hzz := z_f hzz czz
    have d := cvl_ngt (a := vzz.toInt) (b := 1000000000) rfl (by decide) czz
    by_cases c2zz : (0 : Int32) ≤ lg_cmp vzz (-1000000000 : Int64)
    · have d2zz := cvl_ge (a := vzz.toInt) (b := -1000000000) rfl (by decide) c2zz
      exact Or.inl ⟨(Option.some.inj (z_t hzz c2zz)).symm, d2zz, d⟩
    · have d2zz := cvl_nge (a := vzz.toInt) (b := -1000000000) rfl (by decide) c2zz
      exact Or.inr ⟨(Option.some.inj (z_f hzz c2zz)).symm, by omega⟩
set_option maxHeartbeats 200000 in
theorem brk_out : ¬ (-1000000000 ≤ (-9000000000000000000 : Int64).toInt ∧ (-9000000000000000000 : Int64).toInt ≤ 1000000000) := by decide
/-- the reference's sum, and whether it is broken -/
def RK (o : Ob) (wzz : Int64 × Ob) (zzz : Int64) : Prop := (∀ izz, izz ≠ 38 → gI wzz.2 izz = gI o izz) ∧ wzz.2.2 = o.2 ∧ ((zzz = -9000000000000000000 ∧ ((gI wzz.2 38 = 1) ∨ (gI wzz.2 38 = 0 ∧ ¬ (-1000000000 ≤ wzz.1.toInt ∧ wzz.1.toInt ≤ 1000000000)))) ∨ (zzz = wzz.1 ∧ gI wzz.2 38 = 0 ∧ -1000000000 ≤ wzz.1.toInt ∧ wzz.1.toInt ≤ 1000000000))
set_option maxHeartbeats 200000 in
theorem rk_of {o : Ob} {vzz zzz : Int64} (hbzz : gI o 38 = 0) (hzz : bk_X3_joined_164 vzz = some zzz) : RK o (vzz, o) zzz := by
  refine ⟨fun _ _ => rfl, rfl, ?_⟩
  rcases lim8 hzz with ⟨azz, bzz, czz⟩ | ⟨azz, bzz⟩
  · exact Or.inr ⟨azz, hbzz, bzz, czz⟩
  · exact Or.inl ⟨azz, Or.inr ⟨hbzz, bzz⟩⟩
set_option maxHeartbeats 200000 in
theorem rk_div {o : Ob} {vzz zzz : Int64} (hzz : bk_X3_joined_164 vzz = some zzz) : RK o (vzz, sI o 38 0) zzz := by
  refine ⟨fun izz hizz => fset_ne hizz, rfl, ?_⟩
  rcases lim8 hzz with ⟨azz, bzz, czz⟩ | ⟨azz, bzz⟩
  · exact Or.inr ⟨azz, rfl, bzz, czz⟩
  · exact Or.inl ⟨azz, Or.inr ⟨rfl, bzz⟩⟩
set_option maxHeartbeats 200000 in
theorem rk_div0 {o : Ob} {zzz vzz : Int64} (hzz : bk_X3_joined_164 (-9000000000000000000) = some zzz) : RK o (vzz, sI o 38 1) zzz := by
  refine ⟨fun izz hizz => fset_ne hizz, rfl, ?_⟩
  rcases lim8 hzz with ⟨azz, bzz⟩ | ⟨azz, bzz⟩
  · exact absurd bzz brk_out
  · exact Or.inl ⟨azz, Or.inl rfl⟩
set_option maxHeartbeats 200000 in
theorem join_eq {o : Ob} {s pzz : Int32} {l rzz zzz : Int64} {wzz : Int64 × Ob} (hbzz : gI o 38 = 0) (hop : opB s pzz ∨ opC s pzz) (h1 : f_X3_joined s l rzz = some zzz) (h2 : f_X9_reckon o pzz l rzz = some wzz) : RK o wzz zzz ∧ (opC s pzz → zzz = 0 ∨ zzz = 1) := by
  have smallzz : ∀ vzz : Int64, (vzz = 0 ∨ vzz = 1) → bk_X3_joined_164 vzz = some zzz → zzz = vzz := by
    intro vzz hv hzz
    rcases lim8 hzz with ⟨azz, -⟩ | ⟨-, bzz⟩
    · exact azz
    · rcases hv with ezz | ezz
      · rw [ezz] at bzz; exact absurd bzz (by decide)
      · rw [ezz] at bzz; exact absurd bzz (by decide)
  unfold f_X3_joined at h1
  unfold f_X9_reckon at h2
  rcases hop with (⟨e1zz, e2zz⟩ | ⟨e1zz, e2zz⟩ | ⟨e1zz, e2zz⟩ | ⟨e1zz, e2zz⟩ | ⟨e1zz, e2zz⟩) | (⟨e1zz, e2zz⟩ | ⟨e1zz, e2zz⟩ | ⟨e1zz, e2zz⟩)
  · subst e1zz; subst e2zz
    rw [← Option.some.inj (z_t h2 rfl)]
    exact ⟨rk_of hbzz (z_t h1 rfl), fun qzz => absurd qzz (by unfold opC; decide)⟩
  · subst e1zz; subst e2zz
    have h1 := z_f h1 (by decide)
    have h2 := z_f h2 (by decide)
    rw [← Option.some.inj (z_t h2 rfl)]
    exact ⟨rk_of hbzz (z_t h1 rfl), fun qzz => absurd qzz (by unfold opC; decide)⟩
  · subst e1zz; subst e2zz
    have h1 := z_f (z_f h1 (by decide)) (by decide)
    have h2 := z_f (z_f h2 (by decide)) (by decide)
    rw [← Option.some.inj (z_t h2 rfl)]
    exact ⟨rk_of hbzz (z_t h1 rfl), fun qzz => absurd qzz (by unfold opC; decide)⟩
  · subst e1zz; subst e2zz
    have h1 := z_t (z_f (z_f (z_f h1 (by decide)) (by decide)) (by decide)) rfl
    have h2 := z_t (z_f (z_f (z_f h2 (by decide)) (by decide)) (by decide)) rfl
    refine ⟨?_, fun qzz => absurd qzz (by unfold opC; decide)⟩
    by_cases czz : lg_cmp rzz (0 : Int64) = 0
    · have h1 := z_t h1 czz
      have h2 := z_t h2 czz
      unfold bk_X9_reckon_72 at h2
      obtain ⟨-, h2⟩ := z_gd h2
      obtain ⟨o3zz, e3zz, h2⟩ := z_lt h2
      have h2 := z_f h2 (by rw [e3zz]; exact (by decide : ¬ (1 : Int32) = 0))
      rw [← Option.some.inj h2, e3zz]
      exact rk_div0 h1
    · have h1 := z_f h1 czz
      have h2 := z_f h2 czz
      obtain ⟨-, h1⟩ := z_gd h1
      unfold bk_X9_reckon_72 at h2
      obtain ⟨-, h2⟩ := z_gd h2
      obtain ⟨o3zz, e3zz, h2⟩ := z_lt h2
      obtain ⟨-, h2⟩ := z_gd (z_t h2 (by rw [e3zz]; rfl))
      rw [← Option.some.inj h2, e3zz]
      exact rk_div h1
  · subst e1zz; subst e2zz
    have h1 := z_t (z_f (z_f (z_f (z_f h1 (by decide)) (by decide)) (by decide)) (by decide)) rfl
    have h2 := z_t (z_f (z_f (z_f (z_f h2 (by decide)) (by decide)) (by decide)) (by decide)) rfl
    refine ⟨?_, fun qzz => absurd qzz (by unfold opC; decide)⟩
    by_cases czz : lg_cmp rzz (0 : Int64) = 0
    · have h1 := z_t h1 czz
      have h2 := z_t h2 czz
      unfold bk_X9_reckon_104 at h2
      obtain ⟨-, h2⟩ := z_gd h2
      obtain ⟨o3zz, e3zz, h2⟩ := z_lt h2
      have h2 := z_f h2 (by rw [e3zz]; exact (by decide : ¬ (1 : Int32) = 0))
      rw [← Option.some.inj h2, e3zz]
      exact rk_div0 h1
    · have h1 := z_f h1 czz
      have h2 := z_f h2 czz
      obtain ⟨-, h1⟩ := z_gd h1
      unfold bk_X9_reckon_104 at h2
      obtain ⟨-, h2⟩ := z_gd h2
      obtain ⟨o3zz, e3zz, h2⟩ := z_lt h2
      obtain ⟨-, h2⟩ := z_gd (z_t h2 (by rw [e3zz]; rfl))
      rw [← Option.some.inj h2, e3zz]
      exact rk_div h1
  · subst e1zz; subst e2zz
    have h1 := z_t (z_f (z_f (z_f (z_f (z_f h1 (by decide)) (by decide)) (by decide)) (by decide)) (by decide)) rfl
    have h2 := z_t (z_f (z_f (z_f (z_f (z_f h2 (by decide)) (by decide)) (by decide)) (by decide)) (by decide)) rfl
    by_cases czz : (0 : Int32) ≤ lg_cmp l rzz
    · have h1 := z_t h1 czz
      rw [← Option.some.inj (z_t h2 czz)]
      exact ⟨rk_of hbzz h1, fun _ => Or.inl (smallzz 0 (Or.inl rfl) h1)⟩
    · have h1 := z_f h1 czz
      rw [← Option.some.inj (z_f h2 czz)]
      exact ⟨rk_of hbzz h1, fun _ => Or.inr (smallzz 1 (Or.inr rfl) h1)⟩
  · subst e1zz; subst e2zz
    have h1 := z_t (z_f (z_f (z_f (z_f (z_f (z_f h1 (by decide)) (by decide)) (by decide)) (by decide)) (by decide)) (by decide)) rfl
    have h2 := z_t (z_f (z_f (z_f (z_f (z_f (z_f h2 (by decide)) (by decide)) (by decide)) (by decide)) (by decide)) (by decide)) rfl
    by_cases czz : lg_cmp l rzz ≤ (0 : Int32)
    · have h1 := z_t h1 czz
      rw [← Option.some.inj (z_t h2 czz)]
      exact ⟨rk_of hbzz h1, fun _ => Or.inl (smallzz 0 (Or.inl rfl) h1)⟩
    · have h1 := z_f h1 czz
      rw [← Option.some.inj (z_f h2 czz)]
      exact ⟨rk_of hbzz h1, fun _ => Or.inr (smallzz 1 (Or.inr rfl) h1)⟩
  · subst e1zz; subst e2zz
    have h1 := z_t (z_f (z_f (z_f (z_f (z_f (z_f (z_f h1 (by decide)) (by decide)) (by decide)) (by decide)) (by decide)) (by decide)) (by decide)) rfl
    have h2 := z_f (z_f (z_f (z_f (z_f (z_f (z_f h2 (by decide)) (by decide)) (by decide)) (by decide)) (by decide)) (by decide)) (by decide)
    by_cases czz : lg_cmp l rzz = (0 : Int32)
    · have h1 := z_t h1 czz
      rw [← Option.some.inj (z_t h2 czz)]
      exact ⟨rk_of hbzz h1, fun _ => Or.inr (smallzz 1 (Or.inr rfl) h1)⟩
    · have h1 := z_f h1 czz
      rw [← Option.some.inj (z_f h2 czz)]
      exact ⟨rk_of hbzz h1, fun _ => Or.inl (smallzz 0 (Or.inl rfl) h1)⟩
