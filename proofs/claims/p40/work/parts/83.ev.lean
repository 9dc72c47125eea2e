def WD (od : Bool) (wzz op arg : Int32) : Prop :=
  (∃ kzz : Nat, (kzz < 5 ∨ (od = false ∧ kzz < 9)) ∧ wzz.toInt = (kzz : Int) ∧ op.toInt = (kzz : Int) + 1) ∨
  (od = true ∧ ∃ pzz : Nat, pzz < 7 ∧ arg.toInt = (pzz : Int) ∧ ((wzz.toInt = 5 + (pzz : Int) ∧ op.toInt = 6) ∨ (wzz.toInt = 12 + (pzz : Int) ∧ op.toInt = 7)))
def opB (s pzz : Int32) : Prop := (s = 5 ∧ pzz = 20) ∨ (s = 6 ∧ pzz = 21) ∨ (s = 7 ∧ pzz = 22) ∨ (s = 8 ∧ pzz = 23) ∨ (s = 9 ∧ pzz = 24)
def opC (s pzz : Int32) : Prop := (s = 10 ∧ pzz = 25) ∨ (s = 11 ∧ pzz = 26) ∨ (s = 12 ∧ pzz = 27)
def opA (s pzz : Int32) : Prop := (s = 3 ∧ pzz = 29) ∨ (s = 4 ∧ pzz = 30)
def SxC (od : Bool) (s1zz w1zz s2zz w2zz : Nat → Int32) (Qzz : Bool → Nat → Nat → Nat → Nat → Nat → Prop) : Prop :=
  (∀ a1zz a2, s1zz a1zz = 0 → s2zz a2 = 0 → w1zz a1zz = w2zz a2 → Qzz false a1zz (a1zz + 1) a2 (a2 + 1) 1) ∧
  (∀ a1zz a2, s1zz a1zz = 1 → WD od (w1zz a1zz) (s2zz a2) (w2zz a2) → Qzz false a1zz (a1zz + 1) a2 (a2 + 1) 1) ∧
  (∀ a1zz m1zz b1 a2 m2zz b2 n n', Qzz false a1zz m1zz a2 m2zz n → Qzz false m1zz b1 m2zz b2 n' → opB (s1zz b1) (s2zz b2) → Qzz false a1zz (b1 + 1) a2 (b2 + 1) (n + n')) ∧
  (∀ a1zz m1zz b1 a2 m2zz b2 n n', Qzz false a1zz m1zz a2 m2zz n → Qzz false m1zz b1 m2zz b2 n' → opC (s1zz b1) (s2zz b2) → Qzz true a1zz (b1 + 1) a2 (b2 + 1) (n + n')) ∧
  (∀ a1zz m1zz b1 a2 m2zz b2 n n', Qzz true a1zz m1zz a2 m2zz n → Qzz true (m1zz + 1) b1 (m2zz + 1) b2 n' → opA (s1zz m1zz) (s2zz m2zz) → (w1zz m1zz).toInt = (b1 : Int) → (w2zz m2zz).toInt = (b2 : Int) → Qzz true a1zz b1 a2 b2 (n + n')) ∧
  (∀ a1zz b1 a2 b2 n, Qzz true a1zz b1 a2 b2 n → s1zz b1 = 2 → s2zz b2 = 28 → Qzz true a1zz (b1 + 1) a2 (b2 + 1) n) ∧
  (∀ a1zz b1 a2 b2 n, Qzz true a1zz b1 a2 b2 n → s2zz b2 = 28 → s2zz (b2 + 1) = 28 → Qzz true a1zz b1 a2 (b2 + 2) n)
def Sx (od : Bool) (s1zz w1zz s2zz w2zz : Nat → Int32) (t : Bool) (a1zz b1 a2 b2 n : Nat) : Prop := ∀ Qzz : Bool → Nat → Nat → Nat → Nat → Nat → Prop, SxC od s1zz w1zz s2zz w2zz Qzz → Qzz t a1zz b1 a2 b2 n
set_option maxHeartbeats 200000 in
theorem Sx.cl (od : Bool) (s1zz w1zz s2zz w2zz : Nat → Int32) : SxC od s1zz w1zz s2zz w2zz (Sx od s1zz w1zz s2zz w2zz) :=
  ⟨fun a1zz a2 h1 h2 h3 Qzz hQ => hQ.1 a1zz a2 h1 h2 h3,
   fun a1zz a2 h1 h2 Qzz hQ => hQ.2.1 a1zz a2 h1 h2,
   fun a1zz m1zz b1 a2 m2zz b2 n n' h1 h2 h3 Qzz hQ => hQ.2.2.1 a1zz m1zz b1 a2 m2zz b2 n n' (h1 Qzz hQ) (h2 Qzz hQ) h3,
   fun a1zz m1zz b1 a2 m2zz b2 n n' h1 h2 h3 Qzz hQ => hQ.2.2.2.1 a1zz m1zz b1 a2 m2zz b2 n n' (h1 Qzz hQ) (h2 Qzz hQ) h3,
   fun a1zz m1zz b1 a2 m2zz b2 n n' h1 h2 h3 h4 h5 Qzz hQ => hQ.2.2.2.2.1 a1zz m1zz b1 a2 m2zz b2 n n' (h1 Qzz hQ) (h2 Qzz hQ) h3 h4 h5,
   fun a1zz b1 a2 b2 n h1 h2 h3 Qzz hQ => hQ.2.2.2.2.2.1 a1zz b1 a2 b2 n (h1 Qzz hQ) h2 h3,
   fun a1zz b1 a2 b2 n h1 h2 h3 Qzz hQ => hQ.2.2.2.2.2.2 a1zz b1 a2 b2 n (h1 Qzz hQ) h2 h3⟩
set_option maxHeartbeats 200000 in
theorem Sx.lt {od : Bool} {s1zz w1zz s2zz w2zz : Nat → Int32} {t : Bool} {a1zz b1 a2 b2 n : Nat} (hzz : Sx od s1zz w1zz s2zz w2zz t a1zz b1 a2 b2 n) : a1zz < b1 ∧ a2 < b2 ∧ 1 ≤ n := by
  refine hzz (fun _ a1zz b1 a2 b2 n => a1zz < b1 ∧ a2 < b2 ∧ 1 ≤ n) ⟨?_, ?_, ?_, ?_, ?_, ?_, ?_⟩
  · intro a1zz a2 _ _ _; exact ⟨by omega, by omega, by omega⟩
  · intro a1zz a2 _ _; exact ⟨by omega, by omega, by omega⟩
  · intro a1zz m1zz b1 a2 m2zz b2 n n' h1 h2 _; exact ⟨by omega, by omega, by omega⟩
  · intro a1zz m1zz b1 a2 m2zz b2 n n' h1 h2 _; exact ⟨by omega, by omega, by omega⟩
  · intro a1zz m1zz b1 a2 m2zz b2 n n' h1 h2 _ _ _; exact ⟨by omega, by omega, by omega⟩
  · intro a1zz b1 a2 b2 n h1 _ _; exact ⟨by omega, by omega, h1.2.2⟩
  · intro a1zz b1 a2 b2 n h1 _ _; exact ⟨by omega, by omega, h1.2.2⟩
set_option maxHeartbeats 200000 in
theorem Sx.eq {od : Bool} {s1zz w1zz s2zz w2zz s1' w1' s2' w2' : Nat → Int32} {t : Bool} {a1zz b1 a2 b2 n : Nat} (hzz : Sx od s1zz w1zz s2zz w2zz t a1zz b1 a2 b2 n) (e1zz : ∀ jzz, a1zz ≤ jzz → jzz < b1 → s1' jzz = s1zz jzz ∧ w1' jzz = w1zz jzz) (e2zz : ∀ jzz, a2 ≤ jzz → jzz < b2 → s2' jzz = s2zz jzz ∧ w2' jzz = w2zz jzz) : Sx od s1' w1' s2' w2' t a1zz b1 a2 b2 n := by
  have cl := Sx.cl od s1' w1' s2' w2'
  have gzz := hzz (fun t a1zz b1 a2 b2 n => (a1zz < b1 ∧ a2 < b2) ∧ ((∀ jzz, a1zz ≤ jzz → jzz < b1 → s1' jzz = s1zz jzz ∧ w1' jzz = w1zz jzz) → (∀ jzz, a2 ≤ jzz → jzz < b2 → s2' jzz = s2zz jzz ∧ w2' jzz = w2zz jzz) → Sx od s1' w1' s2' w2' t a1zz b1 a2 b2 n)) ⟨?_, ?_, ?_, ?_, ?_, ?_, ?_⟩
  · exact gzz.2 e1zz e2zz
  · intro a1zz a2 q1zz q2zz q3zz
    refine ⟨⟨by omega, by omega⟩, fun g1 g2 => ?_⟩
    have uzz := g1 a1zz (by omega) (by omega)
    have vzz := g2 a2 (by omega) (by omega)
    exact cl.1 a1zz a2 (by rw [uzz.1]; exact q1zz) (by rw [vzz.1]; exact q2zz) (by rw [uzz.2, vzz.2]; exact q3zz)
  · intro a1zz a2 q1zz q2zz
    refine ⟨⟨by omega, by omega⟩, fun g1 g2 => ?_⟩
    have uzz := g1 a1zz (by omega) (by omega)
    have vzz := g2 a2 (by omega) (by omega)
    exact cl.2.1 a1zz a2 (by rw [uzz.1]; exact q1zz) (by rw [uzz.2, vzz.1, vzz.2]; exact q2zz)
  · intro a1zz m1zz b1 a2 m2zz b2 n n' q1zz q2zz q3zz
    refine ⟨⟨by omega, by omega⟩, fun g1 g2 => ?_⟩
    have uzz := g1 b1 (by omega) (by omega)
    have vzz := g2 b2 (by omega) (by omega)
    exact cl.2.2.1 a1zz m1zz b1 a2 m2zz b2 n n' (q1zz.2 (fun jzz i1zz i2zz => g1 jzz i1zz (by omega)) (fun jzz i1zz i2zz => g2 jzz i1zz (by omega))) (q2zz.2 (fun jzz i1zz i2zz => g1 jzz (by omega) (by omega)) (fun jzz i1zz i2zz => g2 jzz (by omega) (by omega))) (by rw [uzz.1, vzz.1]; exact q3zz)
  · intro a1zz m1zz b1 a2 m2zz b2 n n' q1zz q2zz q3zz
    refine ⟨⟨by omega, by omega⟩, fun g1 g2 => ?_⟩
    have uzz := g1 b1 (by omega) (by omega)
    have vzz := g2 b2 (by omega) (by omega)
    exact cl.2.2.2.1 a1zz m1zz b1 a2 m2zz b2 n n' (q1zz.2 (fun jzz i1zz i2zz => g1 jzz i1zz (by omega)) (fun jzz i1zz i2zz => g2 jzz i1zz (by omega))) (q2zz.2 (fun jzz i1zz i2zz => g1 jzz (by omega) (by omega)) (fun jzz i1zz i2zz => g2 jzz (by omega) (by omega))) (by rw [uzz.1, vzz.1]; exact q3zz)
  · intro a1zz m1zz b1 a2 m2zz b2 n n' q1zz q2zz q3zz q4zz q5zz
    refine ⟨⟨by omega, by omega⟩, fun g1 g2 => ?_⟩
    have uzz := g1 m1zz (by omega) (by omega)
    have vzz := g2 m2zz (by omega) (by omega)
    exact cl.2.2.2.2.1 a1zz m1zz b1 a2 m2zz b2 n n' (q1zz.2 (fun jzz i1zz i2zz => g1 jzz i1zz (by omega)) (fun jzz i1zz i2zz => g2 jzz i1zz (by omega))) (q2zz.2 (fun jzz i1zz i2zz => g1 jzz (by omega) (by omega)) (fun jzz i1zz i2zz => g2 jzz (by omega) (by omega))) (by rw [uzz.1, vzz.1]; exact q3zz) (by rw [uzz.2]; exact q4zz) (by rw [vzz.2]; exact q5zz)
  · intro a1zz b1 a2 b2 n q1zz q2zz q3zz
    refine ⟨⟨by omega, by omega⟩, fun g1 g2 => ?_⟩
    have uzz := g1 b1 (by omega) (by omega)
    have vzz := g2 b2 (by omega) (by omega)
    exact cl.2.2.2.2.2.1 a1zz b1 a2 b2 n (q1zz.2 (fun jzz i1zz i2zz => g1 jzz i1zz (by omega)) (fun jzz i1zz i2zz => g2 jzz i1zz (by omega))) (by rw [uzz.1]; exact q2zz) (by rw [vzz.1]; exact q3zz)
  · intro a1zz b1 a2 b2 n q1zz q2zz q3zz
    refine ⟨⟨by omega, by omega⟩, fun g1 g2 => ?_⟩
    have vzz := g2 b2 (by omega) (by omega)
    have v' := g2 (b2 + 1) (by omega) (by omega)
    exact cl.2.2.2.2.2.2 a1zz b1 a2 b2 n (q1zz.2 (fun jzz i1zz i2zz => g1 jzz i1zz i2zz) (fun jzz i1zz i2zz => g2 jzz i1zz (by omega))) (by rw [vzz.1]; exact q2zz) (by rw [v'.1]; exact q3zz)
set_option maxHeartbeats 200000 in
theorem lim8 {vzz zzz : Int64} (hzz : bk_X3_joined_164 vzz = some zzz) : (zzz = vzz ∧ -1000000000 ≤ vzz.toInt ∧ vzz.toInt ≤ 1000000000) ∨ (zzz = -9000000000000000000 ∧ ¬ (-1000000000 ≤ vzz.toInt ∧ vzz.toInt ≤ 1000000000)) := by
  unfold bk_X3_joined_164 bk_X3_joined_182 at hzz
  by_cases czz : (0 : Int32) < lg_cmp vzz (1000000000 : Int64)
  · have d := cvl_gt (a := vzz.toInt) (b := 1000000000) rfl (by decide) czz
    exact Or.inr ⟨(Option.some.inj (z_t hzz czz)).symm, by omega⟩
  · have hzz := z_f hzz czz
    have d := cvl_ngt (a := vzz.toInt) (b := 1000000000) rfl (by decide) czz
    by_cases c2zz : (0 : Int32) ≤ lg_cmp vzz (-1000000000 : Int64)
    · have d2zz := cvl_ge (a := vzz.toInt) (b := -1000000000) rfl (by decide) c2zz
      exact Or.inl ⟨(Option.some.inj (z_t hzz c2zz)).symm, d2zz, d⟩
    · have d2zz := cvl_nge (a := vzz.toInt) (b := -1000000000) rfl (by decide) c2zz
      exact Or.inr ⟨(Option.some.inj (z_f hzz c2zz)).symm, by omega⟩
set_option maxHeartbeats 200000 in
theorem brk_out : ¬ (-1000000000 ≤ (-9000000000000000000 : Int64).toInt ∧ (-9000000000000000000 : Int64).toInt ≤ 1000000000) := by decide
def RK (o : Ob) (wzz : Int64 × Ob) (zzz : Int64) : Prop := (∀ izz, izz ≠ 38 → gI wzz.2 izz = gI o izz) ∧ wzz.2.2 = o.2 ∧ ((zzz = -9000000000000000000 ∧ ((gI wzz.2 38 = 1) ∨ (gI wzz.2 38 = 0 ∧ ¬ (-1000000000 ≤ wzz.1.toInt ∧ wzz.1.toInt ≤ 1000000000)))) ∨ (zzz = wzz.1 ∧ gI wzz.2 38 = 0 ∧ -1000000000 ≤ wzz.1.toInt ∧ wzz.1.toInt ≤ 1000000000))
set_option maxHeartbeats 200000 in
theorem rk_of {o : Ob} {vzz zzz : Int64} (hbzz : gI o 38 = 0) (hzz : bk_X3_joined_164 vzz = some zzz) : RK o (vzz, o) zzz := by
  refine ⟨fun _ _ => rfl, rfl, ?_⟩
  rcases lim8 hzz with ⟨azz, bzz, czz⟩ | ⟨azz, bzz⟩
  · exact Or.inr ⟨azz, hbzz, bzz, czz⟩
  · exact Or.inl ⟨azz, Or.inr ⟨hbzz, bzz⟩⟩
set_option maxHeartbeats 200000 in
theorem rk_div {o : Ob} {vzz zzz : Int64} (hzz : bk_X3_joined_164 vzz = some zzz) : RK o (vzz, sI o 38 0) zzz := by
  refine ⟨fun izz hizz => fset_ne hizz, rfl, ?_⟩
  rcases lim8 hzz with ⟨azz, bzz, czz⟩ | ⟨azz, bzz⟩
  · exact Or.inr ⟨azz, rfl, bzz, czz⟩
  · exact Or.inl ⟨azz, Or.inr ⟨rfl, bzz⟩⟩
set_option maxHeartbeats 200000 in
theorem rk_div0 {o : Ob} {zzz vzz : Int64} (hzz : bk_X3_joined_164 (-9000000000000000000) = some zzz) : RK o (vzz, sI o 38 1) zzz := by
  refine ⟨fun izz hizz => fset_ne hizz, rfl, ?_⟩
  rcases lim8 hzz with ⟨azz, bzz⟩ | ⟨azz, bzz⟩
  · exact absurd bzz brk_out
  · exact Or.inl ⟨azz, Or.inl rfl⟩
set_option maxHeartbeats 200000 in
theorem join_eq {o : Ob} {s pzz : Int32} {l rzz zzz : Int64} {wzz : Int64 × Ob} (hbzz : gI o 38 = 0) (hop : opB s pzz ∨ opC s pzz) (h1 : f_X3_joined s l rzz = some zzz) (h2 : f_X9_reckon o pzz l rzz = some wzz) : RK o wzz zzz ∧ (opC s pzz → zzz = 0 ∨ zzz = 1) := by
  have smallzz : ∀ vzz : Int64, (vzz = 0 ∨ vzz = 1) → bk_X3_joined_164 vzz = some zzz → zzz = vzz := by
    intro vzz hv hzz
    rcases lim8 hzz with ⟨azz, -⟩ | ⟨-, bzz⟩
    · exact azz
    · rcases hv with ezz | ezz
      · rw [ezz] at bzz; exact absurd bzz (by decide)
      · rw [ezz] at bzz; exact absurd bzz (by decide)
  unfold f_X3_joined at h1
  unfold f_X9_reckon at h2
  rcases hop with (⟨e1zz, e2zz⟩ | ⟨e1zz, e2zz⟩ | ⟨e1zz, e2zz⟩ | ⟨e1zz, e2zz⟩ | ⟨e1zz, e2zz⟩) | (⟨e1zz, e2zz⟩ | ⟨e1zz, e2zz⟩ | ⟨e1zz, e2zz⟩)
  · subst e1zz; subst e2zz
    rw [← Option.some.inj (z_t h2 rfl)]
    exact ⟨rk_of hbzz (z_t h1 rfl), fun qzz => absurd qzz (by unfold opC; decide)⟩
  · subst e1zz; subst e2zz
    have h1 := z_f h1 (by decide)
    have h2 := z_f h2 (by decide)
    rw [← Option.some.inj (z_t h2 rfl)]
    exact ⟨rk_of hbzz (z_t h1 rfl), fun qzz => absurd qzz (by unfold opC; decide)⟩
  · subst e1zz; subst e2zz
    have h1 := z_f (z_f h1 (by decide)) (by decide)
    have h2 := z_f (z_f h2 (by decide)) (by decide)
    rw [← Option.some.inj (z_t h2 rfl)]
    exact ⟨rk_of hbzz (z_t h1 rfl), fun qzz => absurd qzz (by unfold opC; decide)⟩
  · subst e1zz; subst e2zz
    have h1 := z_t (z_f (z_f (z_f h1 (by decide)) (by decide)) (by decide)) rfl
    have h2 := z_t (z_f (z_f (z_f h2 (by decide)) (by decide)) (by decide)) rfl
    refine ⟨?_, fun qzz => absurd qzz (by unfold opC; decide)⟩
    by_cases czz : lg_cmp rzz (0 : Int64) = 0
    · have h1 := z_t h1 czz
      have h2 := z_t h2 czz
      unfold bk_X9_reckon_72 at h2
      obtain ⟨-, h2⟩ := z_gd h2
      obtain ⟨o3zz, e3zz, h2⟩ := z_lt h2
      have h2 := z_f h2 (by rw [e3zz]; exact (by decide : ¬ (1 : Int32) = 0))
      rw [← Option.some.inj h2, e3zz]
      exact rk_div0 h1
    · have h1 := z_f h1 czz
      have h2 := z_f h2 czz
      obtain ⟨-, h1⟩ := z_gd h1
      unfold bk_X9_reckon_72 at h2
      obtain ⟨-, h2⟩ := z_gd h2
      obtain ⟨o3zz, e3zz, h2⟩ := z_lt h2
      obtain ⟨-, h2⟩ := z_gd (z_t h2 (by rw [e3zz]; rfl))
      rw [← Option.some.inj h2, e3zz]
      exact rk_div h1
  · subst e1zz; subst e2zz
    have h1 := z_t (z_f (z_f (z_f (z_f h1 (by decide)) (by decide)) (by decide)) (by decide)) rfl
    have h2 := z_t (z_f (z_f (z_f (z_f h2 (by decide)) (by decide)) (by decide)) (by decide)) rfl
    refine ⟨?_, fun qzz => absurd qzz (by unfold opC; decide)⟩
    by_cases czz : lg_cmp rzz (0 : Int64) = 0
    · have h1 := z_t h1 czz
      have h2 := z_t h2 czz
      unfold bk_X9_reckon_104 at h2
      obtain ⟨-, h2⟩ := z_gd h2
      obtain ⟨o3zz, e3zz, h2⟩ := z_lt h2
      have h2 := z_f h2 (by rw [e3zz]; exact (by decide : ¬ (1 : Int32) = 0))
      rw [← Option.some.inj h2, e3zz]
      exact rk_div0 h1
    · have h1 := z_f h1 czz
      have h2 := z_f h2 czz
      obtain ⟨-, h1⟩ := z_gd h1
      unfold bk_X9_reckon_104 at h2
      obtain ⟨-, h2⟩ := z_gd h2
      obtain ⟨o3zz, e3zz, h2⟩ := z_lt h2
      obtain ⟨-, h2⟩ := z_gd (z_t h2 (by rw [e3zz]; rfl))
      rw [← Option.some.inj h2, e3zz]
      exact rk_div h1
  · subst e1zz; subst e2zz
    have h1 := z_t (z_f (z_f (z_f (z_f (z_f h1 (by decide)) (by decide)) (by decide)) (by decide)) (by decide)) rfl
    have h2 := z_t (z_f (z_f (z_f (z_f (z_f h2 (by decide)) (by decide)) (by decide)) (by decide)) (by decide)) rfl
    by_cases czz : (0 : Int32) ≤ lg_cmp l rzz
    · have h1 := z_t h1 czz
      rw [← Option.some.inj (z_t h2 czz)]
      exact ⟨rk_of hbzz h1, fun _ => Or.inl (smallzz 0 (Or.inl rfl) h1)⟩
    · have h1 := z_f h1 czz
      rw [← Option.some.inj (z_f h2 czz)]
      exact ⟨rk_of hbzz h1, fun _ => Or.inr (smallzz 1 (Or.inr rfl) h1)⟩
  · subst e1zz; subst e2zz
    have h1 := z_t (z_f (z_f (z_f (z_f (z_f (z_f h1 (by decide)) (by decide)) (by decide)) (by decide)) (by decide)) (by decide)) rfl
    have h2 := z_t (z_f (z_f (z_f (z_f (z_f (z_f h2 (by decide)) (by decide)) (by decide)) (by decide)) (by decide)) (by decide)) rfl
    by_cases czz : lg_cmp l rzz ≤ (0 : Int32)
    · have h1 := z_t h1 czz
      rw [← Option.some.inj (z_t h2 czz)]
      exact ⟨rk_of hbzz h1, fun _ => Or.inl (smallzz 0 (Or.inl rfl) h1)⟩
    · have h1 := z_f h1 czz
      rw [← Option.some.inj (z_f h2 czz)]
      exact ⟨rk_of hbzz h1, fun _ => Or.inr (smallzz 1 (Or.inr rfl) h1)⟩
  · subst e1zz; subst e2zz
    have h1 := z_t (z_f (z_f (z_f (z_f (z_f (z_f (z_f h1 (by decide)) (by decide)) (by decide)) (by decide)) (by decide)) (by decide)) (by decide)) rfl
    have h2 := z_f (z_f (z_f (z_f (z_f (z_f (z_f h2 (by decide)) (by decide)) (by decide)) (by decide)) (by decide)) (by decide)) (by decide)
    by_cases czz : lg_cmp l rzz = (0 : Int32)
    · have h1 := z_t h1 czz
      rw [← Option.some.inj (z_t h2 czz)]
      exact ⟨rk_of hbzz h1, fun _ => Or.inr (smallzz 1 (Or.inr rfl) h1)⟩
    · have h1 := z_f h1 czz
      rw [← Option.some.inj (z_f h2 czz)]
      exact ⟨rk_of hbzz h1, fun _ => Or.inl (smallzz 0 (Or.inl rfl) h1)⟩
set_option maxHeartbeats 200000 in
theorem m37_at {o : Ob} {jzz izz : Nat} {vzz : Int64} : gM (tM o 37 jzz vzz) 37 izz = if izz = jzz then vzz else gM o 37 izz := rfl
set_option maxHeartbeats 200000 in
theorem m1_at {o : Ob} {jzz izz : Nat} {vzz : Int64} : gM (tM o 1 jzz vzz) 1 izz = if izz = jzz then vzz else gM o 1 izz := rfl
def SR (o o' : Ob) : Prop := o'.2.2.1 = o.2.2.1 ∧ (∀ izz, izz ≠ 38 → gI o' izz = gI o izz) ∧ (∀ izz, izz ≠ 37 → gM o' izz = gM o izz)
set_option maxHeartbeats 200000 in
theorem SR.rf {o : Ob} : SR o o := ⟨rfl, fun _ _ => rfl, fun _ _ => rfl⟩
set_option maxHeartbeats 200000 in
theorem SR.tr {o o' o'' : Ob} (hzz : SR o o') (h' : SR o' o'') : SR o o'' := ⟨h'.1.trans hzz.1, fun izz hizz => (h'.2.1 izz hizz).trans (hzz.2.1 izz hizz), fun izz hizz => (h'.2.2 izz hizz).trans (hzz.2.2 izz hizz)⟩
set_option maxHeartbeats 200000 in
theorem SR.gA {o o' : Ob} (hzz : SR o o') (izz : Nat) : gA o' izz = gA o izz := congrFun hzz.1 izz
set_option maxHeartbeats 200000 in
theorem SR.tM {o : Ob} {jzz : Nat} {vzz : Int64} : SR o (tM o 37 jzz vzz) := ⟨rfl, fun _ _ => rfl, fun izz hizz => fset_ne (f := fun izz => gM o izz) hizz⟩
set_option maxHeartbeats 200000 in
theorem SR.sI {o : Ob} {vzz : Int32} : SR o (sI o 38 vzz) := ⟨rfl, fun _ hizz => fset_ne hizz, fun _ _ => rfl⟩
set_option maxHeartbeats 200000 in
theorem RD.sr {s2zz w2zz : Nat → Int32} {o o' : Ob} (hzz : RD s2zz w2zz o) (ezz : SR o o') : RD s2zz w2zz o' := by
  have e20 := ezz.2.1 20 (by decide)
  have e34 := ezz.2.1 34 (by decide)
  rcases hzz with ⟨azz, l, hl, bzz, czz⟩ | ⟨azz, bzz⟩
  · exact Or.inl ⟨by rw [e20]; exact azz, l, hl, by rw [e34]; exact bzz, fun kzz => by rw [ezz.gA 3]; exact czz kzz⟩
  · exact Or.inr ⟨by rw [e20]; exact azz, fun kzz => by rw [ezz.gA 24, ezz.gA 25]; exact bzz kzz⟩
def EWo (od : Bool) (mezz o : Ob) : Prop := (0 ≤ (gA o 3 0).toInt ∧ (gA o 3 0).toInt ≤ 7) ∧ (od = false → gI o 20 = 0 ∧ ∀ kzz, kzz < 9 → (gA mezz 0 kzz).toInt64 = gM o 35 (kzz + 1)) ∧
  (od = true → ¬ gI o 20 = 0 ∧ (∀ kzz, kzz < 5 → (gA mezz 0 kzz).toInt64 = gM o 36 (kzz + 1)) ∧ ∀ pzz : Nat, pzz < 7 → (((pzz : Int) < (gA o 3 0).toInt ∧ gA mezz 0 (5 + pzz) = gA o 3 (15 + pzz) ∧ gA mezz 0 (12 + pzz) = gA o 3 (8 + pzz)) ∨ ((gA o 3 0).toInt ≤ (pzz : Int) ∧ gA mezz 0 (5 + pzz) = -1 ∧ gA mezz 0 (12 + pzz) = -1)))
set_option maxHeartbeats 200000 in
theorem EWo.sr {od : Bool} {mezz me' o o' : Ob} (hzz : EWo od mezz o) (e0zz : gA me' 0 = gA mezz 0) (ezz : SR o o') : EWo od me' o' := by
  obtain ⟨h0, h1, h2⟩ := hzz
  refine ⟨by rw [ezz.gA 3]; exact h0, fun qzz => ?_, fun qzz => ?_⟩
  · obtain ⟨azz, bzz⟩ := h1 qzz
    exact ⟨by rw [ezz.2.1 20 (by decide)]; exact azz, fun kzz hk => by rw [e0zz, ezz.2.2 35 (by decide)]; exact bzz kzz hk⟩
  · obtain ⟨azz, bzz, czz⟩ := h2 qzz
    exact ⟨by rw [ezz.2.1 20 (by decide)]; exact azz, fun kzz hk => by rw [e0zz, ezz.2.2 36 (by decide)]; exact bzz kzz hk, fun pzz hp => by rw [e0zz, ezz.gA 3]; exact czz pzz hp⟩
set_option maxHeartbeats 200000 in
theorem r_step {s2zz w2zz : Nat → Int32} {o yzz : Ob} {Nzz : Nat} {v2 v3 v4zz : Int32} {kzz bzz : Nat} (hrd : RD s2zz w2zz o) (ek : v4zz.toInt = (kzz : Int)) (eb : v2.toInt = (bzz : Int)) (hkb : kzz < bzz) (hbzz : bzz ≤ 400) (h38 : gI o 38 = 0) (hzz : lp_X9_reckonAll_10 (Nzz + 1) (v2, v3, v4zz, o) = some yzz) : bk_X9_reckonAll_95 (lp_X9_reckonAll_10 Nzz) v2 v3 v4zz (s2zz kzz) (w2zz kzz) o = some yzz := by
  have hzz : lb_X9_reckonAll_10 (lp_X9_reckonAll_10 Nzz) v2 v3 v4zz o = some yzz := hzz
  unfold lb_X9_reckonAll_10 at hzz
  have hzz := z_t (z_f hzz (fun qzz => by have qzz := cv_le (a := (bzz : Int)) (b := (kzz : Int)) eb ek qzz; omega)) h38
  rcases hrd with ⟨h20, l, hl, e34, hk⟩ | ⟨h20, hk⟩
  · obtain ⟨-, hzz⟩ := z_gd (z_t hzz h20)
    unfold bk_X9_reckonAll_57 at hzz
    obtain ⟨-, hzz⟩ := z_gd (z_t hzz h20)
    have a1zz : ((gI o 34) + (98 : Int32)).toInt = 84 + 900 * (l : Int) + 98 := i32_add e34 (by decide) (by omega) (by omega)
    have a2 : ((2 : Int32) * v4zz).toInt = 2 * (kzz : Int) := i32_mul (by decide) ek (by omega) (by omega)
    have a3 : (((gI o 34) + (98 : Int32)) + ((2 : Int32) * v4zz)).toInt = 84 + 900 * (l : Int) + 98 + 2 * (kzz : Int) := i32_add a1zz a2 (by omega) (by omega)
    have a4 : ((((gI o 34) + (98 : Int32)) + ((2 : Int32) * v4zz)) + (1 : Int32)).toInt = 84 + 900 * (l : Int) + 98 + 2 * (kzz : Int) + 1 := i32_add a3 (by decide) (by omega) (by omega)
    have i3zz : (((gI o 34) + (98 : Int32)) + ((2 : Int32) * v4zz)).toNatClampNeg = 84 + 900 * l + 98 + 2 * kzz := tnc_eq (by omega)
    have i4zz : ((((gI o 34) + (98 : Int32)) + ((2 : Int32) * v4zz)) + (1 : Int32)).toNatClampNeg = 84 + 900 * l + 98 + 2 * kzz + 1 := tnc_eq (by omega)
    rw [i3zz, i4zz, ← (hk kzz).1, ← (hk kzz).2] at hzz
    exact hzz
  · obtain ⟨-, hzz⟩ := z_gd (z_f hzz h20)
    unfold bk_X9_reckonAll_57 at hzz
    obtain ⟨-, hzz⟩ := z_gd (z_f hzz h20)
    have ik : v4zz.toNatClampNeg = kzz := tnc_eq ek
    rw [ik, ← (hk kzz).1, ← (hk kzz).2] at hzz
    exact hzz
set_option maxHeartbeats 200000 in
theorem r_push {reczz : Int32 × Int32 × Int32 × Ob → Option Ob} {v2 v3 x5zz : Int32} {s0zz : Int64} {o yzz : Ob} {qzz : Nat} (e3zz : v3.toInt = (qzz : Int)) (hzz : bk_X9_reckonAll_204 reczz v2 v3 x5zz s0zz v3 o = some yzz) : reczz (v2, v3 + 1, x5zz, tM o 37 qzz s0zz) = some yzz := by
  unfold bk_X9_reckonAll_204 at hzz
  obtain ⟨-, hzz⟩ := z_gd hzz
  obtain ⟨o24, e24zz, hzz⟩ := z_lt hzz
  obtain ⟨x25, e25zz, hzz⟩ := z_lt hzz
  have i3zz : v3.toNatClampNeg = qzz := tnc_eq e3zz
  rw [i3zz] at e24zz
  rw [e24zz, e25zz] at hzz
  exact hzz
set_option maxHeartbeats 200000 in
theorem r_num {reczz : Int32 × Int32 × Int32 × Ob → Option Ob} {v2 v3 v4zz s0zz : Int32} {o yzz : Ob} {qzz : Nat} (e3zz : v3.toInt = (qzz : Int)) (hzz : bk_X9_reckonAll_95 reczz v2 v3 v4zz 0 s0zz o = some yzz) : reczz (v2, v3 + 1, v4zz + 1, tM o 37 qzz s0zz.toInt64) = some yzz := by
  unfold bk_X9_reckonAll_95 at hzz
  obtain ⟨x5zz, e5zz, hzz⟩ := z_lt hzz
  have hzz := z_t (z_f hzz (by decide)) rfl
  rw [e5zz] at hzz
  exact r_push e3zz hzz
set_option maxHeartbeats 200000 in
theorem r_word {od : Bool} {mezz : Ob} {reczz : Int32 × Int32 × Int32 × Ob → Option Ob} {v2 v3 v4zz wzz op s0zz : Int32} {o yzz : Ob} {qzz : Nat} (hE : EWo od mezz o) (hw : WD od wzz op s0zz) (e3zz : v3.toInt = (qzz : Int)) (hzz : bk_X9_reckonAll_95 reczz v2 v3 v4zz op s0zz o = some yzz) : reczz (v2, v3 + 1, v4zz + 1, tM o 37 qzz (gA mezz 0 wzz.toNatClampNeg).toInt64) = some yzz := by
  unfold bk_X9_reckonAll_95 at hzz
  obtain ⟨x5zz, e5zz, hzz⟩ := z_lt hzz
  rw [e5zz] at hzz
  have hop : 1 ≤ op.toInt ∧ op.toInt ≤ 9 := by
    rcases hw with ⟨kzz, hk, -, ezz⟩ | ⟨-, pzz, -, -, ⟨-, ezz⟩ | ⟨-, ezz⟩⟩
    · rcases hk with hk | ⟨-, hk⟩ <;> omega
    · omega
    · omega
  have hzz := z_f hzz (fun czz => by have czz := cv_le (a := 20) (b := op.toInt) (by decide) rfl czz; omega)
  have hzz := z_f hzz (fun czz => by have czz := cv_eq (a := op.toInt) (b := 0) rfl (by decide) czz; omega)
  have hio : op.toNatClampNeg = op.toInt.toNat := rfl
  have hiw : wzz.toNatClampNeg = wzz.toInt.toNat := rfl
  cases od with
  | false =>
    obtain ⟨h20, hv⟩ := hE.2.1 rfl
    obtain ⟨-, hzz⟩ := z_gd (z_t hzz h20)
    rcases hw with ⟨kzz, hk, ew, eo⟩ | ⟨czz, -⟩
    · have i1zz : op.toNatClampNeg = kzz + 1 := tnc_eq (by omega)
      have i2zz : wzz.toNatClampNeg = kzz := tnc_eq ew
      have hk9 : kzz < 9 := by rcases hk with hk | ⟨-, hk⟩ <;> omega
      rw [i1zz, ← hv kzz hk9] at hzz
      rw [i2zz]
      exact r_push e3zz hzz
    · cases czz
  | true =>
    obtain ⟨h20, hv, hp⟩ := hE.2.2 rfl
    have hzz := z_f hzz h20
    rcases hw with ⟨kzz, hk, ew, eo⟩ | ⟨-, pzz, hp7, ea, hx⟩
    · have hk5 : kzz < 5 := by
        rcases hk with hk | ⟨czz, -⟩
        · exact hk
        · cases czz
      have i1zz : op.toNatClampNeg = kzz + 1 := tnc_eq (by omega)
      have i2zz : wzz.toNatClampNeg = kzz := tnc_eq ew
      have hzz := z_f hzz (fun czz => by have czz := cv_le (a := 6) (b := op.toInt) (by decide) rfl czz; omega)
      obtain ⟨-, hzz⟩ := z_gd hzz
      rw [i1zz, ← hv kzz hk5] at hzz
      rw [i2zz]
      exact r_push e3zz hzz
    · have hzz := z_t hzz (Int32.le_iff_toInt_le.mpr (by have czz : (6 : Int32).toInt = 6 := (by decide); rcases hx with ⟨-, ezz⟩ | ⟨-, ezz⟩ <;> omega))
      obtain ⟨zzz, ez, hzz⟩ := z_bd hzz
      have e1zz : (-1 : Int32).toInt64 = (-1 : Int64) := by decide
      have s15 : ((15 : Int32) + s0zz).toInt = 15 + (pzz : Int) := i32_add (by decide) ea (by omega) (by omega)
      have s8 : ((8 : Int32) + s0zz).toInt = 8 + (pzz : Int) := i32_add (by decide) ea (by omega) (by omega)
      have j15zz : ((15 : Int32) + s0zz).toNatClampNeg = 15 + pzz := tnc_eq (by omega)
      have j8zz : ((8 : Int32) + s0zz).toNatClampNeg = 8 + pzz := tnc_eq (by omega)
      rcases isP9 ez hE.1 with ⟨czz, d⟩ | ⟨czz, d⟩
      · have hzz := z_t hzz czz
        rw [ea] at d
        rcases hp pzz hp7 with ⟨gzz, -⟩ | ⟨-, g1, g2⟩
        · exact absurd ⟨by omega, gzz⟩ d
        · rcases hx with ⟨ew, -⟩ | ⟨ew, -⟩
          · have i2zz : wzz.toNatClampNeg = 5 + pzz := tnc_eq (by omega)
            rw [i2zz, g1, e1zz]; exact r_push e3zz hzz
          · have i2zz : wzz.toNatClampNeg = 12 + pzz := tnc_eq (by omega)
            rw [i2zz, g2, e1zz]; exact r_push e3zz hzz
      · have hzz := z_f hzz czz
        rw [ea] at d
        rcases hp pzz hp7 with ⟨-, g1, g2⟩ | ⟨gzz, -⟩
        · rcases hx with ⟨ew, eo⟩ | ⟨ew, eo⟩
          · have i2zz : wzz.toNatClampNeg = 5 + pzz := tnc_eq (by omega)
            have hzz := z_t hzz (Int32.toInt_inj.mp (eo.trans (by decide)))
            obtain ⟨-, hzz⟩ := z_gd hzz
            rw [j15zz, ← g1] at hzz
            rw [i2zz]; exact r_push e3zz hzz
          · have i2zz : wzz.toNatClampNeg = 12 + pzz := tnc_eq (by omega)
            have hzz := z_f hzz (fun czz => by have czz := cv_eq (a := op.toInt) (b := 6) rfl (by decide) czz; omega)
            obtain ⟨-, hzz⟩ := z_gd hzz
            rw [j8zz, ← g2] at hzz
            rw [i2zz]; exact r_push e3zz hzz
        · omega
set_option maxHeartbeats 200000 in
theorem r_end {o yzz : Ob} {Nzz : Nat} {v2 v3 v4zz : Int32} (h38 : gI o 38 = 1) (hzz : lp_X9_reckonAll_10 Nzz (v2, v3, v4zz, o) = some yzz) : gI yzz 38 = 1 := by
  cases Nzz with
  | zero => cases hzz
  | succ Nzz =>
    have hzz : lb_X9_reckonAll_10 (lp_X9_reckonAll_10 Nzz) v2 v3 v4zz o = some yzz := hzz
    unfold lb_X9_reckonAll_10 at hzz
    have h353 : bk_X9_reckonAll_353 v3 o = some yzz → gI yzz 38 = 1 := by
      intro hzz
      unfold bk_X9_reckonAll_353 at hzz
      by_cases czz : v3 ≤ (0 : Int32)
      · have hzz := z_t hzz czz
        unfold bk_X9_reckonAll_368 at hzz
        obtain ⟨o2, e2zz, hzz⟩ := z_lt hzz
        rw [← Option.some.inj hzz, e2zz]; exact h38
      · have hzz := z_f hzz czz
        unfold bk_X9_reckonAll_368 at hzz
        obtain ⟨o2, e2zz, hzz⟩ := z_lt hzz
        rw [← Option.some.inj hzz, e2zz]; exact h38
    by_cases czz : v2 ≤ v4zz
    · exact h353 (z_t hzz czz)
    · exact h353 (z_f (z_f hzz czz) (by rw [h38]; decide))
set_option maxHeartbeats 200000 in
theorem r_bin {Nzz : Nat} {v2 v3 v4zz op s0zz : Int32} {o yzz : Ob} {qzz : Nat} (e3zz : v3.toInt = (qzz : Int) + 2) (hq : qzz < 400) (h0 : 20 ≤ op.toInt) (h1 : op.toInt < 28) (hzz : bk_X9_reckonAll_95 (lp_X9_reckonAll_10 Nzz) v2 v3 v4zz op s0zz o = some yzz) : ∃ wzz, f_X9_reckon o op (gM o 37 qzz) (gM o 37 (qzz + 1)) = some wzz ∧ (∀ zzz, RK o wzz zzz → (zzz = -9000000000000000000 ∧ gI yzz 38 = 1) ∨ (zzz = wzz.1 ∧ (-1000000000 ≤ wzz.1.toInt ∧ wzz.1.toInt ≤ 1000000000) ∧ ∃ o', lp_X9_reckonAll_10 Nzz (v2, v3 + (-1), v4zz + 1, o') = some yzz ∧ SR o o' ∧ gI o' 38 = 0 ∧ ∀ jzz, gM o' 37 jzz = if jzz = qzz then wzz.1 else gM o 37 jzz)) := by
  unfold bk_X9_reckonAll_95 at hzz
  obtain ⟨x5zz, e5zz, hzz⟩ := z_lt hzz
  rw [e5zz] at hzz
  have hzz := z_t hzz (Int32.le_iff_toInt_le.mpr (by have czz : (20 : Int32).toInt = 20 := (by decide); omega))
  have hzz := z_f hzz (fun czz => by have czz := cv_le (a := 28) (b := op.toInt) (by decide) rfl czz; omega)
  obtain ⟨x11, e11zz, hzz⟩ := z_lt hzz
  obtain ⟨-, hzz⟩ := z_gd hzz
  obtain ⟨-, hzz⟩ := z_gd hzz
  have t11 : x11.toInt = (qzz : Int) + 2 + (-1) := by rw [e11zz]; exact i32_add e3zz (by decide) (by omega) (by omega)
  have t12 : (x11 - (1 : Int32)).toInt = x11.toInt - 1 := i32_sub rfl (by decide) (by omega) (by omega)
  have i11zz : x11.toNatClampNeg = qzz + 1 := tnc_eq (by omega)
  have i12zz : (x11 - (1 : Int32)).toNatClampNeg = qzz := tnc_eq (by omega)
  rw [i11zz, i12zz] at hzz
  obtain ⟨wzz, ew, hzz⟩ := z_bd hzz
  refine ⟨wzz, ew, fun zzz hz => ?_⟩
  obtain ⟨-, hzz⟩ := z_gd hzz
  obtain ⟨o16, e16zz, hzz⟩ := z_lt hzz
  have k38 : gI o16 38 = gI wzz.2 38 := by rw [e16zz]; rfl
  have s16 : ∀ izz, izz ≠ 38 → gI o16 izz = gI o izz := fun izz hizz => by rw [e16zz]; exact hz.1 izz hizz
  have a16 : o16.2.2.1 = o.2.2.1 := by rw [e16zz]; show wzz.2.2.2.1 = o.2.2.1; rw [hz.2.1]
  have m16 : ∀ izz, izz ≠ 37 → gM o16 izz = gM o izz := fun izz hizz => by
    rw [e16zz]
    have : gM (tM wzz.2 37 qzz wzz.1) izz = gM wzz.2 izz := fset_ne (f := fun izz => gM wzz.2 izz) hizz
    rw [this]; show wzz.2.2.2.2.1 izz = o.2.2.2.1 izz; rw [hz.2.1]
  have v16 : ∀ jzz, gM o16 37 jzz = if jzz = qzz then wzz.1 else gM o 37 jzz := fun jzz => by
    rw [e16zz, m37_at]; show (if jzz = qzz then wzz.1 else wzz.2.2.2.2.1 37 jzz) = _; rw [hz.2.1]
  have h277 : bk_X9_reckonAll_277 (lp_X9_reckonAll_10 Nzz) v2 x11 (v4zz + 1) o16 = some yzz → gI yzz 38 = 1 := by
    intro hzz
    unfold bk_X9_reckonAll_277 bk_X9_reckonAll_282 at hzz
    obtain ⟨-, hzz⟩ := z_gd hzz
    obtain ⟨o18, e18zz, hzz⟩ := z_lt hzz
    exact r_end (by rw [e18zz]; rfl) hzz
  rcases hz.2.2 with ⟨z1, z2⟩ | ⟨z1, z2, z3, z4⟩
  · refine Or.inl ⟨z1, ?_⟩
    rcases z2 with z2 | ⟨z2, z3⟩
    · exact h277 (z_f hzz (by rw [k38, z2]; decide))
    · obtain ⟨-, hzz⟩ := z_gd (z_t hzz (by rw [k38]; exact z2))
      obtain ⟨z20, ez20, hzz⟩ := z_bd hzz
      rw [v16 qzz, if_pos rfl] at ez20
      rcases in_iff _ _ _ _ ez20 with ⟨azz, bzz⟩ | ⟨azz, bzz, czz⟩
      · exact h277 (z_t hzz azz)
      · have c1zz : (-1000000000 : Int64).toInt = -1000000000 := by decide
        have c2zz : (1000000000 : Int64).toInt = 1000000000 := by decide
        exact absurd ⟨by omega, by omega⟩ z3
  · refine Or.inr ⟨z1, ⟨z3, z4⟩, ?_⟩
    obtain ⟨-, hzz⟩ := z_gd (z_t hzz (by rw [k38]; exact z2))
    obtain ⟨z20, ez20, hzz⟩ := z_bd hzz
    rw [v16 qzz, if_pos rfl] at ez20
    rcases in_iff _ _ _ _ ez20 with ⟨azz, bzz⟩ | ⟨azz, bzz, czz⟩
    · have c1zz : (-1000000000 : Int64).toInt = -1000000000 := by decide
      have c2zz : (1000000000 : Int64).toInt = 1000000000 := by decide
      exact absurd ⟨by omega, by omega⟩ bzz
    · have hzz := z_f hzz azz
      unfold bk_X9_reckonAll_282 at hzz
      obtain ⟨-, hzz⟩ := z_gd hzz
      obtain ⟨o18, e18zz, hzz⟩ := z_lt hzz
      rw [e11zz] at hzz
      refine ⟨o18, hzz, ⟨by rw [e18zz]; exact a16, fun izz hizz => ?_, fun izz hizz => by rw [e18zz]; exact m16 izz hizz⟩, by rw [e18zz]; rfl, fun jzz => by rw [e18zz]; exact v16 jzz⟩
      rw [e18zz]; exact (fset_ne hizz).trans (s16 izz hizz)
set_option maxHeartbeats 200000 in
theorem r_not {Nzz : Nat} {v2 v3 v4zz s0zz : Int32} {o yzz : Ob} {qzz : Nat} (e3zz : v3.toInt = (qzz : Int) + 1) (hq : qzz < 400) (hzz : bk_X9_reckonAll_95 (lp_X9_reckonAll_10 Nzz) v2 v3 v4zz 28 s0zz o = some yzz) : lp_X9_reckonAll_10 Nzz (v2, v3, v4zz + 1, tM o 37 qzz ((1 : Int64) - gM o 37 qzz)) = some yzz := by
  unfold bk_X9_reckonAll_95 at hzz
  obtain ⟨x5zz, e5zz, hzz⟩ := z_lt hzz
  rw [e5zz] at hzz
  have hzz := z_t (z_t (z_t hzz (by decide)) (by decide)) rfl
  obtain ⟨-, hzz⟩ := z_gd hzz
  obtain ⟨-, hzz⟩ := z_gd hzz
  obtain ⟨o10, e10zz, hzz⟩ := z_lt hzz
  have t : (v3 - (1 : Int32)).toInt = (qzz : Int) + 1 - 1 := i32_sub e3zz (by decide) (by omega) (by omega)
  have izz : (v3 - (1 : Int32)).toNatClampNeg = qzz := tnc_eq (by omega)
  rw [izz] at e10zz
  rw [e10zz] at hzz
  exact hzz
set_option maxHeartbeats 200000 in
theorem r_ao {Nzz : Nat} {v2 v3 v4zz op s0zz : Int32} {o yzz : Ob} {qzz : Nat} (e3zz : v3.toInt = (qzz : Int) + 1) (hq : qzz < 400) (ho : op = 29 ∨ op = 30) (hv : gM o 37 qzz = 0 ∨ gM o 37 qzz = 1) (hzz : bk_X9_reckonAll_95 (lp_X9_reckonAll_10 Nzz) v2 v3 v4zz op s0zz o = some yzz) :
    (((op = 29 ∧ gM o 37 qzz = 0) ∨ (op = 30 ∧ gM o 37 qzz = 1)) ∧ lp_X9_reckonAll_10 Nzz (v2, v3, s0zz, o) = some yzz) ∨ (((op = 29 ∧ gM o 37 qzz = 1) ∨ (op = 30 ∧ gM o 37 qzz = 0)) ∧ lp_X9_reckonAll_10 Nzz (v2, v3 + (-1), v4zz + 1, o) = some yzz) := by
  unfold bk_X9_reckonAll_95 at hzz
  obtain ⟨x5zz, e5zz, hzz⟩ := z_lt hzz
  rw [e5zz] at hzz
  have t : (v3 - (1 : Int32)).toInt = (qzz : Int) + 1 - 1 := i32_sub e3zz (by decide) (by omega) (by omega)
  have izz : (v3 - (1 : Int32)).toNatClampNeg = qzz := tnc_eq (by omega)
  rw [izz] at hzz
  have h336 : ∀ czz : Int64, bk_X9_reckonAll_336 (lp_X9_reckonAll_10 Nzz) v2 v3 (v4zz + 1) s0zz czz (gM o 37 qzz) o = some yzz → (gM o 37 qzz = czz ∧ lp_X9_reckonAll_10 Nzz (v2, v3, s0zz, o) = some yzz) ∨ (¬ gM o 37 qzz = czz ∧ lp_X9_reckonAll_10 Nzz (v2, v3 + (-1), v4zz + 1, o) = some yzz) := by
    intro czz hzz
    unfold bk_X9_reckonAll_336 at hzz
    by_cases gzz : lg_cmp (gM o 37 qzz) czz = 0
    · exact Or.inl ⟨Int64.toInt_inj.mp (cvl_eq rfl rfl gzz), z_t hzz gzz⟩
    · have hzz := z_f hzz gzz
      obtain ⟨x7, e7zz, hzz⟩ := z_lt hzz
      rw [e7zz] at hzz
      exact Or.inr ⟨fun ezz => cvl_ne rfl rfl gzz (by rw [ezz]), hzz⟩
  rcases ho with ezz | ezz
  · subst ezz
    have hzz := z_f (z_t (z_t hzz (by decide)) (by decide)) (by decide)
    obtain ⟨-, hzz⟩ := z_gd hzz
    rcases h336 0 (z_t hzz rfl) with ⟨azz, bzz⟩ | ⟨azz, bzz⟩
    · exact Or.inl ⟨Or.inl ⟨rfl, azz⟩, bzz⟩
    · rcases hv with hv | hv
      · exact absurd hv azz
      · exact Or.inr ⟨Or.inl ⟨rfl, hv⟩, bzz⟩
  · subst ezz
    have hzz := z_f (z_t (z_t hzz (by decide)) (by decide)) (by decide)
    obtain ⟨-, hzz⟩ := z_gd hzz
    rcases h336 1 (z_f hzz (by decide)) with ⟨azz, bzz⟩ | ⟨azz, bzz⟩
    · exact Or.inl ⟨Or.inr ⟨rfl, azz⟩, bzz⟩
    · rcases hv with hv | hv
      · exact Or.inr ⟨Or.inr ⟨rfl, hv⟩, bzz⟩
      · exact absurd hv azz
set_option maxHeartbeats 200000 in
theorem c_open {nc ns : Nat} {oc : Ob} {Nzz : Nat} {v3 v4zz v5 v6 v7 : Int32} {mezz : Ob} {yzz : Int64 × Ob} {kzz : Nat} (ek : v5.toInt = (kzz : Int)) (h37 : v7.toInt < v3.toInt) (h56 : v5.toInt < v6.toInt) (hzz : lp_X3_worth_O_30 nc ns oc (Nzz + 1) (v3, v4zz, v5, v6, v7, mezz) = some yzz) :
    (if (gA oc 5 kzz) = (0 : Int32) then (bk_X3_worth_O_75 nc ns oc (lp_X3_worth_O_30 nc ns oc Nzz) v3 v4zz (v5 + 1) v6 v7 (gA oc 5 kzz) (gA oc 6 kzz) mezz)
     else (if (gA oc 5 kzz) = (1 : Int32) then (bk_X3_worth_O_75 nc ns oc (lp_X3_worth_O_30 nc ns oc Nzz) v3 v4zz (v5 + 1) v6 v7 (gA oc 5 kzz) (gA oc 6 kzz) mezz)
     else (if (4 : Int32) < (gA oc 5 kzz) then
       (if (2 : Int32) ≤ v4zz then
         (zlt (v4zz + (-1 : Int32)) fun x13 =>
          zgd (zin (x13 - (1 : Int32)) 50) <|
          zgd (zin x13 50) <|
          (f_X3_joined (gA oc 5 kzz) (gM mezz 1 (x13 - (1 : Int32)).toNatClampNeg) (gM mezz 1 x13.toNatClampNeg)).bind fun z16 =>
          zgd (zin (x13 - (1 : Int32)) 50) <|
          zlt (tM mezz 1 (x13 - (1 : Int32)).toNatClampNeg z16) fun o18 =>
          zgd (zin (x13 - (1 : Int32)) 50) <|
          if (lg_cmp (gM o18 1 (x13 - (1 : Int32)).toNatClampNeg) (-9000000000000000000 : Int64)) = (0 : Int32) then
          (some ((-9000000000000000000 : Int64), o18))
          else
          (bk_X3_worth_O_281 nc ns oc (lp_X3_worth_O_30 nc ns oc Nzz) v3 x13 (v5 + 1) v6 v7 o18))
        else (some ((-9000000000000000000 : Int64), mezz)))
     else
       (if (1 : Int32) ≤ v4zz then
         (zgd (zin (v4zz - (1 : Int32)) 50) <|
          if (lg_cmp (gM mezz 1 (v4zz - (1 : Int32)).toNatClampNeg) (1 : Int64)) = (0 : Int32) then
          (bk_X3_worth_O_154 nc ns oc (lp_X3_worth_O_30 nc ns oc Nzz) v3 v4zz (v5 + 1) v6 v7 (gA oc 5 kzz) (gA oc 6 kzz) (1 : Int32) mezz)
          else
          (bk_X3_worth_O_154 nc ns oc (lp_X3_worth_O_30 nc ns oc Nzz) v3 v4zz (v5 + 1) v6 v7 (gA oc 5 kzz) (gA oc 6 kzz) (0 : Int32) mezz))
        else (some ((-9000000000000000000 : Int64), mezz)))))) = some yzz := by
  have hzz : lb_X3_worth_O_30 nc ns oc (lp_X3_worth_O_30 nc ns oc Nzz) v3 v4zz v5 v6 v7 mezz = some yzz := hzz
  unfold lb_X3_worth_O_30 at hzz
  have hzz := z_f (z_f hzz (fun qzz => by have qzz := cv_le (a := v3.toInt) (b := v7.toInt) rfl rfl qzz; omega)) (fun qzz => by have qzz := cv_le (a := v6.toInt) (b := v5.toInt) rfl rfl qzz; omega)
  obtain ⟨-, hzz⟩ := z_gd hzz
  obtain ⟨x4zz, e4zz, hzz⟩ := z_lt hzz
  obtain ⟨-, hzz⟩ := z_gd hzz
  obtain ⟨x6, e6zz, hzz⟩ := z_lt hzz
  obtain ⟨x7, e7zz, hzz⟩ := z_lt hzz
  have ik : v5.toNatClampNeg = kzz := tnc_eq ek
  rw [ik] at e4zz e6zz
  rw [e4zz, e6zz, e7zz] at hzz
  exact hzz
set_option maxHeartbeats 200000 in
theorem c_push {nc ns : Nat} {oc : Ob} {reczz : Int32 × Int32 × Int32 × Int32 × Int32 × Ob → Option (Int64 × Ob)} {v3 v4zz v5 v6 v7 : Int32} {s0zz : Int64} {mezz : Ob} {yzz : Int64 × Ob} {qzz : Nat} (eq : v4zz.toInt = (qzz : Int)) (hzz : bk_X3_worth_O_112 nc ns oc reczz v3 v4zz v5 v6 v7 s0zz v4zz mezz = some yzz) : reczz (v3, v4zz + 1, v5, v6, v7 + 1, tM mezz 1 qzz s0zz) = some yzz := by
  unfold bk_X3_worth_O_112 at hzz
  obtain ⟨-, hzz⟩ := z_gd hzz
  obtain ⟨o10, e10zz, hzz⟩ := z_lt hzz
  obtain ⟨x11, e11zz, hzz⟩ := z_lt hzz
  unfold bk_X3_worth_O_281 at hzz
  obtain ⟨x12, e12zz, hzz⟩ := z_lt hzz
  have iq : v4zz.toNatClampNeg = qzz := tnc_eq eq
  rw [iq] at e10zz
  rw [e10zz, e11zz, e12zz] at hzz
  exact hzz
set_option maxHeartbeats 200000 in
theorem c_num {nc ns : Nat} {oc : Ob} {Nzz : Nat} {v3 v4zz v5 v6 v7 : Int32} {mezz : Ob} {yzz : Int64 × Ob} {kzz qzz : Nat} (ek : v5.toInt = (kzz : Int)) (h37 : v7.toInt < v3.toInt) (h56 : v5.toInt < v6.toInt) (eq : v4zz.toInt = (qzz : Int)) (hq : qzz < 50) (hs : gA oc 5 kzz = 0) (hzz : lp_X3_worth_O_30 nc ns oc (Nzz + 1) (v3, v4zz, v5, v6, v7, mezz) = some yzz) : lp_X3_worth_O_30 nc ns oc Nzz (v3, v4zz + 1, v5 + 1, v6, v7 + 1, tM mezz 1 qzz (gA oc 6 kzz).toInt64) = some yzz := by
  have hzz := z_t (c_open ek h37 h56 hzz) hs
  unfold bk_X3_worth_O_75 at hzz
  have hzz := z_t (z_t hzz (Int32.lt_iff_toInt_lt.mpr (by have czz : (50 : Int32).toInt = 50 := (by decide); omega))) hs
  exact c_push eq hzz
set_option maxHeartbeats 200000 in
theorem c_word {nc ns : Nat} {oc : Ob} {Nzz : Nat} {v3 v4zz v5 v6 v7 : Int32} {mezz : Ob} {yzz : Int64 × Ob} {kzz qzz : Nat} (ek : v5.toInt = (kzz : Int)) (h37 : v7.toInt < v3.toInt) (h56 : v5.toInt < v6.toInt) (eq : v4zz.toInt = (qzz : Int)) (hq : qzz < 50) (hs : gA oc 5 kzz = 1) (hw : 0 ≤ (gA oc 6 kzz).toInt ∧ (gA oc 6 kzz).toInt ≤ 18) (hzz : lp_X3_worth_O_30 nc ns oc (Nzz + 1) (v3, v4zz, v5, v6, v7, mezz) = some yzz) : lp_X3_worth_O_30 nc ns oc Nzz (v3, v4zz + 1, v5 + 1, v6, v7 + 1, tM mezz 1 qzz (gA mezz 0 (gA oc 6 kzz).toNatClampNeg).toInt64) = some yzz := by
  have hzz := z_t (z_f (c_open ek h37 h56 hzz) (by rw [hs]; decide)) hs
  unfold bk_X3_worth_O_75 at hzz
  have hzz := z_f (z_t hzz (Int32.lt_iff_toInt_lt.mpr (by have czz : (50 : Int32).toInt = 50 := (by decide); omega))) (by rw [hs]; decide)
  obtain ⟨z8, ez, hzz⟩ := z_bd hzz
  unfold f_X3_wordWorth at ez
  have ez := z_f (z_f ez (fun czz => by have czz := cv_lt (a := (gA oc 6 kzz).toInt) (b := 0) rfl (by decide) czz; omega)) (fun czz => by have czz := cv_le (a := 19) (b := (gA oc 6 kzz).toInt) (by decide) rfl czz; omega)
  obtain ⟨-, ez⟩ := z_gd ez
  rw [← Option.some.inj ez] at hzz
  exact c_push eq hzz
set_option maxHeartbeats 200000 in
theorem c_bin {nc ns : Nat} {oc : Ob} {Nzz : Nat} {v3 v4zz v5 v6 v7 : Int32} {mezz : Ob} {yzz : Int64 × Ob} {kzz qzz : Nat} (ek : v5.toInt = (kzz : Int)) (h37 : v7.toInt < v3.toInt) (h56 : v5.toInt < v6.toInt) (eq : v4zz.toInt = (qzz : Int) + 2) (hq : qzz < 400) (hs : 4 < (gA oc 5 kzz).toInt) (hzz : lp_X3_worth_O_30 nc ns oc (Nzz + 1) (v3, v4zz, v5, v6, v7, mezz) = some yzz) :
    ∃ zzz, f_X3_joined (gA oc 5 kzz) (gM mezz 1 qzz) (gM mezz 1 (qzz + 1)) = some zzz ∧ ((zzz = -9000000000000000000 ∧ yzz.1 = -9000000000000000000) ∨ (¬ zzz = -9000000000000000000 ∧ lp_X3_worth_O_30 nc ns oc Nzz (v3, v4zz + (-1), v5 + 1, v6, v7 + 1, tM mezz 1 qzz zzz) = some yzz)) := by
  have hzz := c_open ek h37 h56 hzz
  have hzz := z_f hzz (fun czz => by have czz := cv_eq (a := (gA oc 5 kzz).toInt) (b := 0) rfl (by decide) czz; omega)
  have hzz := z_f hzz (fun czz => by have czz := cv_eq (a := (gA oc 5 kzz).toInt) (b := 1) rfl (by decide) czz; omega)
  have hzz := z_t hzz (Int32.lt_iff_toInt_lt.mpr (by have czz : (4 : Int32).toInt = 4 := (by decide); omega))
  have hzz := z_t hzz (Int32.le_iff_toInt_le.mpr (by have czz : (2 : Int32).toInt = 2 := (by decide); omega))
  obtain ⟨x13, e13zz, hzz⟩ := z_lt hzz
  obtain ⟨-, hzz⟩ := z_gd hzz
  obtain ⟨-, hzz⟩ := z_gd hzz
  have t13 : x13.toInt = (qzz : Int) + 2 + (-1) := by rw [e13zz]; exact i32_add eq (by decide) (by omega) (by omega)
  have t12 : (x13 - (1 : Int32)).toInt = x13.toInt - 1 := i32_sub rfl (by decide) (by omega) (by omega)
  have i13 : x13.toNatClampNeg = qzz + 1 := tnc_eq (by omega)
  have i12zz : (x13 - (1 : Int32)).toNatClampNeg = qzz := tnc_eq (by omega)
  rw [i13, i12zz] at hzz
  obtain ⟨zzz, ez, hzz⟩ := z_bd hzz
  obtain ⟨-, hzz⟩ := z_gd hzz
  obtain ⟨o18, e18zz, hzz⟩ := z_lt hzz
  obtain ⟨-, hzz⟩ := z_gd hzz
  have k18 : gM o18 1 qzz = zzz := by rw [e18zz, m1_at, if_pos rfl]
  rw [k18] at hzz
  refine ⟨zzz, ez, ?_⟩
  by_cases gzz : lg_cmp zzz (-9000000000000000000 : Int64) = 0
  · have eg : zzz = -9000000000000000000 := Int64.toInt_inj.mp (cvl_eq rfl rfl gzz)
    exact Or.inl ⟨eg, by rw [← Option.some.inj (z_t hzz gzz)]⟩
  · have hzz := z_f hzz gzz
    unfold bk_X3_worth_O_281 at hzz
    obtain ⟨x12, e12zz, hzz⟩ := z_lt hzz
    rw [e12zz, e18zz, e13zz] at hzz
    exact Or.inr ⟨fun ezz => cvl_ne rfl rfl gzz (by rw [ezz]), hzz⟩
set_option maxHeartbeats 200000 in
theorem c_one {nc ns : Nat} {oc : Ob} {Nzz : Nat} {v3 v4zz v5 v6 v7 : Int32} {mezz : Ob} {yzz : Int64 × Ob} {kzz qzz : Nat} (ek : v5.toInt = (kzz : Int)) (h37 : v7.toInt < v3.toInt) (h56 : v5.toInt < v6.toInt) (eq : v4zz.toInt = (qzz : Int) + 1) (hq : qzz < 400) (hs : 2 ≤ (gA oc 5 kzz).toInt ∧ (gA oc 5 kzz).toInt ≤ 4) (hv : gM mezz 1 qzz = 0 ∨ gM mezz 1 qzz = 1) (hzz : lp_X3_worth_O_30 nc ns oc (Nzz + 1) (v3, v4zz, v5, v6, v7, mezz) = some yzz) :
    (gM mezz 1 qzz = 1 ∧ bk_X3_worth_O_154 nc ns oc (lp_X3_worth_O_30 nc ns oc Nzz) v3 v4zz (v5 + 1) v6 v7 (gA oc 5 kzz) (gA oc 6 kzz) (1 : Int32) mezz = some yzz) ∨ (gM mezz 1 qzz = 0 ∧ bk_X3_worth_O_154 nc ns oc (lp_X3_worth_O_30 nc ns oc Nzz) v3 v4zz (v5 + 1) v6 v7 (gA oc 5 kzz) (gA oc 6 kzz) (0 : Int32) mezz = some yzz) := by
  have hzz := c_open ek h37 h56 hzz
  have hzz := z_f hzz (fun czz => by have czz := cv_eq (a := (gA oc 5 kzz).toInt) (b := 0) rfl (by decide) czz; omega)
  have hzz := z_f hzz (fun czz => by have czz := cv_eq (a := (gA oc 5 kzz).toInt) (b := 1) rfl (by decide) czz; omega)
  have hzz := z_f hzz (fun czz => by have czz := cv_lt (a := 4) (b := (gA oc 5 kzz).toInt) (by decide) rfl czz; omega)
  have hzz := z_t hzz (Int32.le_iff_toInt_le.mpr (by have czz : (1 : Int32).toInt = 1 := (by decide); omega))
  obtain ⟨-, hzz⟩ := z_gd hzz
  have t : (v4zz - (1 : Int32)).toInt = (qzz : Int) + 1 - 1 := i32_sub eq (by decide) (by omega) (by omega)
  have izz : (v4zz - (1 : Int32)).toNatClampNeg = qzz := tnc_eq (by omega)
  rw [izz] at hzz
  by_cases gzz : lg_cmp (gM mezz 1 qzz) (1 : Int64) = 0
  · exact Or.inl ⟨Int64.toInt_inj.mp (cvl_eq rfl rfl gzz), z_t hzz gzz⟩
  · rcases hv with hv | hv
    · exact Or.inr ⟨hv, z_f hzz gzz⟩
    · exact absurd (cvl_ne rfl rfl gzz (by rw [hv])) (fun wzz => wzz)
set_option maxHeartbeats 200000 in
theorem c_not {nc ns : Nat} {oc : Ob} {reczz : Int32 × Int32 × Int32 × Int32 × Int32 × Ob → Option (Int64 × Ob)} {v3 v4zz v5 v6 v7 x6 s0zz : Int32} {mezz : Ob} {yzz : Int64 × Ob} {qzz : Nat} (eq : v4zz.toInt = (qzz : Int) + 1) (hq : qzz < 400) (hzz : bk_X3_worth_O_154 nc ns oc reczz v3 v4zz v5 v6 v7 2 x6 s0zz mezz = some yzz) : reczz (v3, v4zz, v5, v6, v7 + 1, tM mezz 1 qzz (if s0zz = 0 then 1 else 0)) = some yzz := by
  have t : (v4zz - (1 : Int32)).toInt = (qzz : Int) + 1 - 1 := i32_sub eq (by decide) (by omega) (by omega)
  have izz : (v4zz - (1 : Int32)).toNatClampNeg = qzz := tnc_eq (by omega)
  have h180 : ∀ czz : Int64, bk_X3_worth_O_180 nc ns oc reczz v3 v4zz v5 v6 v7 czz (v4zz - (1 : Int32)) mezz = some yzz → reczz (v3, v4zz, v5, v6, v7 + 1, tM mezz 1 qzz czz) = some yzz := by
    intro czz hzz
    unfold bk_X3_worth_O_180 at hzz
    obtain ⟨-, hzz⟩ := z_gd hzz
    obtain ⟨o24, e24zz, hzz⟩ := z_lt hzz
    unfold bk_X3_worth_O_215 bk_X3_worth_O_281 at hzz
    obtain ⟨x12, e12zz, hzz⟩ := z_lt hzz
    rw [izz] at e24zz
    rw [e12zz, e24zz] at hzz
    exact hzz
  unfold bk_X3_worth_O_154 at hzz
  have hzz := z_t hzz rfl
  by_cases czz : s0zz = 0
  · rw [if_pos czz]; exact h180 1 (z_t hzz czz)
  · rw [if_neg czz]; exact h180 0 (z_f hzz czz)
set_option maxHeartbeats 200000 in
theorem c_ao {nc ns : Nat} {oc : Ob} {reczz : Int32 × Int32 × Int32 × Int32 × Int32 × Ob → Option (Int64 × Ob)} {v3 v4zz v5 v6 v7 s x6 s0zz : Int32} {mezz : Ob} {yzz : Int64 × Ob} {bzz : Nat} (hs : s = 3 ∨ s = 4) (h0 : s0zz = 0 ∨ s0zz = 1) (e6zz : x6.toInt = (bzz : Int)) (h5 : v5.toInt ≤ (bzz : Int)) (hzz : bk_X3_worth_O_154 nc ns oc reczz v3 v4zz v5 v6 v7 s x6 s0zz mezz = some yzz) :
    (((s = 3 ∧ s0zz = 0) ∨ (s = 4 ∧ s0zz = 1)) ∧ ∃ xzz : Int32, xzz.toInt = (bzz : Int) ∧ reczz (v3, v4zz, xzz, v6, v7 + 1, mezz) = some yzz) ∨ (((s = 3 ∧ s0zz = 1) ∨ (s = 4 ∧ s0zz = 0)) ∧ reczz (v3, v4zz + (-1), v5, v6, v7 + 1, mezz) = some yzz) := by
  have h197 : ∀ czz : Int32, bk_X3_worth_O_197 nc ns oc reczz v3 v4zz v5 v6 v7 x6 czz s0zz mezz = some yzz → (s0zz = czz ∧ ∃ xzz : Int32, xzz.toInt = (bzz : Int) ∧ reczz (v3, v4zz, xzz, v6, v7 + 1, mezz) = some yzz) ∨ (¬ s0zz = czz ∧ reczz (v3, v4zz + (-1), v5, v6, v7 + 1, mezz) = some yzz) := by
    intro czz hzz
    unfold bk_X3_worth_O_197 at hzz
    by_cases gzz : s0zz = czz
    · obtain ⟨x22, e22zz, hzz⟩ := z_lt (z_t hzz gzz)
      unfold bk_X3_worth_O_215 bk_X3_worth_O_281 at hzz
      obtain ⟨x12, e12zz, hzz⟩ := z_lt hzz
      rw [e12zz] at hzz
      refine Or.inl ⟨gzz, x22, ?_, hzz⟩
      rw [e22zz]
      by_cases kzz : v5 < x6
      · rw [if_pos kzz]; exact e6zz
      · have k' := cv_nlt (a := v5.toInt) (b := (bzz : Int)) rfl e6zz kzz
        rw [if_neg kzz]; omega
    · obtain ⟨x21, e21zz, hzz⟩ := z_lt (z_f hzz gzz)
      unfold bk_X3_worth_O_215 bk_X3_worth_O_281 at hzz
      obtain ⟨x12, e12zz, hzz⟩ := z_lt hzz
      rw [e12zz, e21zz] at hzz
      exact Or.inr ⟨gzz, hzz⟩
  unfold bk_X3_worth_O_154 at hzz
  rcases hs with ezz | ezz
  · subst ezz
    have hzz := z_f (z_f hzz (by decide)) (by decide)
    rcases h197 0 hzz with ⟨azz, bzz⟩ | ⟨azz, bzz⟩
    · exact Or.inl ⟨Or.inl ⟨rfl, azz⟩, bzz⟩
    · rcases h0 with czz | czz
      · exact absurd czz azz
      · exact Or.inr ⟨Or.inl ⟨rfl, czz⟩, bzz⟩
  · subst ezz
    have hzz := z_t (z_f hzz (by decide)) rfl
    rcases h197 1 hzz with ⟨azz, bzz⟩ | ⟨azz, bzz⟩
    · exact Or.inl ⟨Or.inr ⟨rfl, azz⟩, bzz⟩
    · rcases h0 with czz | czz
      · exact Or.inr ⟨Or.inr ⟨rfl, czz⟩, bzz⟩
      · exact absurd czz azz
def CtE (nc ns : Nat) (oc : Ob) (v3 v6 v2 : Int32) (y1 : Int64 × Ob) (y2 : Ob) (t : Bool) (qzz b1 b2 : Nat) (mezz o : Ob) : Prop :=
  ∃ (N1 N2 : Nat) (v4zz v5 v7 w3zz w4zz : Int32) (me' o' : Ob), lp_X3_worth_O_30 nc ns oc N1 (v3, v4zz, v5, v6, v7, me') = some y1 ∧ lp_X9_reckonAll_10 N2 (v2, w3zz, w4zz, o') = some y2 ∧ v4zz.toInt = (qzz : Int) + 1 ∧ v5.toInt = (b1 : Int) ∧ (0 ≤ v7.toInt ∧ v7.toInt ≤ (b1 : Int)) ∧ w3zz.toInt = (qzz : Int) + 1 ∧ w4zz.toInt = (b2 : Int) ∧ gA me' 0 = gA mezz 0 ∧ SR o o' ∧ gI o' 38 = 0 ∧
    (∀ jzz, jzz < qzz → gM me' 1 jzz = gM mezz 1 jzz ∧ gM o' 37 jzz = gM o 37 jzz) ∧ gM me' 1 qzz = gM o' 37 qzz ∧ (-2147483648 ≤ (gM me' 1 qzz).toInt ∧ (gM me' 1 qzz).toInt ≤ 2147483647) ∧ (t = true → gM me' 1 qzz = 0 ∨ gM me' 1 qzz = 1)
def EvP (od : Bool) (nc ns : Nat) (oc : Ob) (s2zz w2zz : Nat → Int32) (v3 v6 v2 : Int32) (B1 B2 : Nat) (y1 : Int64 × Ob) (y2 : Ob) (t : Bool) (a1zz b1 a2 b2 n : Nat) : Prop :=
  (a1zz < b1 ∧ a2 < b2 ∧ 1 ≤ n) ∧ (b1 ≤ B1 → b2 ≤ B2 → ∀ (N1 N2 : Nat) (v4zz v5 v7 w3zz w4zz : Int32) (mezz o : Ob) (qzz : Nat), lp_X3_worth_O_30 nc ns oc N1 (v3, v4zz, v5, v6, v7, mezz) = some y1 → lp_X9_reckonAll_10 N2 (v2, w3zz, w4zz, o) = some y2 → v4zz.toInt = (qzz : Int) → v5.toInt = (a1zz : Int) → (0 ≤ v7.toInt ∧ v7.toInt ≤ (a1zz : Int)) → w3zz.toInt = (qzz : Int) → w4zz.toInt = (a2 : Int) → qzz + n ≤ 50 → EWo od mezz o → RD s2zz w2zz o → gI o 38 = 0 →
    (y1.1 = -9000000000000000000 ∧ gI y2 38 = 1) ∨ CtE nc ns oc v3 v6 v2 y1 y2 t qzz b1 b2 mezz o)
set_option maxHeartbeats 200000 in
theorem i64_of32 (xzz : Int32) : -2147483648 ≤ xzz.toInt64.toInt ∧ xzz.toInt64.toInt ≤ 2147483647 := by
  have rzz := i32_rg xzz
  rw [Int32.toInt_toInt64]; exact rzz
set_option maxHeartbeats 200000 in
theorem dec1 {xzz : Int32} {kzz : Nat} (hzz : xzz.toInt = (kzz : Int) + 1) (hk : kzz ≤ 400) : ∃ yzz : Int32, yzz = xzz + (-1 : Int32) ∧ yzz.toInt = (kzz : Int) :=
  ⟨_, rfl, Eq.trans (i32_add (a := (kzz : Int) + 1) (b := -1) hzz (by decide) (by omega) (by omega)) (by omega)⟩
set_option maxHeartbeats 200000 in
theorem inc1 {xzz : Int32} {kzz : Int} (hzz : xzz.toInt = kzz) (h0 : 0 ≤ kzz) (hk : kzz ≤ 400) : ∃ yzz : Int32, yzz = xzz + (1 : Int32) ∧ yzz.toInt = kzz + 1 :=
  ⟨_, rfl, i32_add (a := kzz) (b := 1) hzz (by decide) (by omega) (by omega)⟩
set_option maxHeartbeats 200000 in
theorem ev_bin {od : Bool} {nc ns : Nat} {oc : Ob} {s2zz w2zz : Nat → Int32} {v3 v6 v2 : Int32} {B1 B2 : Nat} {y1 : Int64 × Ob} {y2 : Ob} (e6zz : v6.toInt = (B1 : Int)) (e3zz : (B1 : Int) ≤ v3.toInt) (hB1 : B1 ≤ 400) (e2zz : v2.toInt = (B2 : Int)) (hB2 : B2 ≤ 400) {t : Bool} {a1zz m1zz b1 a2 m2zz b2 n n' : Nat}
    (p1zz : EvP od nc ns oc s2zz w2zz v3 v6 v2 B1 B2 y1 y2 false a1zz m1zz a2 m2zz n) (p2zz : EvP od nc ns oc s2zz w2zz v3 v6 v2 B1 B2 y1 y2 false m1zz b1 m2zz b2 n') (hop : opB (gA oc 5 b1) (s2zz b2) ∨ opC (gA oc 5 b1) (s2zz b2)) (ht : t = true → opC (gA oc 5 b1) (s2zz b2)) : EvP od nc ns oc s2zz w2zz v3 v6 v2 B1 B2 y1 y2 t a1zz (b1 + 1) a2 (b2 + 1) (n + n') := by
  have l1 := p1zz.1
  have l2 := p2zz.1
  refine ⟨⟨by omega, by omega, by omega⟩, fun hb1 hb2 N1 N2 v4zz v5 v7 w3zz w4zz mezz o qzz h1 h2 e4zz e5zz e7zz f3zz f4zz hq hE hR h38 => ?_⟩
  have hq4 : qzz + 1 ≤ 400 := by omega
  rcases p1zz.2 (by omega) (by omega) N1 N2 v4zz v5 v7 w3zz w4zz mezz o qzz h1 h2 e4zz e5zz e7zz f3zz f4zz (by omega) hE hR h38 with br | ⟨N1, N2, v4zz, v5, v7, w3zz, w4zz, me1, o1, h1, h2, e4zz, e5zz, e7zz, f3zz, f4zz, g0, gS, g38, gk, gv, -, -⟩
  · exact Or.inl br
  rcases p2zz.2 (by omega) (by omega) N1 N2 v4zz v5 v7 w3zz w4zz me1 o1 (qzz + 1) h1 h2 (by omega) e5zz e7zz (by omega) f4zz (by omega) (hE.sr g0 gS) (hR.sr gS) g38 with br | ⟨N1, N2, v4zz, v5, v7, w3zz, w4zz, me2, o2, h1, h2, e4zz, e5zz, e7zz, f3zz, f4zz, k0zz, kS, k38, kk, kv, -, -⟩
  · exact Or.inl br
  have hs : 4 < (gA oc 5 b1).toInt ∧ 20 ≤ (s2zz b2).toInt ∧ (s2zz b2).toInt < 28 := by
    rcases hop with (⟨x1zz, x2zz⟩ | ⟨x1zz, x2zz⟩ | ⟨x1zz, x2zz⟩ | ⟨x1zz, x2zz⟩ | ⟨x1zz, x2zz⟩) | (⟨x1zz, x2zz⟩ | ⟨x1zz, x2zz⟩ | ⟨x1zz, x2zz⟩) <;> rw [x1zz, x2zz] <;> decide
  cases N1 with
  | zero => cases h1
  | succ N1 =>
  cases N2 with
  | zero => cases h2
  | succ N2 =>
  obtain ⟨zzz, ez, hz⟩ := c_bin (qzz := qzz) e5zz (by omega) (by omega) (by omega) (by omega) hs.1 h1
  have h2 := r_step (hR.sr (gS.tr kS)) f4zz e2zz (by omega) hB2 k38 h2
  obtain ⟨wzz, ew, hw⟩ := r_bin (qzz := qzz) (by omega) (by omega) hs.2.1 hs.2.2 h2
  have ea : gM me2 1 qzz = gM o2 37 qzz := by rw [(kk qzz (by omega)).1, gv, (kk qzz (by omega)).2]
  rw [ea, kv] at ez
  have jzz := join_eq k38 hop ez ew
  rcases hw zzz jzz.1 with ⟨z1, z2⟩ | ⟨z1, zr, o', q1zz, q2zz, q3zz, q4zz⟩
  · rcases hz with ⟨-, hy⟩ | ⟨hn, -⟩
    · exact Or.inl ⟨hy, z2⟩
    · exact absurd z1 hn
  · rcases hz with ⟨hz, -⟩ | ⟨-, h1⟩
    · rw [← z1, hz] at zr; exact absurd zr brk_out
    · obtain ⟨x4zz, g4, t4zz⟩ := dec1 (kzz := qzz + 1) e4zz hq4
      obtain ⟨x3, g3zz, t3zz⟩ := dec1 (kzz := qzz + 1) f3zz hq4
      obtain ⟨x5zz, g5zz, t5zz⟩ := inc1 e5zz (by omega) (by omega)
      obtain ⟨x7, g7, t7⟩ := inc1 (xzz := v7) rfl e7zz.1 (by omega)
      obtain ⟨x8, g8, t8⟩ := inc1 f4zz (by omega) (by omega)
      rw [← g4, ← g5zz, ← g7] at h1
      rw [← g3zz, ← g8] at q1zz
      refine Or.inr ⟨N1, N2, _, _, _, _, _, tM me2 1 qzz zzz, o', h1, q1zz, by omega, by omega, ⟨by omega, by omega⟩, by omega, by omega, k0zz.trans g0, (gS.tr kS).tr q2zz, q3zz, fun jzz hj => ⟨?_, ?_⟩, ?_, ?_, fun czz => ?_⟩
      · rw [m1_at, if_neg (by omega), (kk jzz (by omega)).1, (gk jzz hj).1]
      · rw [q4zz jzz, if_neg (by omega), (kk jzz (by omega)).2, (gk jzz hj).2]
      · rw [m1_at, if_pos rfl, q4zz qzz, if_pos rfl]; exact z1
      · rw [m1_at, if_pos rfl, z1]; omega
      · rw [m1_at, if_pos rfl]; exact jzz.2 (ht czz)
set_option maxHeartbeats 200000 in
theorem ev_num {od : Bool} {nc ns : Nat} {oc : Ob} {s2zz w2zz : Nat → Int32} {v3 v6 v2 : Int32} {B1 B2 : Nat} {y1 : Int64 × Ob} {y2 : Ob} (e6zz : v6.toInt = (B1 : Int)) (e3zz : (B1 : Int) ≤ v3.toInt) (hB1 : B1 ≤ 400) (e2zz : v2.toInt = (B2 : Int)) (hB2 : B2 ≤ 400) {a1zz a2 : Nat} (hs1 : gA oc 5 a1zz = 0) (hs2 : s2zz a2 = 0) (hw : gA oc 6 a1zz = w2zz a2) : EvP od nc ns oc s2zz w2zz v3 v6 v2 B1 B2 y1 y2 false a1zz (a1zz + 1) a2 (a2 + 1) 1 := by
  refine ⟨⟨by omega, by omega, by omega⟩, fun hb1 hb2 N1 N2 v4zz v5 v7 w3zz w4zz mezz o qzz h1 h2 e4zz e5zz e7zz f3zz f4zz hq hE hR h38 => ?_⟩
  cases N1 with
  | zero => cases h1
  | succ N1 =>
  cases N2 with
  | zero => cases h2
  | succ N2 =>
  have h1 := c_num e5zz (by omega) (by omega) e4zz (by omega) hs1 h1
  have h2 := r_step hR f4zz e2zz (by omega) hB2 h38 h2
  rw [hs2] at h2
  have h2 := r_num f3zz h2
  have t4zz : (v4zz + (1 : Int32)).toInt = (qzz : Int) + 1 := i32_add e4zz (by decide) (by omega) (by omega)
  have t3zz : (w3zz + (1 : Int32)).toInt = (qzz : Int) + 1 := i32_add f3zz (by decide) (by omega) (by omega)
  have t5zz : (v5 + (1 : Int32)).toInt = (a1zz : Int) + 1 := i32_add e5zz (by decide) (by omega) (by omega)
  have t7 : (v7 + (1 : Int32)).toInt = v7.toInt + 1 := i32_add rfl (by decide) (by omega) (by omega)
  have t8 : (w4zz + (1 : Int32)).toInt = (a2 : Int) + 1 := i32_add f4zz (by decide) (by omega) (by omega)
  refine Or.inr ⟨N1, N2, _, _, _, _, _, _, _, h1, h2, t4zz, by omega, ⟨by omega, by omega⟩, t3zz, by omega, rfl, SR.tM, h38, fun jzz hj => ⟨?_, ?_⟩, ?_, ?_, fun czz => by cases czz⟩
  · rw [m1_at, if_neg (by omega)]
  · rw [m37_at, if_neg (by omega)]
  · rw [m1_at, if_pos rfl, m37_at, if_pos rfl, hw]
  · rw [m1_at, if_pos rfl]; exact i64_of32 _
set_option maxHeartbeats 200000 in
theorem ev_word {od : Bool} {nc ns : Nat} {oc : Ob} {s2zz w2zz : Nat → Int32} {v3 v6 v2 : Int32} {B1 B2 : Nat} {y1 : Int64 × Ob} {y2 : Ob} (e6zz : v6.toInt = (B1 : Int)) (e3zz : (B1 : Int) ≤ v3.toInt) (hB1 : B1 ≤ 400) (e2zz : v2.toInt = (B2 : Int)) (hB2 : B2 ≤ 400) {a1zz a2 : Nat} (hs1 : gA oc 5 a1zz = 1) (hw : WD od (gA oc 6 a1zz) (s2zz a2) (w2zz a2)) : EvP od nc ns oc s2zz w2zz v3 v6 v2 B1 B2 y1 y2 false a1zz (a1zz + 1) a2 (a2 + 1) 1 := by
  refine ⟨⟨by omega, by omega, by omega⟩, fun hb1 hb2 N1 N2 v4zz v5 v7 w3zz w4zz mezz o qzz h1 h2 e4zz e5zz e7zz f3zz f4zz hq hE hR h38 => ?_⟩
  cases N1 with
  | zero => cases h1
  | succ N1 =>
  cases N2 with
  | zero => cases h2
  | succ N2 =>
  have hwr : 0 ≤ (gA oc 6 a1zz).toInt ∧ (gA oc 6 a1zz).toInt ≤ 18 := by
    rcases hw with ⟨kzz, hk, ew, -⟩ | ⟨-, pzz, hp, -, ⟨ew, -⟩ | ⟨ew, -⟩⟩
    · rcases hk with hk | ⟨-, hk⟩ <;> omega
    · omega
    · omega
  have h1 := c_word e5zz (by omega) (by omega) e4zz (by omega) hs1 hwr h1
  have h2 := r_word hE hw f3zz (r_step hR f4zz e2zz (by omega) hB2 h38 h2)
  have t4zz : (v4zz + (1 : Int32)).toInt = (qzz : Int) + 1 := i32_add e4zz (by decide) (by omega) (by omega)
  have t3zz : (w3zz + (1 : Int32)).toInt = (qzz : Int) + 1 := i32_add f3zz (by decide) (by omega) (by omega)
  have t5zz : (v5 + (1 : Int32)).toInt = (a1zz : Int) + 1 := i32_add e5zz (by decide) (by omega) (by omega)
  have t7 : (v7 + (1 : Int32)).toInt = v7.toInt + 1 := i32_add rfl (by decide) (by omega) (by omega)
  have t8 : (w4zz + (1 : Int32)).toInt = (a2 : Int) + 1 := i32_add f4zz (by decide) (by omega) (by omega)
  refine Or.inr ⟨N1, N2, _, _, _, _, _, _, _, h1, h2, t4zz, by omega, ⟨by omega, by omega⟩, t3zz, by omega, rfl, SR.tM, h38, fun jzz hj => ⟨?_, ?_⟩, ?_, ?_, fun czz => by cases czz⟩
  · rw [m1_at, if_neg (by omega)]
  · rw [m37_at, if_neg (by omega)]
  · rw [m1_at, if_pos rfl, m37_at, if_pos rfl]
  · rw [m1_at, if_pos rfl]; exact i64_of32 _
set_option maxHeartbeats 200000 in
theorem ev_ao {od : Bool} {nc ns : Nat} {oc : Ob} {s2zz w2zz : Nat → Int32} {v3 v6 v2 : Int32} {B1 B2 : Nat} {y1 : Int64 × Ob} {y2 : Ob} (e6zz : v6.toInt = (B1 : Int)) (e3zz : (B1 : Int) ≤ v3.toInt) (hB1 : B1 ≤ 400) (e2zz : v2.toInt = (B2 : Int)) (hB2 : B2 ≤ 400) {a1zz m1zz b1 a2 m2zz b2 n n' : Nat} (p1zz : EvP od nc ns oc s2zz w2zz v3 v6 v2 B1 B2 y1 y2 true a1zz m1zz a2 m2zz n) (p2zz : EvP od nc ns oc s2zz w2zz v3 v6 v2 B1 B2 y1 y2 true (m1zz + 1) b1 (m2zz + 1) b2 n') (hop : opA (gA oc 5 m1zz) (s2zz m2zz)) (hj1 : (gA oc 6 m1zz).toInt = (b1 : Int)) (hj2 : (w2zz m2zz).toInt = (b2 : Int)) : EvP od nc ns oc s2zz w2zz v3 v6 v2 B1 B2 y1 y2 true a1zz b1 a2 b2 (n + n') := by
  have l1 := p1zz.1
  have l2 := p2zz.1
  refine ⟨⟨by omega, by omega, by omega⟩, fun hb1 hb2 N1 N2 v4zz v5 v7 w3zz w4zz mezz o qzz h1 h2 e4zz e5zz e7zz f3zz f4zz hq hE hR h38 => ?_⟩
  have hq4 : qzz ≤ 400 := by omega
  rcases p1zz.2 (by omega) (by omega) N1 N2 v4zz v5 v7 w3zz w4zz mezz o qzz h1 h2 e4zz e5zz e7zz f3zz f4zz (by omega) hE hR h38 with br | ⟨N1, N2, v4zz, v5, v7, w3zz, w4zz, me1, o1, h1, h2, e4zz, e5zz, e7zz, f3zz, f4zz, g0, gS, g38, gk, gv, gr, gt⟩
  · exact Or.inl br
  have hv := gt rfl
  have hvo : gM o1 37 qzz = 0 ∨ gM o1 37 qzz = 1 := by rw [← gv]; exact hv
  cases N1 with
  | zero => cases h1
  | succ N1 =>
  cases N2 with
  | zero => cases h2
  | succ N2 =>
  have hs : (2 ≤ (gA oc 5 m1zz).toInt ∧ (gA oc 5 m1zz).toInt ≤ 4) ∧ (gA oc 5 m1zz = 3 ∨ gA oc 5 m1zz = 4) ∧ (s2zz m2zz = 29 ∨ s2zz m2zz = 30) := by
    rcases hop with ⟨x1zz, x2zz⟩ | ⟨x1zz, x2zz⟩ <;> rw [x1zz, x2zz] <;> decide
  have h2 := r_ao (qzz := qzz) f3zz (by omega) hs.2.2 hvo (r_step (hR.sr gS) f4zz e2zz (by omega) hB2 g38 h2)
  obtain ⟨x5zz, g5zz, t5zz⟩ := inc1 e5zz (by omega) (by omega)
  obtain ⟨x7, g7, t7⟩ := inc1 (xzz := v7) rfl e7zz.1 (by omega)
  obtain ⟨x8, g8, t8⟩ := inc1 f4zz (by omega) (by omega)
  obtain ⟨x4zz, g4, t4zz⟩ := dec1 (kzz := qzz) e4zz hq4
  obtain ⟨x3, g3zz, t3zz⟩ := dec1 (kzz := qzz) f3zz hq4
  have stayzz : ∀ xzz : Int32, xzz.toInt = (b1 : Int) → lp_X3_worth_O_30 nc ns oc N1 (v3, v4zz, xzz, v6, x7, me1) = some y1 → lp_X9_reckonAll_10 N2 (v2, w3zz, w2zz m2zz, o1) = some y2 → CtE nc ns oc v3 v6 v2 y1 y2 true qzz b1 b2 mezz o := fun xzz exzz k1zz k2zz => ⟨N1, N2, v4zz, xzz, x7, w3zz, w2zz m2zz, me1, o1, k1zz, k2zz, e4zz, exzz, ⟨by omega, by omega⟩, f3zz, hj2, g0, gS, g38, gk, gv, gr, fun _ => hv⟩
  have gozz : lp_X3_worth_O_30 nc ns oc N1 (v3, x4zz, x5zz, v6, x7, me1) = some y1 → lp_X9_reckonAll_10 N2 (v2, x3, x8, o1) = some y2 → (y1.1 = -9000000000000000000 ∧ gI y2 38 = 1) ∨ CtE nc ns oc v3 v6 v2 y1 y2 true qzz b1 b2 mezz o := fun k1zz k2zz => by
    rcases p2zz.2 (by omega) (by omega) N1 N2 _ _ _ _ _ me1 o1 qzz k1zz k2zz (by omega) (by omega) ⟨by omega, by omega⟩ (by omega) (by omega) (by omega) (hE.sr g0 gS) (hR.sr gS) g38 with br | ⟨M1zz, M2zz, u4zz, u5, u7, m3zz, m4zz, me2, o2, k1zz, k2zz, d4zz, d5zz, d7zz, c3zz, c4zz, k0zz, kS, k38, kk, kv, kr, kt⟩
    · exact Or.inl br
    · exact Or.inr ⟨M1zz, M2zz, u4zz, u5, u7, m3zz, m4zz, me2, o2, k1zz, k2zz, d4zz, d5zz, d7zz, c3zz, c4zz, k0zz.trans g0, gS.tr kS, k38, fun jzz hj => ⟨(kk jzz hj).1.trans (gk jzz hj).1, (kk jzz hj).2.trans (gk jzz hj).2⟩, kv, kr, kt⟩
  have n01 : ¬ (0 : Int64) = 1 := by decide
  rcases c_one (qzz := qzz) e5zz (by omega) (by omega) e4zz (by omega) hs.1 hv h1 with ⟨cv, h1⟩ | ⟨cv, h1⟩
  · rcases c_ao hs.2.1 (Or.inr rfl) hj1 (by rw [← g5zz]; omega) h1 with ⟨czz, xzz, exzz, h1⟩ | ⟨czz, h1⟩
    · rcases czz with ⟨-, czz⟩ | ⟨czz, -⟩
      · exact absurd czz (by decide)
      · rcases h2 with ⟨-, h2⟩ | ⟨d, -⟩
        · exact Or.inr (stayzz xzz exzz (by rw [g7]; exact h1) h2)
        · rcases hop with ⟨x1zz, -⟩ | ⟨-, x2zz⟩
          · rw [x1zz] at czz; exact absurd czz (by decide)
          · rcases d with ⟨d, -⟩ | ⟨-, d⟩
            · rw [x2zz] at d; exact absurd d (by decide)
            · rw [← gv, cv] at d; exact absurd d.symm n01
    · rcases czz with ⟨czz, -⟩ | ⟨-, czz⟩
      · rcases h2 with ⟨d, -⟩ | ⟨-, h2⟩
        · rcases hop with ⟨-, x2zz⟩ | ⟨x1zz, -⟩
          · rcases d with ⟨-, d⟩ | ⟨d, -⟩
            · rw [← gv, cv] at d; exact absurd d.symm n01
            · rw [x2zz] at d; exact absurd d (by decide)
          · rw [x1zz] at czz; exact absurd czz (by decide)
        · exact gozz (by rw [g4, g5zz, g7]; exact h1) (by rw [g3zz, g8]; exact h2)
      · exact absurd czz (by decide)
  · rcases c_ao hs.2.1 (Or.inl rfl) hj1 (by rw [← g5zz]; omega) h1 with ⟨czz, xzz, exzz, h1⟩ | ⟨czz, h1⟩
    · rcases czz with ⟨czz, -⟩ | ⟨-, czz⟩
      · rcases h2 with ⟨-, h2⟩ | ⟨d, -⟩
        · exact Or.inr (stayzz xzz exzz (by rw [g7]; exact h1) h2)
        · rcases hop with ⟨-, x2zz⟩ | ⟨x1zz, -⟩
          · rcases d with ⟨-, d⟩ | ⟨d, -⟩
            · rw [← gv, cv] at d; exact absurd d n01
            · rw [x2zz] at d; exact absurd d (by decide)
          · rw [x1zz] at czz; exact absurd czz (by decide)
      · exact absurd czz (by decide)
    · rcases czz with ⟨-, czz⟩ | ⟨czz, -⟩
      · exact absurd czz (by decide)
      · rcases h2 with ⟨d, -⟩ | ⟨-, h2⟩
        · rcases hop with ⟨x1zz, -⟩ | ⟨-, x2zz⟩
          · rw [x1zz] at czz; exact absurd czz (by decide)
          · rcases d with ⟨d, -⟩ | ⟨-, d⟩
            · rw [x2zz] at d; exact absurd d (by decide)
            · rw [← gv, cv] at d; exact absurd d n01
        · exact gozz (by rw [g4, g5zz, g7]; exact h1) (by rw [g3zz, g8]; exact h2)
set_option maxHeartbeats 200000 in
theorem ev_no1 {od : Bool} {nc ns : Nat} {oc : Ob} {s2zz w2zz : Nat → Int32} {v3 v6 v2 : Int32} {B1 B2 : Nat} {y1 : Int64 × Ob} {y2 : Ob} (e6zz : v6.toInt = (B1 : Int)) (e3zz : (B1 : Int) ≤ v3.toInt) (hB1 : B1 ≤ 400) (e2zz : v2.toInt = (B2 : Int)) (hB2 : B2 ≤ 400) {a1zz b1 a2 b2 n : Nat} (p1zz : EvP od nc ns oc s2zz w2zz v3 v6 v2 B1 B2 y1 y2 true a1zz b1 a2 b2 n) (hs1 : gA oc 5 b1 = 2) (hs2 : s2zz b2 = 28) : EvP od nc ns oc s2zz w2zz v3 v6 v2 B1 B2 y1 y2 true a1zz (b1 + 1) a2 (b2 + 1) n := by
  have l1 := p1zz.1
  refine ⟨⟨by omega, by omega, by omega⟩, fun hb1 hb2 N1 N2 v4zz v5 v7 w3zz w4zz mezz o qzz h1 h2 e4zz e5zz e7zz f3zz f4zz hq hE hR h38 => ?_⟩
  rcases p1zz.2 (by omega) (by omega) N1 N2 v4zz v5 v7 w3zz w4zz mezz o qzz h1 h2 e4zz e5zz e7zz f3zz f4zz (by omega) hE hR h38 with br | ⟨N1, N2, v4zz, v5, v7, w3zz, w4zz, me1, o1, h1, h2, e4zz, e5zz, e7zz, f3zz, f4zz, g0, gS, g38, gk, gv, gr, gt⟩
  · exact Or.inl br
  have hv := gt rfl
  cases N1 with
  | zero => cases h1
  | succ N1 =>
  cases N2 with
  | zero => cases h2
  | succ N2 =>
  have h2 := r_step (hR.sr gS) f4zz e2zz (by omega) hB2 g38 h2
  rw [hs2] at h2
  have h2 := r_not (qzz := qzz) f3zz (by omega) h2
  have h1 : ∃ s0zz : Int32, lp_X3_worth_O_30 nc ns oc N1 (v3, v4zz, v5 + 1, v6, v7 + 1, tM me1 1 qzz (if s0zz = 0 then 1 else 0)) = some y1 ∧ (1 : Int64) - gM o1 37 qzz = (if s0zz = 0 then 1 else 0) := by
    have hs : 2 ≤ (gA oc 5 b1).toInt ∧ (gA oc 5 b1).toInt ≤ 4 := by rw [hs1]; decide
    rcases c_one (qzz := qzz) e5zz (by omega) (by omega) e4zz (by omega) hs hv h1 with ⟨cv, h1⟩ | ⟨cv, h1⟩
    · rw [hs1] at h1
      exact ⟨1, c_not e4zz (by omega) h1, by rw [← gv, cv]; decide⟩
    · rw [hs1] at h1
      exact ⟨0, c_not e4zz (by omega) h1, by rw [← gv, cv]; decide⟩
  obtain ⟨s0zz, h1, evzz⟩ := h1
  have t5zz : (v5 + (1 : Int32)).toInt = (b1 : Int) + 1 := i32_add e5zz (by decide) (by omega) (by omega)
  have t7 : (v7 + (1 : Int32)).toInt = v7.toInt + 1 := i32_add rfl (by decide) (by omega) (by omega)
  have t8 : (w4zz + (1 : Int32)).toInt = (b2 : Int) + 1 := i32_add f4zz (by decide) (by omega) (by omega)
  refine Or.inr ⟨N1, N2, _, _, _, _, _, _, _, h1, h2, e4zz, by omega, ⟨by omega, by omega⟩, f3zz, by omega, g0, gS.tr SR.tM, g38, fun jzz hj => ⟨?_, ?_⟩, ?_, ?_, fun _ => ?_⟩
  · rw [m1_at, if_neg (by omega)]; exact (gk jzz hj).1
  · rw [m37_at, if_neg (by omega)]; exact (gk jzz hj).2
  · rw [m1_at, if_pos rfl, m37_at, if_pos rfl, evzz]
  · rw [m1_at, if_pos rfl]
    by_cases czz : s0zz = 0
    · rw [if_pos czz]; decide
    · rw [if_neg czz]; decide
  · rw [m1_at, if_pos rfl]
    by_cases czz : s0zz = 0
    · rw [if_pos czz]; exact Or.inr rfl
    · rw [if_neg czz]; exact Or.inl rfl
set_option maxHeartbeats 200000 in
theorem ev_no2 {od : Bool} {nc ns : Nat} {oc : Ob} {s2zz w2zz : Nat → Int32} {v3 v6 v2 : Int32} {B1 B2 : Nat} {y1 : Int64 × Ob} {y2 : Ob} (e6zz : v6.toInt = (B1 : Int)) (e3zz : (B1 : Int) ≤ v3.toInt) (hB1 : B1 ≤ 400) (e2zz : v2.toInt = (B2 : Int)) (hB2 : B2 ≤ 400) {a1zz b1 a2 b2 n : Nat} (p1zz : EvP od nc ns oc s2zz w2zz v3 v6 v2 B1 B2 y1 y2 true a1zz b1 a2 b2 n) (hs1 : s2zz b2 = 28) (hs2 : s2zz (b2 + 1) = 28) : EvP od nc ns oc s2zz w2zz v3 v6 v2 B1 B2 y1 y2 true a1zz b1 a2 (b2 + 2) n := by
  have l1 := p1zz.1
  refine ⟨⟨by omega, by omega, by omega⟩, fun hb1 hb2 N1 N2 v4zz v5 v7 w3zz w4zz mezz o qzz h1 h2 e4zz e5zz e7zz f3zz f4zz hq hE hR h38 => ?_⟩
  rcases p1zz.2 (by omega) (by omega) N1 N2 v4zz v5 v7 w3zz w4zz mezz o qzz h1 h2 e4zz e5zz e7zz f3zz f4zz (by omega) hE hR h38 with br | ⟨N1, N2, v4zz, v5, v7, w3zz, w4zz, me1, o1, h1, h2, e4zz, e5zz, e7zz, f3zz, f4zz, g0, gS, g38, gk, gv, gr, gt⟩
  · exact Or.inl br
  have hv := gt rfl
  cases N2 with
  | zero => cases h2
  | succ N2 =>
  have h2 := r_step (hR.sr gS) f4zz e2zz (by omega) hB2 g38 h2
  rw [hs1] at h2
  have h2 := r_not (qzz := qzz) f3zz (by omega) h2
  cases N2 with
  | zero => cases h2
  | succ N2 =>
  have t8 : (w4zz + (1 : Int32)).toInt = ((b2 + 1 : Nat) : Int) := by
    have := i32_add (x := w4zz) (y := 1) (b := 1) f4zz (by decide) (by omega) (by omega)
    omega
  have h2 := r_step (o := tM o1 37 qzz ((1 : Int64) - gM o1 37 qzz)) (hR.sr (gS.tr SR.tM)) t8 e2zz (by omega) hB2 g38 h2
  rw [hs2] at h2
  have h2 := r_not (qzz := qzz) f3zz (by omega) h2
  rw [m37_at, if_pos rfl] at h2
  have evzz : (1 : Int64) - ((1 : Int64) - gM o1 37 qzz) = gM o1 37 qzz := by
    rw [← gv]
    rcases hv with czz | czz <;> rw [czz] <;> decide
  rw [evzz] at h2
  have t9 : ((w4zz + (1 : Int32)) + (1 : Int32)).toInt = ((b2 + 1 : Nat) : Int) + 1 := i32_add t8 (by decide) (by omega) (by omega)
  refine Or.inr ⟨N1, N2, _, _, _, _, _, _, _, h1, h2, e4zz, e5zz, e7zz, f3zz, by omega, g0, (gS.tr SR.tM).tr SR.tM, g38, fun jzz hj => ⟨(gk jzz hj).1, ?_⟩, ?_, gr, fun _ => hv⟩
  · rw [m37_at, if_neg (by omega), m37_at, if_neg (by omega)]; exact (gk jzz hj).2
  · rw [m37_at, if_pos rfl]; exact gv
set_option maxHeartbeats 200000 in
theorem ev_main {od : Bool} {nc ns : Nat} {oc : Ob} {s2zz w2zz : Nat → Int32} {v3 v6 v2 : Int32} {B1 B2 : Nat} {y1 : Int64 × Ob} {y2 : Ob} (e6zz : v6.toInt = (B1 : Int)) (e3zz : (B1 : Int) ≤ v3.toInt) (hB1 : B1 ≤ 400) (e2zz : v2.toInt = (B2 : Int)) (hB2 : B2 ≤ 400) {t : Bool} {a1zz b1 a2 b2 n : Nat} (hzz : Sx od (gA oc 5) (gA oc 6) s2zz w2zz t a1zz b1 a2 b2 n) : EvP od nc ns oc s2zz w2zz v3 v6 v2 B1 B2 y1 y2 t a1zz b1 a2 b2 n := by
  exact hzz (EvP od nc ns oc s2zz w2zz v3 v6 v2 B1 B2 y1 y2) ⟨fun a1zz a2 hs1 hs2 hw => ev_num e6zz e3zz hB1 e2zz hB2 hs1 hs2 hw,
    fun a1zz a2 hs1 hw => ev_word e6zz e3zz hB1 e2zz hB2 hs1 hw,
    fun a1zz m1zz b1 a2 m2zz b2 n n' p1zz p2zz hop => ev_bin e6zz e3zz hB1 e2zz hB2 p1zz p2zz (Or.inl hop) (fun czz => by cases czz),
    fun a1zz m1zz b1 a2 m2zz b2 n n' p1zz p2zz hop => ev_bin e6zz e3zz hB1 e2zz hB2 p1zz p2zz (Or.inr hop) (fun _ => hop),
    fun a1zz m1zz b1 a2 m2zz b2 n n' p1zz p2zz hop hj1 hj2 => ev_ao e6zz e3zz hB1 e2zz hB2 p1zz p2zz hop hj1 hj2,
    fun a1zz b1 a2 b2 n p1zz hs1 hs2 => ev_no1 e6zz e3zz hB1 e2zz hB2 p1zz hs1 hs2,
    fun a1zz b1 a2 b2 n p1zz hs1 hs2 => ev_no2 e6zz e3zz hB1 e2zz hB2 p1zz hs1 hs2⟩
set_option maxHeartbeats 200000 in
theorem ev_all {od : Bool} {nc ns : Nat} {oc mezz o : Ob} {s2zz w2zz : Nat → Int32} {t : Bool} {a1zz b1 a2 b2 n : Nat} {p1zz p2zz r1zz r2 : Int32} {y1 : Int64 × Ob} {y2 : Ob} (hzz : Sx od (gA oc 5) (gA oc 6) s2zz w2zz t a1zz b1 a2 b2 n) (hn : n ≤ 50) (hb1 : b1 ≤ 400) (hb2 : b2 ≤ 400) (hst : (b1 : Int) ≤ (gI oc 8).toInt) (e1zz : p1zz.toInt = (a1zz : Int)) (e2zz : p2zz.toInt = (b1 : Int)) (f1zz : r1zz.toInt = (a2 : Int)) (f2zz : r2.toInt = (b2 : Int)) (hE : EWo od mezz o) (hR : RD s2zz w2zz o) (h1 : f_X3_worth_O nc ns mezz oc p1zz p2zz = some y1) (h2 : f_X9_reckonAll o r1zz r2 = some y2) :
    (y1.1 = -9000000000000000000 ∧ gI y2 38 = 1) ∨ (gI y2 38 = 0 ∧ y1.1 = gL y2 39 ∧ (-2147483648 ≤ y1.1.toInt ∧ y1.1.toInt ≤ 2147483647) ∧ (t = true → y1.1 = 0 ∨ y1.1 = 1)) := by
  have l := hzz.lt
  have z0 : (0 : Int32).toInt = 0 := by decide
  have n0zz : (0 : Int32).toNatClampNeg = 0 := by decide
  unfold f_X3_worth_O at h1
  have h1 := z_t h1 (Int32.lt_iff_toInt_lt.mpr (by omega))
  obtain ⟨x1zz, g1, h1⟩ := z_lt h1
  obtain ⟨x2zz, g2, h1⟩ := z_lt h1
  have t1zz : x1zz.toInt = (a1zz : Int) := by
    rw [g1]
    by_cases czz : (0 : Int32) < p1zz
    · rw [if_pos czz]; exact e1zz
    · have d := cv_nlt (a := 0) (b := (a1zz : Int)) z0 e1zz czz
      rw [if_neg czz, z0]; omega
  have t2zz : x2zz.toInt = (b1 : Int) := by
    rw [g2]
    by_cases czz : gI oc 8 < p2zz
    · have d := cv_lt (a := (gI oc 8).toInt) (b := (b1 : Int)) rfl e2zz czz
      omega
    · rw [if_neg czz]; exact e2zz
  unfold f_X9_reckonAll at h2
  obtain ⟨o1, k1zz, h2⟩ := z_lt h2
  have s1zz : SR o o1 := by rw [k1zz]; exact SR.sI
  have k38 : gI o1 38 = 0 := by rw [k1zz]; rfl
  rcases (ev_main (nc := nc) (ns := ns) (v3 := p2zz) (v6 := x2zz) (v2 := r2) (B1 := b1) (B2 := b2) (y1 := y1) (y2 := y2) t2zz (by omega) hb1 f2zz hb2 hzz).2 (Nat.le_refl _) (Nat.le_refl _) zfu zfu 0 x1zz p1zz 0 r1zz mezz o1 0 h1 h2 (by decide) t1zz ⟨by omega, by omega⟩ (by decide) f1zz (by omega) (hE.sr rfl s1zz) (hR.sr s1zz) k38 with br | ⟨N1, N2, v4zz, v5, v7, w3zz, w4zz, me', o', h1, h2, e4zz, e5zz, e7zz, f3zz, f4zz, -, -, g38, -, gv, gr, gt⟩
  · exact Or.inl br
  · refine Or.inr ?_
    cases N1 with
    | zero => cases h1
    | succ N1 =>
    cases N2 with
    | zero => cases h2
    | succ N2 =>
    have h1 : lb_X3_worth_O_30 nc ns oc (lp_X3_worth_O_30 nc ns oc N1) p2zz v4zz v5 x2zz v7 me' = some y1 := h1
    have h2 : lb_X9_reckonAll_10 (lp_X9_reckonAll_10 N2) r2 w3zz w4zz o' = some y2 := h2
    unfold lb_X3_worth_O_30 at h1
    unfold lb_X9_reckonAll_10 at h2
    have e1' : v4zz = 1 := Int32.toInt_inj.mp ((show v4zz.toInt = 1 by omega).trans (by decide))
    have h287 : bk_X3_worth_O_287 nc ns oc v4zz me' = some y1 := by
      by_cases czz : p2zz ≤ v7
      · exact z_t h1 czz
      · exact z_t (z_f h1 czz) (Int32.le_iff_toInt_le.mpr (by omega))
    unfold bk_X3_worth_O_287 at h287
    have h287 := Option.some.inj (z_t h287 e1')
    have h2 := z_t h2 (Int32.le_iff_toInt_le.mpr (by omega))
    unfold bk_X9_reckonAll_353 at h2
    have h2 := z_f h2 (fun czz => by have czz := cv_le (a := w3zz.toInt) (b := 0) rfl z0 czz; omega)
    unfold bk_X9_reckonAll_368 at h2
    obtain ⟨o2, k2zz, h2⟩ := z_lt h2
    have h2 := Option.some.inj h2
    rw [← h287, ← h2, k2zz, n0zz]
    exact ⟨g38, gv, gr, gt⟩
