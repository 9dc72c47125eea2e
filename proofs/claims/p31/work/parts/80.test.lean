theorem i64_mul {x y : Int64} {a b : Int} (hx : x.toInt = a) (hy : y.toInt = b) (h1 : -9223372036854775808 ≤ a * b) (h2 : a * b ≤ 9223372036854775807) : (x * y).toInt = a * b := by
  rw [Int64.toInt_mul, hx, hy]
  exact Int.bmod_eq_of_le (by omega) (by omega)
theorem i64_rem {x y : Int64} {m : Int} (hy : y.toInt = m) (hm : 0 < m) (hx : 0 ≤ x.toInt) : 0 ≤ (x - x / y * y).toInt ∧ (x - x / y * y).toInt ≤ m - 1 := by
  have hr := i64_rg x
  have h1 : 0 ≤ x.toInt / m := Int.ediv_nonneg hx (by omega)
  have h2 : x.toInt / m * m ≤ x.toInt := Int.ediv_mul_le _ (by omega)
  have h2b : x.toInt / m ≤ x.toInt := Int.ediv_le_self _ hx
  have h3 : (x / y).toInt = x.toInt / m := by
    rw [Int64.toInt_div, hy, Int.tdiv_eq_ediv_of_nonneg hx]
    exact Int.bmod_eq_of_le (by omega) (by omega)
  have h0 : 0 ≤ x.toInt / m * m := Int.mul_nonneg h1 (by omega)
  have h4 : (x / y * y).toInt = x.toInt / m * m := i64_mul h3 hy (by omega) (by omega)
  have h5 : (x - x / y * y).toInt = x.toInt - x.toInt / m * m := i64_sub rfl h4 (by omega) (by omega)
  have h6 := Int.emod_nonneg x.toInt (show m ≠ 0 by omega)
  have h7 := Int.emod_lt_of_pos x.toInt hm
  have h8 : x.toInt % m = x.toInt - m * (x.toInt / m) := Int.emod_def _ _
  have h9 : m * (x.toInt / m) = x.toInt / m * m := Int.mul_comm _ _
  rw [h5]
  omega
theorem Kp.nil {o o' : Ob} : Kp [] [] [] o o' := ⟨fun _ h => absurd h List.not_mem_nil, fun _ h => absurd h List.not_mem_nil, fun _ h => absurd h List.not_mem_nil⟩
-- a law's code in the pool
theorem h9last {o : Ob} (h : IvX9 o) : EX9 (gA o 3) (gA o 4) (gA o 6) (gA o 9) ∧ (0 ≤ (gL o 60).toInt ∧ (gL o 60).toInt ≤ 1000002) := h.2.2.2.2.2.2.2.2.2.2.2.2.2.2.2.2.2.2.2.2.2.2.2
theorem ivX9_of {o o' : Ob} (h : IvX9 o) (hI : ∀ i, gI o' i = gI o i) (hL : gL o' 60 = gL o 60) (hA : ∀ i, i ≠ 3 → i ≠ 4 → gA o' i = gA o i) (s3 : sgd rowS (gA o' 3)) (hx : EX9 (gA o' 3) (gA o' 4) (gA o' 6) (gA o' 9)) : IvX9 o' := ⟨by rw [hI 8]; exact h.1, by rw [hI 13]; exact h.2.1, by rw [hI 14]; exact h.2.2.1, by rw [hI 15]; exact h.2.2.2.1, by rw [hI 16]; exact h.2.2.2.2.1, by rw [hI 19]; exact h.2.2.2.2.2.1, by rw [hI 20]; exact h.2.2.2.2.2.2.1, by rw [hI 21]; exact h.2.2.2.2.2.2.2.1, by rw [hI 23]; exact h.2.2.2.2.2.2.2.2.1, by rw [hI 26]; exact h.2.2.2.2.2.2.2.2.2.1, by rw [hI 29]; exact h.2.2.2.2.2.2.2.2.2.2.1, by rw [hI 30]; exact h.2.2.2.2.2.2.2.2.2.2.2.1, by rw [hI 38]; exact h.2.2.2.2.2.2.2.2.2.2.2.2.1, by rw [hI 43]; exact h.2.2.2.2.2.2.2.2.2.2.2.2.2.1, by rw [hI 59]; exact h.2.2.2.2.2.2.2.2.2.2.2.2.2.2.1, by rw [hI 62]; exact h.2.2.2.2.2.2.2.2.2.2.2.2.2.2.2.1, s3, by rw [hA 7 (by decide) (by decide)]; exact h.2.2.2.2.2.2.2.2.2.2.2.2.2.2.2.2.2.1, by rw [hA 10 (by decide) (by decide)]; exact h.2.2.2.2.2.2.2.2.2.2.2.2.2.2.2.2.2.2.1, by rw [hA 42 (by decide) (by decide)]; exact h.2.2.2.2.2.2.2.2.2.2.2.2.2.2.2.2.2.2.2.1, by rw [hA 48 (by decide) (by decide)]; exact h.2.2.2.2.2.2.2.2.2.2.2.2.2.2.2.2.2.2.2.2.1, by rw [hA 50 (by decide) (by decide)]; exact h.2.2.2.2.2.2.2.2.2.2.2.2.2.2.2.2.2.2.2.2.2.1, by rw [hA 51 (by decide) (by decide)]; exact h.2.2.2.2.2.2.2.2.2.2.2.2.2.2.2.2.2.2.2.2.2.2.1, hx, by rw [hL]; exact (h9last h).2⟩
theorem CW_eq {op arg op' arg' : Nat → Int32} {a b : Nat} (e : ∀ k, k < b → op' k = op k ∧ arg' k = arg k) (h : CW op arg a b) : CW op' arg' a b := by
  obtain ⟨t, h0, h1⟩ := h
  refine ⟨t, h0, fun k hk hb => ?_⟩
  have c := h1 k hk hb
  unfold CS at c ⊢
  rw [(e k hb).1, (e k hb).2]
  exact c
theorem WL_eqb {g g' : Nat → Int32} {s : Nat} (e : ∀ j, s ≤ j → j < s + 900 → g' j = g j) (h : WL g s) : WL g' s := by
  have e1 : g' (s + 1) = g (s + 1) := e _ (by omega) (by omega)
  refine ⟨by rw [e1]; exact h.1, fun c hc => ?_⟩
  rw [e1] at hc
  have h12 := h.1.2
  obtain ⟨a, b, d, hab, hbd, hd, q3, q4, q5, q6, w1, w2⟩ := h.2 c hc
  have eq : ∀ i : Nat, i ≤ 8 → g' (s + 2 + 8 * c + i) = g (s + 2 + 8 * c + i) := fun i hi => e _ (by omega) (by omega)
  refine ⟨a, b, d, hab, hbd, hd, ?_, ?_, ?_, ?_, ?_, ?_⟩
  · show (g' (s + 2 + 8 * c + 3)).toInt = _
    rw [eq 3 (by omega)]; exact q3
  · show (g' (s + 2 + 8 * c + 4)).toInt = _
    rw [eq 4 (by omega)]; exact q4
  · show (g' (s + 2 + 8 * c + 5)).toInt = _
    rw [eq 5 (by omega)]; exact q5
  · show (g' (s + 2 + 8 * c + 6)).toInt = _
    rw [eq 6 (by omega)]; exact q6
  · exact CW_eq (fun k hk => ⟨e _ (by omega) (by omega), e _ (by omega) (by omega)⟩) w1
  · exact CW_eq (fun k hk => ⟨e _ (by omega) (by omega), e _ (by omega) (by omega)⟩) w2
theorem rowS_lt : ∀ s ∈ rowS, s.2.1 < 84 := by decide
theorem EX9.img {row img img' und unb : Nat → Int32} {k : Nat} (h : EX9 row img und unb) (hr : sgd rowS row) (e1 : ∀ i, i < 5484 → img' (5484 * k + i) = row i) (e2 : ∀ j, j < 5484 * k ∨ 5484 * k + 5484 ≤ j → img' j = img j) : EX9 row img' und unb := by
  refine ⟨h.1, fun m hm => ?_, h.2.2⟩
  by_cases e : m = k
  · subst e
    refine ⟨fun l hl => WL_eqb (fun j hj hj2 => e1 j (by omega)) (h.1 l hl), fun j hj => ?_⟩
    rw [e1 j (by omega)]; exact sgd_pw.mp hr j
  · have h2 := h.2.1 m hm
    refine ⟨fun l hl => WL_eqb (fun j hj hj2 => e2 _ (by omega)) (h2.1 l hl), fun j hj => ?_⟩
    rw [e2 _ (by omega)]; exact h2.2 j hj
theorem EX9.bck {row row' img und unb : Nat → Int32} {k : Nat} (hk : k < 2) (h : EX9 row img und unb) (e1 : ∀ i, i < 5484 → row' i = img (5484 * k + i)) : EX9 row' img und unb ∧ sgd rowS row' := by
  have h2 := h.2.1 k hk
  refine ⟨⟨fun l hl => WL_eqb (g := fun i => img (5484 * k + i)) (fun j hj hj2 => e1 j (by omega)) (h2.1 l hl), h.2⟩, sgd_pw.mpr (fun j s hs g1 g2 => ?_)⟩
  have h3 := rowS_lt s hs
  rw [e1 j (by omega)]
  exact h2.2 j (by omega) s hs g1 g2
theorem pig : ∀ (n : Nat) (l : List Nat), l.Nodup → (∀ x ∈ l, x < n) → l.length ≤ n := by
  intro n
  induction n with
  | zero =>
    intro l _ h
    cases l with
    | nil => exact Nat.le_refl _
    | cons a l => exact absurd (h a (List.mem_cons_self ..)) (Nat.not_lt_zero _)
  | succ n ih =>
    intro l hd h
    by_cases hn : n ∈ l
    · have h1 := ih (l.erase n) (hd.erase n) (fun x hx => by
        have h2 := (hd.mem_erase_iff).mp hx
        have h3 := h x h2.2
        have h4 := h2.1
        omega)
      rw [List.length_erase_of_mem hn] at h1
      omega
    · have h1 := ih l hd (fun x hx => by
        have h3 := h x hx
        have h4 : x ≠ n := fun e => hn (e ▸ hx)
        omega)
      omega
def PS (g : Nat → Int32) : List Nat → Prop
  | [] => True
  | x :: r => (g r.length).toInt = (x : Int) ∧ PS g r
theorem PS_up {g : Nat → Int32} {j : Nat} {v : Int32} : ∀ (r : List Nat), r.length ≤ j → PS g r → PS (upd g j v) r := by
  intro r
  induction r with
  | nil => intro _ _; trivial
  | cons x r ih =>
    intro hj h
    have hj : r.length + 1 ≤ j := hj
    refine ⟨?_, ih (by omega) h.2⟩
    have e : upd g j v r.length = g r.length := if_neg (by omega)
    rw [e]; exact h.1
def LLc (o0 : Ob) (dn st : List Nat) : Prop := dn.Nodup ∧ st.Nodup ∧ (∀ a ∈ dn, ∀ b ∈ st, a ≠ b) ∧ (∀ x ∈ dn ++ st, x < 7) ∧ ∀ x ∈ dn ++ st, (gA o0 3 (29 + x)).toInt = -1 ∨ ∃ q ∈ dn, (gA o0 3 (29 + x)).toInt = (q : Int)
theorem LLc.le {o0 : Ob} {dn st : List Nat} (h : LLc o0 dn st) : dn.length + st.length ≤ 7 := by
  have h1 := pig 7 (dn ++ st) (List.nodup_append.mpr ⟨h.1, h.2.1, h.2.2.1⟩) h.2.2.2.1
  rw [List.length_append] at h1
  exact h1
theorem LLc.push {o0 : Ob} {dn st : List Nat} {p : Nat} (h : LLc o0 dn st) (hp : p < 7) (hn : p ∉ dn ++ st) (hpar : (gA o0 3 (29 + p)).toInt = -1 ∨ ∃ q ∈ dn, (gA o0 3 (29 + p)).toInt = (q : Int)) : LLc o0 dn (p :: st) := by
  obtain ⟨h1, h2, h3, h4, h5⟩ := h
  have n1 : p ∉ dn := fun z => hn (List.mem_append_left _ z)
  have n2 : p ∉ st := fun z => hn (List.mem_append_right _ z)
  have hm : ∀ x, x ∈ dn ++ p :: st → x = p ∨ x ∈ dn ++ st := by
    intro x hx
    rcases List.mem_append.mp hx with z | z
    · exact Or.inr (List.mem_append_left _ z)
    · rcases List.mem_cons.mp z with z | z
      · exact Or.inl z
      · exact Or.inr (List.mem_append_right _ z)
  refine ⟨h1, List.nodup_cons.mpr ⟨n2, h2⟩, fun a ha b hb => ?_, fun x hx => ?_, fun x hx => ?_⟩
  · rcases List.mem_cons.mp hb with e | e
    · subst e; exact fun e => n1 (e ▸ ha)
    · exact h3 a ha b e
  · rcases hm x hx with e | e
    · rw [e]; exact hp
    · exact h4 x e
  · rcases hm x hx with e | e
    · rw [e]; exact hpar
    · exact h5 x e
theorem LLc.pop {o0 : Ob} {dn st : List Nat} {p : Nat} (h : LLc o0 dn (p :: st)) : LLc o0 (p :: dn) st ∧ ∀ x ∈ (p :: dn) ++ st, (gA o0 3 (29 + x)).toInt ≠ (p : Int) := by
  obtain ⟨h1, h2, h3, h4, h5⟩ := h
  have hp : p ∉ dn := fun z => h3 p z p (List.mem_cons_self ..) rfl
  have h2 := List.nodup_cons.mp h2
  have hm : ∀ x, x ∈ (p :: dn) ++ st → x ∈ dn ++ p :: st := by
    intro x hx
    rcases List.mem_append.mp hx with z | z
    · rcases List.mem_cons.mp z with z | z
      · exact List.mem_append_right _ (z ▸ List.mem_cons_self ..)
      · exact List.mem_append_left _ z
    · exact List.mem_append_right _ (List.mem_cons_of_mem _ z)
  refine ⟨⟨List.nodup_cons.mpr ⟨hp, h1⟩, h2.2, fun a ha b hb => ?_, fun x hx => h4 x (hm x hx), fun x hx => ?_⟩, fun x hx e => ?_⟩
  · rcases List.mem_cons.mp ha with e | e
    · subst e; exact fun e => h2.1 (e ▸ hb)
    · exact h3 a e b (List.mem_cons_of_mem _ hb)
  · rcases h5 x (hm x hx) with z | ⟨q, hq, z⟩
    · exact Or.inl z
    · exact Or.inr ⟨q, List.mem_cons_of_mem _ hq, z⟩
  · rcases h5 x (hm x hx) with z | ⟨q, hq, z⟩
    · omega
    · have : q = p := by omega
      exact hp (this ▸ hq)
theorem h_ll89 (o0 : Ob) (P : Int32 × Ob → Prop) (rec46 : Int32 × Int32 × Ob → Option (Int32 × Ob)) (v1 v3 : Int32) (it : Nat) (e3 : v3.toInt = (it : Int)) (dn : List Nat) (hd : it ∈ dn)
    (hrec : ∀ (v2 : Int32) (o : Ob) (st : List Nat), IvX9 o → Kp [8, 13, 14, 15, 16, 19, 20, 21, 23, 26, 29, 30, 34, 38, 43, 59, 62] [3, 7, 10, 12, 22, 24, 25, 27, 28, 42, 48, 55] [(3, (0 : Int32))] o0 o → LLc o0 dn st → PS (gA o 50) st → v2.toInt = (st.length : Int) → wp (rec46 (v1, v2, o)) P) :
    ∀ (N : Nat) (v2 v4 : Int32) (o : Ob) (st : List Nat), IvX9 o → Kp [8, 13, 14, 15, 16, 19, 20, 21, 23, 26, 29, 30, 34, 38, 43, 59, 62] [3, 7, 10, 12, 22, 24, 25, 27, 28, 42, 48, 55] [(3, (0 : Int32))] o0 o → LLc o0 dn st → PS (gA o 50) st → v2.toInt = (st.length : Int) → -1 ≤ v4.toInt → v4.toInt ≤ 6 → (∀ x ∈ dn ++ st, (gA o0 3 (29 + x)).toInt = (it : Int) → v4.toInt < (x : Int)) → v4.toInt + 1 < (N : Int) → wp (lp_X9_layLine_89 rec46 N (v1, v2, v3, v4, o)) P := by
  intro N
  induction N with
  | zero => intro v2 v4 o st _ _ _ _ _ _ _ _ _; exfalso; omega
  | succ N ih =>
    intro v2 v4 o st hI hK hL hP e2 h4 h4b hB hN
    show wp (lb_X9_layLine_89 rec46 (lp_X9_layLine_89 rec46 N) v1 v2 v3 v4 o) P
    unfold lb_X9_layLine_89
    refine wp_if (fun c => hrec v2 o st hI hK hL hP e2) (fun c => ?_)
    have c := cv_nle (a := v4.toInt) (b := v3.toInt) rfl rfl c
    have k3 : gA o 3 = gA o0 3 := hK.2.1 3 (by decide)
    obtain ⟨p, ep⟩ : ∃ p : Nat, v4.toInt = (p : Int) := ⟨v4.toInt.toNat, by omega⟩
    have a1 : ((29 : Int32) + v4).toInt = 29 + (p : Int) := i32_add (by decide) ep (by omega) (by omega)
    have n1 : ((29 : Int32) + v4).toNatClampNeg = 29 + p := tnc_eq (by omega)
    have hle := hL.le
    have h120 : ∀ (w2 : Int32) (o' : Ob) (st' : List Nat), IvX9 o' → Kp [8, 13, 14, 15, 16, 19, 20, 21, 23, 26, 29, 30, 34, 38, 43, 59, 62] [3, 7, 10, 12, 22, 24, 25, 27, 28, 42, 48, 55] [(3, (0 : Int32))] o0 o' → LLc o0 dn st' → PS (gA o' 50) st' → w2.toInt = (st'.length : Int) → (∀ x ∈ dn ++ st', (gA o0 3 (29 + x)).toInt = (it : Int) → v4.toInt - 1 < (x : Int)) → wp (bk_X9_layLine_120 rec46 (lp_X9_layLine_89 rec46 N) v1 w2 v3 v4 o') P := by
      intro w2 o' st' g1 g2 g3 g4 g5 g6
      unfold bk_X9_layLine_120
      refine wp_lt (fun x8 e8 => ?_)
      have t8 : x8.toInt = v4.toInt + (-1) := by rw [e8]; exact i32_add rfl (by decide) (by omega) (by omega)
      exact ih w2 x8 o' st' g1 g2 g3 g4 g5 (by omega) (by omega) (fun x hx e => by have := g6 x hx e; omega) (by omega)
    refine wp_gd (zin_of (m := 5484) rfl (by omega) (by omega)) ?_
    refine wp_if (fun c2 => ?_) (fun c2 => h120 v2 o st hI hK hL hP e2 (fun x hx e => by have := hB x hx e; omega))
    rw [n1] at c2
    have c2 := cv_eq (a := (gA o 3 (29 + p)).toInt) (b := (it : Int)) rfl e3 c2
    rw [k3] at c2
    have hnew : p ∉ dn ++ st := fun z => by have := hB p z c2; omega
    have hL2 := hL.push (p := p) (by omega) hnew (Or.inr ⟨it, hd, c2⟩)
    have hle2 := hL2.le
    rw [List.length_cons] at hle2
    refine wp_gd (zin_of (m := 14) rfl (by omega) (by omega)) ?_
    refine wp_lt (fun o10 e10 => ?_)
    refine wp_lt (fun x11 e11 => ?_)
    have t11 : x11.toInt = v2.toInt + 1 := by rw [e11]; exact i32_add rfl (by decide) (by omega) (by omega)
    have n2 : v2.toNatClampNeg = st.length := tnc_eq e2
    have hI10 : IvX9 o10 := by rw [e10]; exact ibX9_50 hI (by omega) (Or.inr (Or.inr ⟨by omega, by omega⟩))
    refine h120 x11 o10 (p :: st) hI10 (hK.trans (by rw [e10]; exact Kp.tA (by decide) (by decide))) hL2 ?_ (by rw [List.length_cons]; omega) (fun x hx e => ?_)
    · have eg : gA o10 50 = upd (gA o 50) st.length v4 := by rw [e10, n2]; rfl
      rw [eg]
      refine ⟨?_, PS_up st (Nat.le_refl _) hP⟩
      have e : upd (gA o 50) st.length v4 st.length = v4 := if_pos rfl
      rw [e]; exact ep
    · rcases List.mem_append.mp hx with z | z
      · have := hB x (List.mem_append_left _ z) e; omega
      · rcases List.mem_cons.mp z with z | z
        · subst z; omega
        · have := hB x (List.mem_append_right _ z) e; omega
theorem h_ll46 (o0 : Ob) : ∀ (N : Nat) (v1 v2 : Int32) (o : Ob) (dn st : List Nat), IvX9 o → Kp [8, 13, 14, 15, 16, 19, 20, 21, 23, 26, 29, 30, 34, 38, 43, 59, 62] [3, 7, 10, 12, 22, 24, 25, 27, 28, 42, 48, 55] [(3, (0 : Int32))] o0 o → LLc o0 dn st → PS (gA o 50) st → v2.toInt = (st.length : Int) → 0 ≤ v1.toInt → v1.toInt ≤ (dn.length : Int) → 7 < N + dn.length → wp (lp_X9_layLine_46 N (v1, v2, o)) (fun (y : Int32 × Ob) => (0 ≤ y.1.toInt ∧ y.1.toInt ≤ 7) ∧ IvX9 y.2 ∧ Kp [8, 13, 14, 15, 16, 19, 20, 21, 23, 26, 29, 30, 34, 38, 43, 59, 62] [3, 7, 10, 12, 22, 24, 25, 27, 28, 42, 48, 55] [(3, (0 : Int32))] o0 y.2) := by
  intro N
  induction N with
  | zero => intro v1 v2 o dn st _ _ hL _ _ _ _ _; exfalso; have := hL.le; omega
  | succ N ih =>
    intro v1 v2 o dn st hI hK hL hP e2 h1 h1b hN
    have hle := hL.le
    show wp (lb_X9_layLine_46 (lp_X9_layLine_46 N) v1 v2 o) _
    unfold lb_X9_layLine_46
    refine wp_if (fun c => wp_some (by dsimp only; exact ⟨⟨h1, by omega⟩, hI, hK⟩)) (fun c => ?_)
    have c := cv_nle (a := v2.toInt) (b := 0) rfl (by decide) c
    cases st with
    | nil => exfalso; rw [List.length_nil] at e2; omega
    | cons it st =>
      rw [List.length_cons] at e2 hle
      refine wp_lt (fun x2 ex2 => ?_)
      have t2 : x2.toInt = (st.length : Int) := by
        have t : x2.toInt = v2.toInt + (-1) := by rw [ex2]; exact i32_add rfl (by decide) (by omega) (by omega)
        omega
      have n2 : x2.toNatClampNeg = st.length := tnc_eq t2
      refine wp_gd (zin_of (m := 14) rfl (by omega) (by omega)) ?_
      refine wp_lt (fun x4 ex4 => ?_)
      have t4 : x4.toInt = (it : Int) := by rw [ex4, n2]; exact hP.1
      have hit : it < 7 := hL.2.2.2.1 it (List.mem_append_right _ (List.mem_cons_self ..))
      obtain ⟨hL2, hne⟩ := hL.pop
      have r0 := iaX9_3_0 hI (j := 0) (by decide) (by decide)
      have h79 : ∀ (w1 : Int32) (o' : Ob), IvX9 o' → Kp [8, 13, 14, 15, 16, 19, 20, 21, 23, 26, 29, 30, 34, 38, 43, 59, 62] [3, 7, 10, 12, 22, 24, 25, 27, 28, 42, 48, 55] [(3, (0 : Int32))] o0 o' → gA o' 50 = gA o 50 → gA o' 3 = gA o 3 → 0 ≤ w1.toInt → w1.toInt ≤ (dn.length : Int) + 1 → wp (bk_X9_layLine_79 (lp_X9_layLine_46 N) w1 x2 x4 o') (fun (y : Int32 × Ob) => (0 ≤ y.1.toInt ∧ y.1.toInt ≤ 7) ∧ IvX9 y.2 ∧ Kp [8, 13, 14, 15, 16, 19, 20, 21, 23, 26, 29, 30, 34, 38, 43, 59, 62] [3, 7, 10, 12, 22, 24, 25, 27, 28, 42, 48, 55] [(3, (0 : Int32))] o0 y.2) := by
        intro w1 o' hI' hK' eg eg3 g1 g2
        unfold bk_X9_layLine_79
        refine wp_lt (fun x6 e6 => ?_)
        have t6 : x6.toInt = (gA o 3 (0 : Int32).toNatClampNeg).toInt - 1 := by rw [e6, eg3]; exact i32_sub rfl (by decide) (by omega) (by omega)
        refine h_ll89 o0 _ (lp_X9_layLine_46 N) w1 x4 it t4 (it :: dn) (List.mem_cons_self ..) (fun w2 o2 st2 f1 f2 f3 f4 f5 => ih w1 w2 o2 (it :: dn) st2 f1 f2 f3 f4 f5 g1 (by rw [List.length_cons]; omega) (by rw [List.length_cons]; omega)) zfu x2 x6 o' st hI' hK' hL2 (by rw [eg]; exact hP.2) t2 (by omega) (by omega) (fun x hx e => absurd e (hne x hx)) ?_
        show _ < ((100000 : Nat) : Int)
        omega
      refine wp_bd (s_X9_elder o x4 hI ⟨by omega, by omega⟩) (fun z5 _ => ?_)
      refine wp_if (fun c => h79 v1 o hI hK rfl rfl h1 (by omega)) (fun c => ?_)
      refine wp_gd (zin_of (m := 7) rfl (by omega) (by omega)) ?_
      refine wp_lt (fun o13 e13 => ?_)
      refine wp_lt (fun x14 e14 => ?_)
      have t14 : x14.toInt = v1.toInt + 1 := by rw [e14]; exact i32_add rfl (by decide) (by omega) (by omega)
      refine h79 x14 o13 ?_ (hK.trans (by rw [e13]; exact Kp.tA (by decide) (by decide))) (by rw [e13]; rfl) (by rw [e13]; rfl) (by omega) (by omega)
      rw [e13]; exact ibX9_51 hI (by omega) (Or.inr (Or.inr ⟨by omega, by omega⟩))
set_option maxHeartbeats 4000000 in
set_option maxRecDepth 100000 in
theorem ts_X9_layLine (o_me : Ob) (hI_me : IvX9 o_me)  : wp (f_X9_layLine   o_me) (fun (y : Int32 × Ob) => (0 ≤ y.1.toInt ∧ y.1.toInt ≤ 7) ∧ IvX9 y.2 ∧ Kp [8, 13, 14, 15, 16, 19, 20, 21, 23, 26, 29, 30, 34, 38, 43, 59, 62] [3, 7, 10, 12, 22, 24, 25, 27, 28, 42, 48, 55] [(3, (0 : Int32))] o_me y.2) := by
  have z0 : (0 : Int32).toInt = 0 := by decide
  have r0 := iaX9_3_0 hI_me (j := 0) (by decide) (by decide)
  have loop : ∀ (N : Nat) (v2 v3 : Int32) (o : Ob) (st : List Nat), IvX9 o → Kp [8, 13, 14, 15, 16, 19, 20, 21, 23, 26, 29, 30, 34, 38, 43, 59, 62] [3, 7, 10, 12, 22, 24, 25, 27, 28, 42, 48, 55] [(3, (0 : Int32))] o_me o → LLc o_me [] st → PS (gA o 50) st → v2.toInt = (st.length : Int) → -1 ≤ v3.toInt → v3.toInt ≤ 6 → (∀ x ∈ st, v3.toInt < (x : Int)) → v3.toInt + 1 < (N : Int) → wp (lp_X9_layLine_13 N (0, v2, v3, o)) (fun (y : Int32 × Ob) => (0 ≤ y.1.toInt ∧ y.1.toInt ≤ 7) ∧ IvX9 y.2 ∧ Kp [8, 13, 14, 15, 16, 19, 20, 21, 23, 26, 29, 30, 34, 38, 43, 59, 62] [3, 7, 10, 12, 22, 24, 25, 27, 28, 42, 48, 55] [(3, (0 : Int32))] o_me y.2) := by
    intro N
    induction N with
    | zero => intro v2 v3 o st _ _ _ _ _ _ _ _ _; exfalso; omega
    | succ N ih =>
      intro v2 v3 o st hI hK hL hP e2 h3 h3b hB hN
      show wp (lb_X9_layLine_13 (lp_X9_layLine_13 N) 0 v2 v3 o) _
      unfold lb_X9_layLine_13
      refine wp_if (fun c => ?_) (fun c => ?_)
      · exact h_ll46 o_me zfu 0 v2 o [] st hI hK hL hP e2 (by omega) (by rw [z0]; exact Int.ofNat_nonneg _) (by show 7 < 100000 + _; omega)
      have c := cv_nlt (a := v3.toInt) (b := 0) rfl (by decide) c
      have k3 : gA o 3 = gA o_me 3 := hK.2.1 3 (by decide)
      obtain ⟨p, ep⟩ : ∃ p : Nat, v3.toInt = (p : Int) := ⟨v3.toInt.toNat, by omega⟩
      have a1 : ((29 : Int32) + v3).toInt = 29 + (p : Int) := i32_add (by decide) ep (by omega) (by omega)
      have n1 : ((29 : Int32) + v3).toNatClampNeg = 29 + p := tnc_eq (by omega)
      have h40 : ∀ (w2 : Int32) (o' : Ob) (st' : List Nat), IvX9 o' → Kp [8, 13, 14, 15, 16, 19, 20, 21, 23, 26, 29, 30, 34, 38, 43, 59, 62] [3, 7, 10, 12, 22, 24, 25, 27, 28, 42, 48, 55] [(3, (0 : Int32))] o_me o' → LLc o_me [] st' → PS (gA o' 50) st' → w2.toInt = (st'.length : Int) → (∀ x ∈ st', v3.toInt - 1 < (x : Int)) → wp (bk_X9_layLine_40 (lp_X9_layLine_13 N) 0 w2 v3 o') (fun (y : Int32 × Ob) => (0 ≤ y.1.toInt ∧ y.1.toInt ≤ 7) ∧ IvX9 y.2 ∧ Kp [8, 13, 14, 15, 16, 19, 20, 21, 23, 26, 29, 30, 34, 38, 43, 59, 62] [3, 7, 10, 12, 22, 24, 25, 27, 28, 42, 48, 55] [(3, (0 : Int32))] o_me y.2) := by
        intro w2 o' st' g1 g2 g3 g4 g5 g6
        unfold bk_X9_layLine_40
        refine wp_lt (fun x16 e16 => ?_)
        have t16 : x16.toInt = v3.toInt + (-1) := by rw [e16]; exact i32_add rfl (by decide) (by omega) (by omega)
        exact ih w2 x16 o' st' g1 g2 g3 g4 g5 (by omega) (by omega) (fun x hx => by have := g6 x hx; omega) (by omega)
      refine wp_gd (zin_of (m := 5484) rfl (by omega) (by omega)) ?_
      refine wp_if (fun c2 => ?_) (fun c2 => h40 v2 o st hI hK hL hP e2 (fun x hx => by have := hB x hx; omega))
      rw [n1] at c2
      have c2 := cv_eq (a := (gA o 3 (29 + p)).toInt) (b := -1) rfl (by decide) c2
      rw [k3] at c2
      have hnew : p ∉ [] ++ st := fun z => by have := hB p z; omega
      have hL2 := hL.push (p := p) (by omega) hnew (Or.inl c2)
      have hle2 := hL2.le
      rw [List.length_cons, List.length_nil] at hle2
      refine wp_gd (zin_of (m := 14) rfl (by omega) (by omega)) ?_
      refine wp_lt (fun o18 e18 => ?_)
      refine wp_lt (fun x19 e19 => ?_)
      have t19 : x19.toInt = v2.toInt + 1 := by rw [e19]; exact i32_add rfl (by decide) (by omega) (by omega)
      have n2 : v2.toNatClampNeg = st.length := tnc_eq e2
      have hI18 : IvX9 o18 := by rw [e18]; exact ibX9_50 hI (by omega) (Or.inr (Or.inr ⟨by omega, by omega⟩))
      refine h40 x19 o18 (p :: st) hI18 (hK.trans (by rw [e18]; exact Kp.tA (by decide) (by decide))) hL2 ?_ (by rw [List.length_cons]; omega) (fun x hx => ?_)
      · have eg : gA o18 50 = upd (gA o 50) st.length v3 := by rw [e18, n2]; rfl
        rw [eg]
        refine ⟨?_, PS_up st (Nat.le_refl _) hP⟩
        have e : upd (gA o 50) st.length v3 st.length = v3 := if_pos rfl
        rw [e]; exact ep
      · rcases List.mem_cons.mp hx with z | z
        · subst z; omega
        · have := hB x z; omega
  unfold f_X9_layLine
  refine wp_lt (fun x1 e1 => ?_)
  have t1 : x1.toInt = (gA o_me 3 (0 : Int32).toNatClampNeg).toInt - 1 := by rw [e1]; exact i32_sub rfl (by decide) (by omega) (by omega)
  refine loop zfu 0 x1 o_me [] hI_me Kp.rf ⟨List.nodup_nil, List.nodup_nil, fun a ha => absurd ha List.not_mem_nil, fun x hx => absurd hx List.not_mem_nil, fun x hx => absurd hx List.not_mem_nil⟩ trivial (by decide) (by omega) (by omega) (fun x hx => absurd hx List.not_mem_nil) ?_
  show _ < ((100000 : Nat) : Int)
  omega
theorem upd_at {o : Ob} {k j i : Nat} {v : Int32} : gA (tA o k j v) k i = if i = j then v else gA o k i := by
  have e : gA (tA o k j v) k = upd (gA o k) j v := by
    show cond (Nat.beq k k) _ _ = _
    rw [Nat.beq_refl]; rfl
  rw [e]; rfl
theorem h_isFree38 (o : Ob) (v1 : Int32) (h1 : 0 ≤ v1.toInt) (h1b : v1.toInt ≤ 3) : ∀ (N : Nat) (v2 v3 : Int32), 0 ≤ v2.toInt → v2.toInt ≤ 1 → 0 ≤ v3.toInt → v3.toInt ≤ 4 → 4 < (N : Int) + v3.toInt → wp (lp_X9_isFree_38 o N (v1, v2, v3)) (fun _ => True) := by
  intro N
  induction N with
  | zero => intro v2 v3 _ _ _ _ _; exfalso; omega
  | succ N ih =>
    intro v2 v3 h2 h2b h3 h3b hN
    show wp (lb_X9_isFree_38 o (lp_X9_isFree_38 o N) v1 v2 v3) _
    unfold lb_X9_isFree_38
    refine wp_if (fun c => wp_gd (zbo_of h2 h2b) (wp_some trivial)) (fun c => ?_)
    have c := cv_nle (a := v1.toInt) (b := v3.toInt) rfl rfl c
    have h78 : ∀ s0 : Int32, 0 ≤ s0.toInt → s0.toInt ≤ 1 → wp (bk_X9_isFree_78 o (lp_X9_isFree_38 o N) v1 v3 s0) (fun _ => True) := by
      intro s0 g0 g1
      unfold bk_X9_isFree_78
      refine wp_lt (fun x3 e3 => ?_)
      have t3 : x3.toInt = v3.toInt + 1 := by rw [e3]; exact i32_add rfl (by decide) (by omega) (by omega)
      exact ih s0 x3 g0 g1 (by omega) (by omega) (by omega)
    have h77 : wp (bk_X9_isFree_77 o (lp_X9_isFree_38 o N) v1 v3) (fun _ => True) := h78 0 (by decide) (by decide)
    have h73 : wp (bk_X9_isFree_73 o (lp_X9_isFree_38 o N) v1 v3) (fun _ => True) := h78 1 (by decide) (by decide)
    refine wp_if (fun c => h77) (fun c => ?_)
    refine wp_gd (zin_of (m := 5) rfl (by omega) (by omega)) ?_
    refine wp_if (fun c => h73) (fun c => ?_)
    refine wp_gd (zin_of (m := 5) rfl (by omega) (by omega)) ?_
    refine wp_gd (zin_of (m := 5) rfl (by omega) (by omega)) ?_
    exact wp_if (fun c => h77) (fun c => h73)
theorem h_isFree (o : Ob) (p0 : Int32) (h0 : 0 ≤ p0.toInt) (h1 : p0.toInt ≤ 3) (t0 : 0 ≤ (gA o 48 p0.toNatClampNeg).toInt) (t1 : (gA o 48 p0.toNatClampNeg).toInt ≤ 7) : wp (f_X9_isFree o p0) (fun _ => True) := by
  have z0 : (0 : Int32).toInt = 0 := by decide
  have h35 : ∀ s0 : Int32, 0 ≤ s0.toInt → s0.toInt ≤ 1 → wp (bk_X9_isFree_35 o p0 s0) (fun _ => True) := fun s0 g0 g1 => h_isFree38 o p0 h0 h1 zfu s0 0 g0 g1 (by omega) (by omega) (by show (4 : Int) < ((100000 : Nat) : Int) + _; omega)
  unfold f_X9_isFree
  refine wp_gd (zin_of (m := 5) rfl (by omega) (by omega)) ?_
  refine wp_if (fun c => h35 1 (by decide) (by decide)) (fun c => ?_)
  have c := cv_ne (a := (gA o 48 p0.toNatClampNeg).toInt) (b := 7) rfl (by decide) c
  have a1 : ((4 : Int32) * (gA o 48 p0.toNatClampNeg)).toInt = 4 * (gA o 48 p0.toNatClampNeg).toInt := i32_mul (by decide) rfl (by omega) (by omega)
  have a2 : (((4 : Int32) * (gA o 48 p0.toNatClampNeg)) + p0).toInt = 4 * (gA o 48 p0.toNatClampNeg).toInt + p0.toInt := i32_add a1 rfl (by omega) (by omega)
  refine wp_gd (zin_of (m := 5) rfl (by omega) (by omega)) ?_
  refine wp_gd (zin_of (m := 28) rfl (by omega) (by omega)) ?_
  exact wp_if (fun c => h35 0 (by decide) (by decide)) (fun c => h35 1 (by decide) (by decide))
theorem h_scoreNow (o : Ob) (ht : ∀ i : Nat, i < 4 → 0 ≤ (gA o 48 i).toInt ∧ (gA o 48 i).toInt ≤ 7) : ∀ (N : Nat) (v1 v2 : Int32), 0 ≤ v2.toInt → v2.toInt ≤ 4 → 4 < (N : Int) + v2.toInt → wp (lp_X9_scoreNow_4 o N (v1, v2)) (fun _ => True) := by
  intro N
  induction N with
  | zero => intro v1 v2 _ _ _; exfalso; omega
  | succ N ih =>
    intro v1 v2 h2 h2b hN
    show wp (lb_X9_scoreNow_4 o (lp_X9_scoreNow_4 o N) v1 v2) _
    unfold lb_X9_scoreNow_4
    refine wp_if (fun c => wp_some trivial) (fun c => ?_)
    have c := cv_nle (a := 4) (b := v2.toInt) (by decide) rfl c
    have h40 : ∀ s0 s1 : Int32, wp (bk_X9_scoreNow_40 o (lp_X9_scoreNow_4 o N) v2 s0 s1) (fun _ => True) := by
      intro s0 s1
      unfold bk_X9_scoreNow_40
      refine wp_lt (fun x4 e4 => ?_)
      refine wp_lt (fun x5 e5 => ?_)
      have t5 : x5.toInt = v2.toInt + 1 := by rw [e5]; exact i32_add rfl (by decide) (by omega) (by omega)
      exact ih x4 x5 (by omega) (by omega) (by omega)
    have e2 : v2.toNatClampNeg = v2.toInt.toNat := rfl
    have tt := ht v2.toNatClampNeg (by rw [e2]; omega)
    refine wp_gd (zin_of (m := 5) rfl (by omega) (by omega)) ?_
    refine wp_if (fun c => h40 _ _) (fun c => ?_)
    have c := cv_ne (a := (gA o 48 v2.toNatClampNeg).toInt) (b := 7) rfl (by decide) c
    have a1 : ((4 : Int32) * (gA o 48 v2.toNatClampNeg)).toInt = 4 * (gA o 48 v2.toNatClampNeg).toInt := i32_mul (by decide) rfl (by omega) (by omega)
    have a2 : (((4 : Int32) * (gA o 48 v2.toNatClampNeg)) + v2).toInt = 4 * (gA o 48 v2.toNatClampNeg).toInt + v2.toInt := i32_add a1 rfl (by omega) (by omega)
    refine wp_gd (zin_of (m := 5) rfl (by omega) (by omega)) ?_
    refine wp_gd (zin_of (m := 28) rfl (by omega) (by omega)) ?_
    exact h40 _ _
def FC (N : Nat) (k t0 t1 t2 t3 t4 : Int) : Prop :=
  (-1 ≤ k ∧ k ≤ 4) ∧ (0 ≤ k → -1 ≤ t0 ∧ t0 ≤ 7) ∧ (1 ≤ k → 0 ≤ t0 ∧ -1 ≤ t1 ∧ t1 ≤ 7) ∧ (2 ≤ k → 0 ≤ t1 ∧ -1 ≤ t2 ∧ t2 ≤ 7) ∧ (3 ≤ k → 0 ≤ t2 ∧ -1 ≤ t3 ∧ t3 ≤ 7) ∧ (4 ≤ k → 0 ≤ t3 ∧ t4 = -1) ∧
  (k = -1 → 0 < (N : Int)) ∧ (k = 0 → (8 - t0) * 1549 < (N : Int)) ∧ (k = 1 → (8 - t0) * 1549 + (8 - t1) * 172 < (N : Int)) ∧ (k = 2 → (8 - t0) * 1549 + (8 - t1) * 172 + (8 - t2) * 19 < (N : Int)) ∧
  (k = 3 → (8 - t0) * 1549 + (8 - t1) * 172 + (8 - t2) * 19 + (8 - t3) * 2 < (N : Int)) ∧ (k = 4 → (8 - t0) * 1549 + (8 - t1) * 172 + (8 - t2) * 19 + (8 - t3) * 2 + 1 < (N : Int))
def FCo (N : Nat) (k : Int) (o : Ob) : Prop := FC N k (gA o 48 0).toInt (gA o 48 1).toInt (gA o 48 2).toInt (gA o 48 3).toInt (gA o 48 4).toInt
theorem h_fc122 (o0 : Ob) (P : Int32 × Ob → Prop) (rec75 : Int32 × Int32 × Ob → Option (Int32 × Ob)) (v1 v2 v3 : Int32) (h2 : 0 ≤ v2.toInt) (h2b : v2.toInt ≤ 4) (g48 : Nat → Int32)
    (hrec : ∀ (s0 x : Int32) (o' : Ob), IvX9 o' → Kp [8, 13, 14, 15, 16, 19, 20, 21, 23, 26, 29, 30, 43, 59, 62] [3, 7, 10, 12, 22, 24, 25, 27, 28, 42, 50, 51, 55] [(3, (0 : Int32))] o0 o' → gA o' 48 = g48 → x.toInt = v2.toInt - 1 → wp (rec75 (s0, x, o')) P) :
    ∀ (N : Nat) (v4 : Int32) (o : Ob), IvX9 o → Kp [8, 13, 14, 15, 16, 19, 20, 21, 23, 26, 29, 30, 43, 59, 62] [3, 7, 10, 12, 22, 24, 25, 27, 28, 42, 50, 51, 55] [(3, (0 : Int32))] o0 o → gA o 48 = g48 → 0 ≤ v4.toInt → v4.toInt ≤ 4 → 4 < (N : Int) + v4.toInt → wp (lp_X9_findCrowned_122 rec75 N (v1, v2, v3, v4, o)) P := by
  intro N
  induction N with
  | zero => intro v4 o _ _ _ _ _ _; exfalso; omega
  | succ N ih =>
    intro v4 o hI hK hg h4 h4b hN
    show wp (lb_X9_findCrowned_122 rec75 (lp_X9_findCrowned_122 rec75 N) v1 v2 v3 v4 o) P
    unfold lb_X9_findCrowned_122
    have h163 : ∀ s0 : Int32, wp (bk_X9_findCrowned_163 rec75 v2 s0 o) P := by
      intro s0
      unfold bk_X9_findCrowned_163
      refine wp_lt (fun x5 e5 => ?_)
      have t5 : x5.toInt = v2.toInt + (-1) := by rw [e5]; exact i32_add rfl (by decide) (by omega) (by omega)
      exact hrec s0 x5 o hI hK hg (by omega)
    have h153 : wp (bk_X9_findCrowned_153 rec75 v1 v2 v3 o) P := by
      unfold bk_X9_findCrowned_153
      exact wp_if (fun c => h163 _) (fun c => h163 _)
    refine wp_if (fun c => h153) (fun c => ?_)
    have c := cv_nle (a := 4) (b := v4.toInt) (by decide) rfl c
    refine wp_if (fun c => h153) (fun c => ?_)
    refine wp_gd (zin_of (m := 5) rfl (by omega) (by omega)) ?_
    refine wp_gd (zin_of (m := 4) rfl (by omega) (by omega)) ?_
    refine wp_lt (fun o8 e8 => ?_)
    refine wp_lt (fun x9 e9 => ?_)
    have t9 : x9.toInt = v4.toInt + 1 := by rw [e9]; exact i32_add rfl (by decide) (by omega) (by omega)
    exact ih x9 o8 (by rw [e8]; exact hI) (hK.trans (by rw [e8]; exact Kp.tA (by decide) (by decide))) (by rw [e8]; exact hg) (by omega) (by omega) (by omega)
theorem h_fc75 (o0 : Ob) : ∀ (N : Nat) (v1 v2 : Int32) (o : Ob), IvX9 o → Kp [8, 13, 14, 15, 16, 19, 20, 21, 23, 26, 29, 30, 43, 59, 62] [3, 7, 10, 12, 22, 24, 25, 27, 28, 42, 50, 51, 55] [(3, (0 : Int32))] o0 o → FCo N v2.toInt o → wp (lp_X9_findCrowned_75 N (v1, v2, o)) (fun (y : Int32 × Ob) => IvX9 y.2 ∧ Kp [8, 13, 14, 15, 16, 19, 20, 21, 23, 26, 29, 30, 43, 59, 62] [3, 7, 10, 12, 22, 24, 25, 27, 28, 42, 50, 51, 55] [(3, (0 : Int32))] o0 y.2) := by
  intro N
  induction N with
  | zero => intro v1 v2 o _ _ hF; exfalso; unfold FCo FC at hF; omega
  | succ N ih =>
    intro v1 v2 o hI hK hF
    show wp (lb_X9_findCrowned_75 (lp_X9_findCrowned_75 N) v1 v2 o) _
    unfold lb_X9_findCrowned_75
    have hk : -1 ≤ v2.toInt ∧ v2.toInt ≤ 4 := hF.1
    refine wp_if (fun c => wp_some ⟨hI, hK⟩) (fun c => ?_)
    have c := cv_nlt (a := v2.toInt) (b := 0) rfl (by decide) c
    refine wp_gd (zin_of (m := 5) rfl (by omega) (by omega)) ?_
    refine wp_gd (zin_of (m := 5) rfl (by omega) (by omega)) ?_
    obtain ⟨k, ek⟩ : ∃ k : Nat, v2.toInt = (k : Int) := ⟨v2.toInt.toNat, by omega⟩
    have nk : v2.toNatClampNeg = k := tnc_eq ek
    have hkk : -1 ≤ (gA o 48 k).toInt ∧ (gA o 48 k).toInt ≤ 7 := by
      unfold FCo FC at hF
      rcases (show k = 0 ∨ k = 1 ∨ k = 2 ∨ k = 3 ∨ k = 4 by omega) with e | e | e | e | e <;> subst e <;> omega
    have t1 : ((gA o 48 k) + (1 : Int32)).toInt = (gA o 48 k).toInt + 1 := i32_add rfl (by decide) (by omega) (by omega)
    refine wp_lt (fun o4 e4 => ?_)
    rw [nk] at e4
    have a4 : ∀ i, gA o4 48 i = if i = k then (gA o 48 k) + (1 : Int32) else gA o 48 i := by intro i; rw [e4]; exact upd_at
    have hI4 : IvX9 o4 := by
      rw [e4, ← nk]
      refine ibX9_48 hI (by omega) (Or.inr (Or.inr ?_))
      rw [nk]; exact ⟨by omega, by omega⟩
    have hK4 : Kp [8, 13, 14, 15, 16, 19, 20, 21, 23, 26, 29, 30, 43, 59, 62] [3, 7, 10, 12, 22, 24, 25, 27, 28, 42, 50, 51, 55] [(3, (0 : Int32))] o0 o4 := hK.trans (by rw [e4]; exact Kp.tA (by decide) (by decide))
    have ak : gA o4 48 k = (gA o 48 k) + (1 : Int32) := by rw [a4, if_pos rfl]
    have ai : ∀ i, i ≠ k → gA o4 48 i = gA o 48 i := fun i hi => by rw [a4, if_neg hi]
    have z0 : (0 : Int32).toInt = 0 := by decide
    have hup : (k = 4 ∨ 7 < (gA o4 48 k).toInt) → ∀ s0 : Int32, wp (bk_X9_findCrowned_118 (lp_X9_findCrowned_75 N) v1 v2 s0 o4) (fun (y : Int32 × Ob) => IvX9 y.2 ∧ Kp [8, 13, 14, 15, 16, 19, 20, 21, 23, 26, 29, 30, 43, 59, 62] [3, 7, 10, 12, 22, 24, 25, 27, 28, 42, 50, 51, 55] [(3, (0 : Int32))] o0 y.2) := by
      intro hc s0
      unfold bk_X9_findCrowned_118
      refine h_fc122 o0 _ (lp_X9_findCrowned_75 N) v1 v2 s0 (by omega) (by omega) (gA o4 48) (fun s1 x o' g1 g2 g3 g4 => ih s1 x o' g1 g2 ?_) zfu 0 o4 hI4 hK4 rfl (by omega) (by omega) (by show (4 : Int) < ((100000 : Nat) : Int) + _; omega)
      unfold FCo FC at hF ⊢
      rw [g3, g4]
      rw [ak] at hc
      rcases (show k = 0 ∨ k = 1 ∨ k = 2 ∨ k = 3 ∨ k = 4 by omega) with e | e | e | e | e <;> subst e
      · have b1 := ai 1 (by omega); have b2 := ai 2 (by omega); have b3 := ai 3 (by omega); have b4 := ai 4 (by omega)
        rw [ak, b1, b2, b3, b4, t1]; rw [t1] at hc; omega
      · have b0 := ai 0 (by omega); have b2 := ai 2 (by omega); have b3 := ai 3 (by omega); have b4 := ai 4 (by omega)
        rw [ak, b0, b2, b3, b4, t1]; rw [t1] at hc; omega
      · have b0 := ai 0 (by omega); have b1 := ai 1 (by omega); have b3 := ai 3 (by omega); have b4 := ai 4 (by omega)
        rw [ak, b0, b1, b3, b4, t1]; rw [t1] at hc; omega
      · have b0 := ai 0 (by omega); have b1 := ai 1 (by omega); have b2 := ai 2 (by omega); have b4 := ai 4 (by omega)
        rw [ak, b0, b1, b2, b4, t1]; rw [t1] at hc; omega
      · have b0 := ai 0 (by omega); have b1 := ai 1 (by omega); have b2 := ai 2 (by omega); have b3 := ai 3 (by omega)
        rw [ak, b0, b1, b2, b3, t1]; rw [t1] at hc; omega
    have h105 : (k = 4 ∨ 7 < (gA o4 48 k).toInt) → wp (bk_X9_findCrowned_105 (lp_X9_findCrowned_75 N) v1 v2 o4) (fun (y : Int32 × Ob) => IvX9 y.2 ∧ Kp [8, 13, 14, 15, 16, 19, 20, 21, 23, 26, 29, 30, 43, 59, 62] [3, 7, 10, 12, 22, 24, 25, 27, 28, 42, 50, 51, 55] [(3, (0 : Int32))] o0 y.2) := by
      intro hc
      unfold bk_X9_findCrowned_105
      refine wp_if (fun c4 => ?_) (fun c4 => hup hc _)
      have c4 := cv_eq (a := v2.toInt) (b := 4) rfl (by decide) c4
      have e : k = 4 := by omega
      subst e
      refine wp_bd (h_scoreNow o4 (fun i hi => ?_) zfu 0 0 (by omega) (by omega) (by show (4 : Int) < ((100000 : Nat) : Int) + _; omega)) (fun z _ => hup hc z)
      rw [ai i (by omega)]
      unfold FCo FC at hF
      rcases (show i = 0 ∨ i = 1 ∨ i = 2 ∨ i = 3 by omega) with e | e | e | e <;> subst e <;> omega
    refine wp_if (fun c4 => ?_) (fun c4 => ?_)
    · have c4 := cv_eq (a := v2.toInt) (b := 4) rfl (by decide) c4
      exact h105 (Or.inl (by omega))
    have c4 := cv_ne (a := v2.toInt) (b := 4) rfl (by decide) c4
    refine wp_gd (zin_of (m := 5) rfl (by omega) (by omega)) ?_
    rw [nk]
    refine wp_if (fun c7 => ?_) (fun c7 => ?_)
    rotate_left
    · have c7 := cv_nle (a := (gA o4 48 k).toInt) (b := 7) rfl (by decide) c7
      exact h105 (Or.inr c7)
    have c7 := cv_le (a := (gA o4 48 k).toInt) (b := 7) rfl (by decide) c7
    rw [ak, t1] at c7
    refine wp_bd (h_isFree o4 v2 (by omega) (by omega) (by rw [nk, ak, t1]; omega) (by rw [nk, ak, t1]; omega)) (fun z12 _ => ?_)
    refine wp_if (fun c9 => ?_) (fun c9 => ?_)
    · refine ih v1 v2 o4 hI4 hK4 ?_
      unfold FCo FC at hF ⊢
      rcases (show k = 0 ∨ k = 1 ∨ k = 2 ∨ k = 3 by omega) with e | e | e | e <;> subst e
      · have b1 := ai 1 (by omega); have b2 := ai 2 (by omega); have b3 := ai 3 (by omega); have b4 := ai 4 (by omega)
        rw [ak, b1, b2, b3, b4, t1]; omega
      · have b0 := ai 0 (by omega); have b2 := ai 2 (by omega); have b3 := ai 3 (by omega); have b4 := ai 4 (by omega)
        rw [ak, b0, b2, b3, b4, t1]; omega
      · have b0 := ai 0 (by omega); have b1 := ai 1 (by omega); have b3 := ai 3 (by omega); have b4 := ai 4 (by omega)
        rw [ak, b0, b1, b3, b4, t1]; omega
      · have b0 := ai 0 (by omega); have b1 := ai 1 (by omega); have b2 := ai 2 (by omega); have b4 := ai 4 (by omega)
        rw [ak, b0, b1, b2, b4, t1]; omega
    · refine wp_lt (fun x13 e13 => ?_)
      have t13 : x13.toInt = (k : Int) + 1 := by rw [e13]; exact i32_add ek (by decide) (by omega) (by omega)
      have n13 : x13.toNatClampNeg = k + 1 := tnc_eq (by omega)
      refine wp_gd (zin_of (m := 5) rfl (by omega) (by omega)) ?_
      refine wp_lt (fun o15 e15 => ?_)
      have hI15 : IvX9 o15 := by rw [e15]; exact ibX9_48 hI4 (by omega) (Or.inr (Or.inr ⟨by decide, by decide⟩))
      have hK15 : Kp [8, 13, 14, 15, 16, 19, 20, 21, 23, 26, 29, 30, 43, 59, 62] [3, 7, 10, 12, 22, 24, 25, 27, 28, 42, 50, 51, 55] [(3, (0 : Int32))] o0 o15 := hK4.trans (by rw [e15]; exact Kp.tA (by decide) (by decide))
      rw [n13] at e15
      have c15 : ∀ i, gA o15 48 i = if i = k + 1 then (-1 : Int32) else gA o4 48 i := by intro i; rw [e15]; exact upd_at
      have m1 : (-1 : Int32).toInt = -1 := by decide
      have hnew : (gA o15 48 (k + 1)).toInt = -1 := by rw [c15, if_pos rfl]; exact m1
      have hkk2 : (gA o15 48 k).toInt = (gA o 48 k).toInt + 1 := by rw [c15, if_neg (by omega), ak]; exact t1
      have hoth : ∀ i, i ≠ k → i ≠ k + 1 → (gA o15 48 i).toInt = (gA o 48 i).toInt := fun i h1 h2 => by rw [c15, if_neg h2, ai i h1]
      refine ih v1 x13 o15 hI15 hK15 ?_
      unfold FCo FC at hF ⊢
      rw [t13]
      clear ih hup h105 hK hK4 hK15 hI hI4 hI15 e4 e15 a4 c15 ai
      rcases (show k = 0 ∨ k = 1 ∨ k = 2 ∨ k = 3 by omega) with e | e | e | e <;> subst e
      · have b2 := hoth 2 (by omega) (by omega); have b3 := hoth 3 (by omega) (by omega); have b4 := hoth 4 (by omega) (by omega)
        have bn : (gA o15 48 1).toInt = -1 := hnew
        omega
      · have b0 := hoth 0 (by omega) (by omega); have b3 := hoth 3 (by omega) (by omega); have b4 := hoth 4 (by omega) (by omega)
        have bn : (gA o15 48 2).toInt = -1 := hnew
        omega
      · have b0 := hoth 0 (by omega) (by omega); have b1 := hoth 1 (by omega) (by omega); have b4 := hoth 4 (by omega) (by omega)
        have bn : (gA o15 48 3).toInt = -1 := hnew
        omega
      · have b0 := hoth 0 (by omega) (by omega); have b1 := hoth 1 (by omega) (by omega); have b2 := hoth 2 (by omega) (by omega)
        have bn : (gA o15 48 4).toInt = -1 := hnew
        omega
theorem h_fc10 (o0 : Ob) (P : Int32 × Ob → Prop) (rec2 : Int32 × Ob → Option (Int32 × Ob)) (v1 : Int32) (h1 : 0 ≤ v1.toInt) (h1b : v1.toInt ≤ 6) (ho : (gI o0 20).toInt = 0)
    (hrec : ∀ (x : Int32) (o' : Ob), IvX9 o' → Kp [8, 13, 14, 15, 16, 19, 20, 21, 23, 26, 29, 30, 43, 59, 62] [3, 7, 10, 12, 22, 24, 25, 27, 28, 42, 50, 51, 55] [(3, (0 : Int32))] o0 o' → x.toInt = v1.toInt + 1 → wp (rec2 (x, o')) P) :
    ∀ (N : Nat) (v2 : Int32) (o : Ob), IvX9 o → Kp [8, 13, 14, 15, 16, 19, 20, 21, 23, 26, 29, 30, 43, 59, 62] [3, 7, 10, 12, 22, 24, 25, 27, 28, 42, 50, 51, 55] [(3, (0 : Int32))] o0 o → 0 ≤ v2.toInt → v2.toInt ≤ 4 → 4 < (N : Int) + v2.toInt → wp (lp_X9_findCrowned_10 rec2 N (v1, v2, o)) P := by
  intro N
  induction N with
  | zero => intro v2 o _ _ _ _ _; exfalso; omega
  | succ N ih =>
    intro v2 o hI hK h2 h2b hN
    show wp (lb_X9_findCrowned_10 rec2 (lp_X9_findCrowned_10 rec2 N) v1 v2 o) P
    unfold lb_X9_findCrowned_10
    refine wp_if (fun c => ?_) (fun c => ?_)
    · refine wp_lt (fun x16 e16 => ?_)
      exact hrec x16 o hI hK (by rw [e16]; exact i32_add rfl (by decide) (by omega) (by omega))
    have c := cv_nle (a := 4) (b := v2.toInt) (by decide) rfl c
    have a1 : ((4 : Int32) * v1).toInt = 4 * v1.toInt := i32_mul (by decide) rfl (by omega) (by omega)
    have a2 : (((4 : Int32) * v1) + v2).toInt = 4 * v1.toInt + v2.toInt := i32_add a1 rfl (by omega) (by omega)
    have h51 : ∀ (s0 : Int32) (o' : Ob), IvX9 o' → Kp [8, 13, 14, 15, 16, 19, 20, 21, 23, 26, 29, 30, 43, 59, 62] [3, 7, 10, 12, 22, 24, 25, 27, 28, 42, 50, 51, 55] [(3, (0 : Int32))] o0 o' → wp (bk_X9_findCrowned_51 rec2 (lp_X9_findCrowned_10 rec2 N) v1 v2 s0 (((4 : Int32) * v1) + v2) o') P := by
      intro s0 o' hI' hK'
      unfold bk_X9_findCrowned_51
      refine wp_gd (zin_of (m := 28) rfl (by omega) (by omega)) ?_
      refine wp_lt (fun o19 e19 => ?_)
      refine wp_lt (fun x20 e20 => ?_)
      have t20 : x20.toInt = v2.toInt + 1 := by rw [e20]; exact i32_add rfl (by decide) (by omega) (by omega)
      exact ih x20 o19 (by rw [e19]; exact hI') (hK'.trans (by rw [e19]; exact Kp.tA (by decide) (by decide))) (by omega) (by omega) (by omega)
    refine wp_bd (s_X9_isPerson o v1 hI) (fun z17 hz17 => ?_)
    refine wp_if (fun c => h51 _ o hI hK) (fun c => ?_)
    have o20 : (gI o 20).toInt = 0 := by rw [hK.1 20 (by decide)]; exact ho
    refine wp_bd (s_X9_isBarred o v1 v2 hI ⟨by omega, by omega⟩ ⟨by omega, by omega⟩ ⟨by omega, by omega⟩) (fun z21 hz21 => ?_)
    have hK21 : Kp [8, 13, 14, 15, 16, 19, 20, 21, 23, 26, 29, 30, 43, 59, 62] [3, 7, 10, 12, 22, 24, 25, 27, 28, 42, 50, 51, 55] [(3, (0 : Int32))] o0 z21.2 := hK.trans (hz21.2.2.mono (by decide) (by decide) (by decide))
    refine wp_if (fun c => ?_) (fun c => h51 _ _ hz21.2.1 hK21)
    have o21 : (gI z21.2 20).toInt = 0 := by rw [hK21.1 20 (by decide)]; exact ho
    refine wp_bd (s_X9_runsOf z21.2 v1 v2 hz21.2.1 ⟨by omega, by omega⟩ ⟨by omega, by omega⟩ ⟨by omega, by omega⟩) (fun z22 hz22 => ?_)
    exact h51 _ _ hz22.2.1 (hK21.trans (hz22.2.2.mono (by decide) (by decide) (by decide)))
set_option maxHeartbeats 4000000 in
set_option maxRecDepth 100000 in
theorem ts_X9_findCrowned (o_me : Ob) (hI_me : IvX9 o_me) (q0 : 0 ≤ (gI o_me 20).toInt ∧ (gI o_me 20).toInt ≤ 0) : wp (f_X9_findCrowned   o_me) (fun (y : Int32 × Ob) => IvX9 y.2 ∧ Kp [8, 13, 14, 15, 16, 19, 20, 21, 23, 26, 29, 30, 43, 59, 62] [3, 7, 10, 12, 22, 24, 25, 27, 28, 42, 50, 51, 55] [(3, (0 : Int32))] o_me y.2) := by
  have ho : (gI o_me 20).toInt = 0 := by omega
  have z0 : (0 : Int32).toInt = 0 := by decide
  have loop : ∀ (N : Nat) (v1 : Int32) (o : Ob), IvX9 o → Kp [8, 13, 14, 15, 16, 19, 20, 21, 23, 26, 29, 30, 43, 59, 62] [3, 7, 10, 12, 22, 24, 25, 27, 28, 42, 50, 51, 55] [(3, (0 : Int32))] o_me o → 0 ≤ v1.toInt → v1.toInt ≤ 7 → 7 < (N : Int) + v1.toInt → wp (lp_X9_findCrowned_2 N (v1, o)) (fun (y : Int32 × Ob) => IvX9 y.2 ∧ Kp [8, 13, 14, 15, 16, 19, 20, 21, 23, 26, 29, 30, 43, 59, 62] [3, 7, 10, 12, 22, 24, 25, 27, 28, 42, 50, 51, 55] [(3, (0 : Int32))] o_me y.2) := by
    intro N
    induction N with
    | zero => intro v1 o _ _ _ _ _; exfalso; omega
    | succ N ih =>
      intro v1 o hI hK h1 h1b hN
      show wp (lb_X9_findCrowned_2 (lp_X9_findCrowned_2 N) v1 o) _
      unfold lb_X9_findCrowned_2
      refine wp_if (fun c => ?_) (fun c => ?_)
      · refine wp_lt (fun o1 e1 => ?_)
        have hI1 : IvX9 o1 := by rw [e1]; exact ibX9_48 hI (by decide) (Or.inr (Or.inr ⟨by decide, by decide⟩))
        have hK1 : Kp [8, 13, 14, 15, 16, 19, 20, 21, 23, 26, 29, 30, 43, 59, 62] [3, 7, 10, 12, 22, 24, 25, 27, 28, 42, 50, 51, 55] [(3, (0 : Int32))] o_me o1 := hK.trans (by rw [e1]; exact Kp.tA (by decide) (by decide))
        have a0 : (gA o1 48 0).toInt = -1 := by
          rw [e1, upd_at, if_pos (by decide)]; decide
        refine h_fc75 o_me zfu (-1) 0 o1 hI1 hK1 ?_
        unfold FCo FC
        rw [z0]
        have zz : (zfu : Int) = 100000 := rfl
        omega
      · have c := cv_nle (a := 7) (b := v1.toInt) (by decide) rfl c
        refine h_fc10 o_me _ (lp_X9_findCrowned_2 N) v1 (by omega) (by omega) ho (fun x o' g1 g2 g3 => ih x o' g1 g2 (by omega) (by omega) (by omega)) zfu 0 o hI hK (by omega) (by omega) (by show (4 : Int) < ((100000 : Nat) : Int) + _; omega)
  unfold f_X9_findCrowned
  exact loop zfu 0 o_me hI_me Kp.rf (by omega) (by omega) (by show (7 : Int) < ((100000 : Nat) : Int) + _; omega)
theorem of32 {x : Int32} (h0 : 0 ≤ x.toInt) : x = Int32.ofNat x.toInt.toNat := by
  have h1 := i32_rg x
  refine Int32.toInt_inj.mp ?_
  rw [Int32.toInt_ofNat_of_lt (by omega)]
  omega
theorem on32 {n : Nat} (h : n < 1000) : (Int32.ofNat n).toInt = (n : Int) := Int32.toInt_ofNat_of_lt (by omega)
theorem oc32 {n : Nat} (h : n < 1000) : (Int32.ofNat n).toNatClampNeg = n := tnc_eq (on32 h)
def yv (x p : Nat) : Int32 := Int32.ofNat x ||| ((1 : Int32) <<< (Int32.ofNat p &&& 31))
def bz (x p : Nat) : Bool := decide (((Int32.ofNat x >>> (Int32.ofNat p &&& 31)) &&& (1 : Int32)) = (1 : Int32))
def pcn (x : Nat) : Nat := x % 2 + x / 2 % 2 + x / 4 % 2 + x / 8 % 2 + x / 16 % 2 + x / 32 % 2 + x / 64 % 2
set_option maxRecDepth 100000 in
theorem bt1 : ∀ x, x < 128 → ∀ p, p < 7 → 0 ≤ (yv x p).toInt ∧ (yv x p).toInt < 128 ∧ (bz x p = false → x < (yv x p).toInt.toNat) ∧ pcn (yv x p).toInt.toNat ≤ pcn x + 1 := by decide +kernel
set_option maxRecDepth 100000 in
theorem bt2 : ∀ n, n < 8 → ∀ x, x < 2 ^ n - 1 → ¬ ∀ p, p < n → bz x p = true := by decide +kernel
set_option maxRecDepth 100000 in
theorem bt3 : ∀ n, n < 8 → ∀ x, x < 2 ^ n → ∀ p, p < n → (yv x p).toInt.toNat < 2 ^ n := by decide +kernel
set_option maxRecDepth 100000 in
theorem bt4 : ∀ n, n < 8 → ∀ x, x < 2 ^ n → pcn x < n → x < 2 ^ n - 1 := by decide +kernel
set_option maxRecDepth 100000 in
theorem bt5 : ∀ n, n < 8 → ((1 : Int32) <<< (Int32.ofNat n &&& 31)).toInt = ((2 ^ n : Nat) : Int) ∧ 2 ^ n ≤ 128 ∧ 1 ≤ 2 ^ n := by decide +kernel
theorem h_ones4 (v0 : Int32) : ∀ (N : Nat) (v1 v2 : Int32), 0 ≤ v1.toInt → v1.toInt ≤ v2.toInt → v2.toInt ≤ 7 → 7 < (N : Int) + v2.toInt → wp (lp_X9_ones_4 N (v0, v1, v2)) (fun y => 0 ≤ y.toInt ∧ y.toInt ≤ 7) := by
  intro N
  induction N with
  | zero => intro v1 v2 _ _ _ _; exfalso; omega
  | succ N ih =>
    intro v1 v2 h1 h12 h2 hN
    show wp (lb_X9_ones_4 (lp_X9_ones_4 N) v0 v1 v2) _
    unfold lb_X9_ones_4
    refine wp_if (fun c => wp_some ⟨h1, by omega⟩) (fun c => ?_)
    have c := cv_nle (a := 7) (b := v2.toInt) (by decide) rfl c
    have b := i32_and (x := v0 >>> (v2 &&& 31)) (y := (1 : Int32)) (m := 1) ⟨by decide, by decide⟩
    refine wp_lt (fun x1 e1 => ?_)
    refine wp_lt (fun x2 e2 => ?_)
    have t1 : x1.toInt = v1.toInt + ((v0 >>> (v2 &&& 31)) &&& (1 : Int32)).toInt := by rw [e1]; exact i32_add rfl rfl (by omega) (by omega)
    have t2 : x2.toInt = v2.toInt + 1 := by rw [e2]; exact i32_add rfl (by decide) (by omega) (by omega)
    exact ih x1 x2 (by omega) (by omega) (by omega) (by omega)
theorem h_ones (v0 : Int32) : ∃ c, f_X9_ones v0 = some c ∧ 0 ≤ c.toInt ∧ c.toInt ≤ 7 := by
  have z0 : (0 : Int32).toInt = 0 := by decide
  exact h_ones4 v0 zfu 0 0 (by omega) (by omega) (by omega) (by show (7 : Int) < ((100000 : Nat) : Int) + _; omega)
theorem lb_one (o : Ob) (a p : Nat) (h : bz a p = true) : f_X9_leftBy o (Int32.ofNat a) (Int32.ofNat p) = some 100000000 := by
  have h := of_decide_eq_true h
  unfold f_X9_leftBy f_X9_is
  rw [if_pos h]
  rfl
theorem lb_zero (o : Ob) (a p : Nat) (ha : a < 128) (hp : p < 7) (h : bz a p = false) : ∃ c : Int32, (0 ≤ c.toInt ∧ c.toInt ≤ 7) ∧ ∀ o' : Ob, gA o' 3 = gA o 3 → f_X9_leftBy o' (Int32.ofNat a) (Int32.ofNat p) = some (c + gA o' 46 (yv a p).toInt.toNat) := by
  have h := of_decide_eq_false h
  have t := on32 (n := p) (by omega)
  have b := bt1 a ha p hp
  have t2 : ((64 : Int32) + Int32.ofNat p).toInt = 64 + (p : Int) := i32_add (by decide) t (by omega) (by omega)
  obtain ⟨c, ec, hc⟩ := h_ones ((gA o 3 ((64 : Int32) + Int32.ofNat p).toNatClampNeg) &&& Int32.ofNat a)
  refine ⟨c, hc, fun o' e3 => ?_⟩
  unfold f_X9_leftBy f_X9_is
  rw [if_neg h]
  show (if (0 : Int32) = (0 : Int32) then _ else _) = _
  rw [if_pos rfl, zin_of (n := 5484) (m := 5484) rfl (by omega) (by omega), e3, ec]
  show zgd (zin (yv a p) 128) (some (c + gA o' 46 (yv a p).toNatClampNeg)) = _
  rw [zin_of (n := 128) (m := 128) rfl b.1 b.2.1]
  rfl
-- what left says of a set of those ahead
def LG (o : Ob) (n a : Nat) : Prop := (0 ≤ (gA o 46 a).toInt ∧ (gA o 46 a).toInt ≤ 7 * (127 - (a : Int))) ∧ (a < 2 ^ n - 1 → ∃ p, p < n ∧ f_X9_leftBy o (Int32.ofNat a) (Int32.ofNat p) = some (gA o 46 a))
theorem lb_stab (o : Ob) (j a p : Nat) (v : Int32) (ha : a < 128) (hp : p < 7) (hj : j ≤ a) : f_X9_leftBy (tA o 46 j v) (Int32.ofNat a) (Int32.ofNat p) = f_X9_leftBy o (Int32.ofNat a) (Int32.ofNat p) := by
  cases h : bz a p with
  | true => rw [lb_one _ a p h, lb_one _ a p h]
  | false =>
    obtain ⟨c, -, e⟩ := lb_zero o a p ha hp h
    have b := (bt1 a ha p hp).2.2.1 h
    rw [e o rfl, e (tA o 46 j v) rfl, upd_at, if_neg (by omega)]
theorem LG.up {o : Ob} {n a j : Nat} {v : Int32} (hn : n < 8) (ha : a < 128) (hj : j < a) (h : LG o n a) : LG (tA o 46 j v) n a := by
  have e : gA (tA o 46 j v) 46 a = gA o 46 a := by rw [upd_at, if_neg (by omega)]
  refine ⟨by rw [e]; exact h.1, fun h1 => ?_⟩
  obtain ⟨p, hp, ep⟩ := h.2 h1
  exact ⟨p, hp, by rw [lb_stab o j a p v ha (by omega) (by omega), e]; exact ep⟩
-- one set: the least of all
theorem h_lay37 (o0 : Ob) (n : Nat) (hn : n < 8) (en : (gA o0 3 (0 : Int32).toNatClampNeg).toInt = (n : Int)) (P : Ob → Prop) (rec22 : Int32 × Ob → Option Ob) (a : Nat) (ha : a < 2 ^ n - 1)
    (hrec : ∀ (x : Int32) (o : Ob), IvX9 o → Kp [8, 13, 14, 15, 16, 19, 20, 21, 23, 26, 29, 30, 34, 38, 43, 59, 62] [3, 7, 10, 12, 22, 24, 25, 27, 28, 42, 48, 50, 51, 55] [(3, (0 : Int32))] o0 o → x.toInt = (a : Int) - 1 → (∀ b, a ≤ b → b < 2 ^ n → LG o n b) → wp (rec22 (x, o)) P) :
    ∀ (N : Nat) (v3 : Int32) (o : Ob) (q : Nat), IvX9 o → Kp [8, 13, 14, 15, 16, 19, 20, 21, 23, 26, 29, 30, 34, 38, 43, 59, 62] [3, 7, 10, 12, 22, 24, 25, 27, 28, 42, 48, 50, 51, 55] [(3, (0 : Int32))] o0 o → v3.toInt = (q : Int) → q ≤ n → (∀ b, a < b → b < 2 ^ n → LG o n b) →
      ((gA o 46 a).toInt = 100000000 ∧ (∀ p, p < q → bz a p = true) ∨ (0 ≤ (gA o 46 a).toInt ∧ (gA o 46 a).toInt ≤ 7 * (127 - (a : Int)) ∧ ∃ p, p < q ∧ f_X9_leftBy o (Int32.ofNat a) (Int32.ofNat p) = some (gA o 46 a))) → n < N + q → wp (lp_X9_layLeft_37 rec22 N (Int32.ofNat a, v3, o)) P := by
  have b128 := (bt5 n hn).2.1
  have ta := on32 (n := a) (by omega)
  have ca := oc32 (n := a) (by omega)
  intro N
  induction N with
  | zero => intro v3 o q _ _ _ _ _ _ _; exfalso; omega
  | succ N ih =>
    intro v3 o q hI hK e3 hq hG hM hN
    show wp (lb_X9_layLeft_37 rec22 (lp_X9_layLeft_37 rec22 N) (Int32.ofNat a) v3 o) P
    unfold lb_X9_layLeft_37
    have k3 : gA o 3 = gA o0 3 := hK.2.1 3 (by decide)
    rw [k3]
    refine wp_if (fun c => ?_) (fun c => ?_)
    · have c := cv_le (a := (n : Int)) (b := (q : Int)) en e3 c
      refine wp_lt (fun x7 e7 => ?_)
      have t7 : x7.toInt = (a : Int) + (-1) := by rw [e7]; exact i32_add ta (by decide) (by omega) (by omega)
      refine hrec x7 o hI hK (by omega) (fun b h1 h2 => ?_)
      by_cases hb : b = a
      · subst hb
        rcases hM with ⟨-, h⟩ | ⟨m1, m2, p, hp, ep⟩
        · exact absurd (fun p hp => h p (by omega)) (bt2 n hn b ha)
        · exact ⟨⟨m1, m2⟩, fun _ => ⟨p, by omega, ep⟩⟩
      · exact hG b (by omega) h2
    have c := cv_nle (a := (n : Int)) (b := (q : Int)) en e3 c
    have ev : v3 = Int32.ofNat q := by
      have := of32 (x := v3) (by omega)
      rw [this, e3]; rfl
    have h82 : ∀ s0 : Int32, ((s0.toInt = 100000000 ∧ (∀ p, p < q + 1 → bz a p = true)) ∨ (0 ≤ s0.toInt ∧ s0.toInt ≤ 7 * (127 - (a : Int)) ∧ ∃ p, p < q + 1 ∧ f_X9_leftBy o (Int32.ofNat a) (Int32.ofNat p) = some s0)) → wp (bk_X9_layLeft_82 rec22 (lp_X9_layLeft_37 rec22 N) (Int32.ofNat a) v3 s0 (Int32.ofNat a) o) P := by
      intro s0 hs
      unfold bk_X9_layLeft_82
      refine wp_gd (zin_of (m := 128) rfl (by omega) (by omega)) ?_
      rw [ca]
      refine wp_lt (fun o12 e12 => ?_)
      refine wp_lt (fun x13 e13 => ?_)
      have t13 : x13.toInt = (q : Int) + 1 := by rw [e13]; exact i32_add e3 (by decide) (by omega) (by omega)
      have e46 : gA o12 46 a = s0 := by rw [e12, upd_at, if_pos rfl]
      refine ih x13 o12 (q + 1) (by rw [e12]; exact hI) (hK.trans (by rw [e12]; exact Kp.tA (by decide) (by decide))) (by omega) (by omega) (fun b h1 h2 => by rw [e12]; exact (hG b h1 h2).up hn (by omega) h1) ?_ (by omega)
      rw [e46]
      rcases hs with h | ⟨m1, m2, p, hp, ep⟩
      · exact Or.inl h
      · refine Or.inr ⟨m1, m2, p, hp, ?_⟩
        rw [e12, lb_stab o a a p s0 (by omega) (by omega) (Nat.le_refl _)]; exact ep
    rw [ev]
    rw [← ev]
    cases hb : bz a q with
    | true =>
      refine wp_bd (Q := fun z => z = 100000000) ⟨_, by rw [ev]; exact lb_one o a q hb, rfl⟩ (fun z8 hz8 => ?_)
      refine wp_gd (zin_of (m := 128) rfl (by omega) (by omega)) ?_
      have tz : z8.toInt = 100000000 := by rw [hz8]; decide
      rw [ca]
      refine wp_if (fun c2 => ?_) (fun c2 => ?_)
      · refine wp_gd (zin_of (m := 128) rfl (by omega) (by omega)) ?_
        refine h82 _ ?_
        rcases hM with ⟨m1, m2⟩ | ⟨m1, m2, p, hp, ep⟩
        · refine Or.inl ⟨m1, fun p hp => ?_⟩
          rcases (show p < q ∨ p = q by omega) with h | h
          · exact m2 p h
          · rw [h]; exact hb
        · exact Or.inr ⟨m1, m2, p, by omega, ep⟩
      · exfalso
        have c2 := cv_nle (a := (gA o 46 a).toInt) (b := z8.toInt) rfl rfl c2
        rcases hM with ⟨m1, m2⟩ | ⟨m1, m2, -⟩ <;> omega
    | false =>
      obtain ⟨cc, hcc, ecc⟩ := lb_zero o a q (by omega) (by omega) hb
      have b1 := bt1 a (by omega) q (by omega)
      have b3 := bt3 n hn a (by omega) q (by omega)
      have b4 := b1.2.2.1 hb
      have hy := (hG (yv a q).toInt.toNat b4 b3).1
      have tc : (cc + gA o 46 (yv a q).toInt.toNat).toInt = cc.toInt + (gA o 46 (yv a q).toInt.toNat).toInt := i32_add rfl rfl (by omega) (by omega)
      refine wp_bd (Q := fun z => z = cc + gA o 46 (yv a q).toInt.toNat) ⟨_, by rw [ev]; exact ecc o rfl, rfl⟩ (fun z8 hz8 => ?_)
      refine wp_gd (zin_of (m := 128) rfl (by omega) (by omega)) ?_
      have tz : z8.toInt = cc.toInt + (gA o 46 (yv a q).toInt.toNat).toInt := by rw [hz8]; exact tc
      rw [ca]
      refine wp_if (fun c2 => ?_) (fun c2 => ?_)
      · have c2 := cv_le (a := (gA o 46 a).toInt) (b := z8.toInt) rfl rfl c2
        refine wp_gd (zin_of (m := 128) rfl (by omega) (by omega)) ?_
        refine h82 _ ?_
        rcases hM with ⟨m1, m2⟩ | ⟨m1, m2, p, hp, ep⟩
        · exfalso; omega
        · exact Or.inr ⟨m1, m2, p, by omega, ep⟩
      · refine h82 z8 (Or.inr ⟨by omega, by omega, q, by omega, ?_⟩)
        rw [hz8]; exact ecc o rfl
theorem h_lay22 (o0 : Ob) (n : Nat) (hn : n < 8) (en : (gA o0 3 (0 : Int32).toNatClampNeg).toInt = (n : Int)) :
    ∀ (N : Nat) (v2 : Int32) (o : Ob) (a : Nat), IvX9 o → Kp [8, 13, 14, 15, 16, 19, 20, 21, 23, 26, 29, 30, 34, 38, 43, 59, 62] [3, 7, 10, 12, 22, 24, 25, 27, 28, 42, 48, 50, 51, 55] [(3, (0 : Int32))] o0 o → v2.toInt = (a : Int) - 1 → a ≤ 2 ^ n - 1 → (∀ b, a ≤ b → b < 2 ^ n → LG o n b) → a < N → wp (lp_X9_layLeft_22 N (v2, o)) (fun y => (IvX9 y ∧ Kp [8, 13, 14, 15, 16, 19, 20, 21, 23, 26, 29, 30, 34, 38, 43, 59, 62] [3, 7, 10, 12, 22, 24, 25, 27, 28, 42, 48, 50, 51, 55] [(3, (0 : Int32))] o0 y) ∧ ∀ b, b < 2 ^ n → LG y n b) := by
  have b128 := (bt5 n hn).2.1
  intro N
  induction N with
  | zero => intro v2 o a _ _ _ _ _ h; exact absurd h (Nat.not_lt_zero _)
  | succ N ih =>
    intro v2 o a hI hK e2 ha hG hN
    show wp (lb_X9_layLeft_22 (lp_X9_layLeft_22 N) v2 o) _
    unfold lb_X9_layLeft_22
    refine wp_if (fun c => ?_) (fun c => ?_)
    · have c := cv_lt (a := v2.toInt) (b := 0) rfl (by decide) c
      exact wp_some ⟨⟨hI, hK⟩, fun b hb => hG b (by omega) hb⟩
    have c := cv_nlt (a := v2.toInt) (b := 0) rfl (by decide) c
    obtain ⟨k, rfl⟩ : ∃ k, a = k + 1 := ⟨a - 1, by omega⟩
    have ev : v2 = Int32.ofNat k := by
      have h := of32 (x := v2) c
      rw [h]
      have : v2.toInt.toNat = k := by omega
      rw [this]
    subst ev
    have tk := on32 (n := k) (by omega)
    have ck := oc32 (n := k) (by omega)
    refine wp_gd (zin_of (m := 128) rfl (by omega) (by omega)) ?_
    rw [ck]
    refine wp_lt (fun o6 e6 => ?_)
    have z0 : (0 : Int32).toInt = ((0 : Nat) : Int) := by decide
    refine h_lay37 o0 n hn en _ (lp_X9_layLeft_22 N) k (by omega) (fun x o' g1 g2 g3 g4 => ih x o' k g1 g2 g3 (by omega) g4 (by omega)) zfu 0 o6 0 (by rw [e6]; exact hI) (hK.trans (by rw [e6]; exact Kp.tA (by decide) (by decide))) z0 (by omega) (fun b h1 h2 => by rw [e6]; exact (hG b (by omega) h2).up hn (by omega) (by omega)) (Or.inl ⟨?_, fun p hp => absurd hp (Nat.not_lt_zero _)⟩) (by show n < 100000 + 0; omega)
    rw [e6, upd_at, if_pos rfl]; decide
theorem h_layLeft (o : Ob) (hI : IvX9 o) (n : Nat) (en : (gA o 3 (0 : Int32).toNatClampNeg).toInt = (n : Int)) : wp (f_X9_layLeft o) (fun y => (IvX9 y ∧ Kp [8, 13, 14, 15, 16, 19, 20, 21, 23, 26, 29, 30, 34, 38, 43, 59, 62] [3, 7, 10, 12, 22, 24, 25, 27, 28, 42, 48, 50, 51, 55] [(3, (0 : Int32))] o y) ∧ ∀ b, b < 2 ^ n → LG y n b) := by
  have r0 := iaX9_3_0 hI (j := 0) (by decide) (by decide)
  have hn : n < 8 := by omega
  have b5 := bt5 n hn
  have ev : gA o 3 (0 : Int32).toNatClampNeg = Int32.ofNat n := by
    have h := of32 (x := gA o 3 (0 : Int32).toNatClampNeg) (by omega)
    rw [h, en]; rfl
  unfold f_X9_layLeft
  rw [ev]
  refine wp_lt (fun x1 e1 => ?_)
  have t1 : x1.toInt = ((2 ^ n : Nat) : Int) - 1 := by rw [e1]; exact i32_sub b5.1 (by decide) (by omega) (by omega)
  have n1 : x1.toNatClampNeg = 2 ^ n - 1 := tnc_eq (by omega)
  refine wp_gd (zin_of (m := 128) rfl (by omega) (by omega)) ?_
  rw [n1]
  refine wp_lt (fun o3 e3 => ?_)
  refine wp_lt (fun x4 e4 => ?_)
  have t4 : x4.toInt = ((2 ^ n - 1 : Nat) : Int) - 1 := by
    have t : x4.toInt = ((2 ^ n : Nat) : Int) - 1 - 1 := by rw [e4]; exact i32_sub t1 (by decide) (by omega) (by omega)
    omega
  refine h_lay22 o n hn en zfu x4 o3 (2 ^ n - 1) (by rw [e3]; exact hI) (by rw [e3]; exact Kp.tA (by decide) (by decide)) t4 (Nat.le_refl _) (fun b h1 h2 => ?_) (by show _ < 100000; omega)
  have eb : b = 2 ^ n - 1 := by omega
  have e0 : (gA o3 46 b).toInt = 0 := by rw [e3, upd_at, if_pos eb]; decide
  exact ⟨⟨by omega, by omega⟩, fun h => by omega⟩
theorem h_rank47 (P : Int32 × Ob → Prop) (n : Nat) (hn : n < 8) (rec39 : Int32 × Int32 × Int32 × Int32 × Ob → Option (Int32 × Ob)) (v1 v4 : Int32) (a : Nat) (ha : a < 2 ^ n - 1) (o : Ob) (hI : IvX9 o) (p : Nat) (hp : p < n) (ep : f_X9_leftBy o (Int32.ofNat a) (Int32.ofNat p) = some (gA o 46 a))
    (hrec : ∀ (q : Nat) (x8 : Int32), q < n → x8 = v4 + 1 → wp (rec39 (v1, yv a q, Int32.ofNat q, x8, o)) P) :
    ∀ (N : Nat) (q : Nat), q ≤ p → p < N + q → wp (lp_X9_ranking_47 rec39 N (v1, Int32.ofNat a, Int32.ofNat q, v4, o)) P := by
  have b128 := (bt5 n hn).2.1
  have ta := on32 (n := a) (by omega)
  have ca := oc32 (n := a) (by omega)
  intro N
  induction N with
  | zero => intro q _ _; exfalso; omega
  | succ N ih =>
    intro q hq hN
    show wp (lb_X9_ranking_47 rec39 (lp_X9_ranking_47 rec39 N) v1 (Int32.ofNat a) (Int32.ofNat q) v4 o) P
    unfold lb_X9_ranking_47
    have tq := on32 (n := q) (by omega)
    obtain ⟨z, ez, -⟩ := s_X9_leftBy o (Int32.ofNat a) (Int32.ofNat q) hI ⟨by omega, by omega⟩ ⟨by omega, by omega⟩
    refine wp_bd (Q := fun w => w = z) ⟨z, ez, rfl⟩ (fun z5 hz5 => ?_)
    refine wp_gd (zin_of (m := 128) rfl (by omega) (by omega)) ?_
    rw [ca]
    refine wp_if (fun c => ?_) (fun c => ?_)
    · refine wp_lt (fun x7 e7 => ?_)
      refine wp_lt (fun x8 e8 => ?_)
      rw [e7]
      exact hrec q x8 (by omega) e8
    · have hne : q ≠ p := by
        intro e
        subst e
        rw [ep] at ez
        exact c (hz5.trans (Option.some.inj ez).symm)
      refine wp_lt (fun x9 e9 => ?_)
      have t9 : x9.toInt = (q : Int) + 1 := by rw [e9]; exact i32_add tq (by decide) (by omega) (by omega)
      have e : x9 = Int32.ofNat (q + 1) := by
        have h := of32 (x := x9) (by omega)
        rw [h]
        have : x9.toInt.toNat = q + 1 := by omega
        rw [this]
      rw [e]
      exact ih (q + 1) (by omega) (by omega)
theorem h_rank39 (o : Ob) (hI : IvX9 o) (n : Nat) (hn : n < 8) (hG : ∀ b, b < 2 ^ n → LG o n b) (v1 : Int32) (w : Nat) (e1 : v1.toInt = (w : Int)) (hw : w ≤ n) :
    ∀ (N : Nat) (a k : Nat) (v3 v4 : Int32), a < 2 ^ n → pcn a ≤ k → v4.toInt = (k : Int) → k ≤ w → w < N + k → wp (lp_X9_ranking_39 N (v1, Int32.ofNat a, v3, v4, o)) (fun y => y.2 = o) := by
  intro N
  induction N with
  | zero => intro a k v3 v4 _ _ _ _ _; exfalso; omega
  | succ N ih =>
    intro a k v3 v4 ha hp e4 hk hN
    show wp (lb_X9_ranking_39 (lp_X9_ranking_39 N) v1 (Int32.ofNat a) v3 v4 o) _
    unfold lb_X9_ranking_39
    refine wp_if (fun c => wp_some rfl) (fun c => ?_)
    have c := cv_nle (a := (w : Int)) (b := (k : Int)) e1 e4 c
    have ha2 := bt4 n hn a ha (by omega)
    have b128 := (bt5 n hn).2.1
    obtain ⟨p, hp2, ep⟩ := (hG a ha).2 ha2
    refine h_rank47 _ n hn (lp_X9_ranking_39 N) v1 v4 a ha2 o hI p hp2 ep (fun q x8 hq e8 => ?_) zfu 0 (Nat.zero_le _) (by show p < 100000 + 0; omega)
    have t8 : x8.toInt = (k : Int) + 1 := by rw [e8]; exact i32_add e4 (by decide) (by omega) (by omega)
    have b1 := bt1 a (by omega) q (by omega)
    have b3 := bt3 n hn a ha q hq
    have ey := of32 (x := yv a q) b1.1
    rw [ey]
    exact ih (yv a q).toInt.toNat (k + 1) _ x8 b3 (by have := b1.2.2.2; omega) (by omega) (by omega) (by omega)
set_option maxHeartbeats 4000000 in
set_option maxRecDepth 100000 in
theorem ts_X9_ranking (o_me : Ob) (p0 : Int32) (hI_me : IvX9 o_me)  : wp (f_X9_ranking   o_me p0) (fun (y : Int32 × Ob) => IvX9 y.2 ∧ Kp [8, 13, 14, 15, 16, 19, 20, 21, 23, 26, 29, 30, 34, 38, 43, 59, 62] [3, 7, 10, 12, 22, 24, 25, 27, 28, 42, 48, 50, 51, 55] [(3, (0 : Int32))] o_me y.2) := by
  unfold f_X9_ranking
  refine wp_lt (fun o1 e1 => ?_)
  have hI1 : IvX9 o1 := by rw [e1]; exact hI_me
  have hK1 : Kp [8, 13, 14, 15, 16, 19, 20, 21, 23, 26, 29, 30, 34, 38, 43, 59, 62] [3, 7, 10, 12, 22, 24, 25, 27, 28, 42, 48, 50, 51, 55] [(3, (0 : Int32))] o_me o1 := by rw [e1]; exact Kp.sI (by decide)
  have r0 := iaX9_3_0 hI1 (j := 0) (by decide) (by decide)
  refine wp_bd (s_X9_in _ _ _) (fun z2 hz2 => ?_)
  refine wp_if (fun c => wp_some ⟨hI1, hK1⟩) (fun c => ?_)
  have r := hz2.2 c
  have l0 : (0 : Int64).toInt = 0 := by decide
  have ep := Int32.toInt_toInt64 p0
  have er := Int32.toInt_toInt64 (gA o1 3 (0 : Int32).toNatClampNeg)
  obtain ⟨n, en⟩ : ∃ n : Nat, (gA o1 3 (0 : Int32).toNatClampNeg).toInt = (n : Int) := ⟨(gA o1 3 (0 : Int32).toNatClampNeg).toInt.toNat, by omega⟩
  refine wp_bd (h_layLeft o1 hI1 n en) (fun z3 hz3 => ?_)
  refine wp_lt (fun x4 _ => ?_)
  have b5 := bt5 n (by omega)
  refine wp_mono (h_rank39 z3 hz3.1.1 n (by omega) hz3.2 p0 p0.toInt.toNat (by omega) (by omega) zfu 0 0 x4 0 (by omega) (by decide) (by decide) (Nat.zero_le _) (by show _ < 100000 + 0; omega)) (fun y hy => ?_)
  rw [hy]
  exact ⟨hz3.1.1, hK1.trans (hz3.1.2.mono (by decide) (by decide) (by decide))⟩
