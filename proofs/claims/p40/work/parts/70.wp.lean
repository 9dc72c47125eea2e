-- what a function comes to: it has an answer, and that is so and so
def wp {α : Type} (x : Option α) (P : α → Prop) : Prop := ∃ y, x = some y ∧ P y
theorem wp_some {α : Type} {v : α} {P : α → Prop} (h : P v) : wp (some v) P := ⟨v, rfl, h⟩
theorem wp_gd {α : Type} {b : Bool} {x : Option α} {P : α → Prop} (hb : b = true) (h : wp x P) : wp (zgd b x) P := by rw [hb]; exact h
theorem wp_lt {α β : Type} {a : α} {k : α → Option β} {P : β → Prop} (h : ∀ z, z = a → wp (k z) P) : wp (zlt a k) P := h a rfl
theorem wp_if {α : Type} {c : Prop} {i : Decidable c} {x y : Option α} {P : α → Prop} (h1 : c → wp x P) (h2 : ¬ c → wp y P) : wp (@ite _ c i x y) P := by
  by_cases hc : c
  · rw [if_pos hc]; exact h1 hc
  · rw [if_neg hc]; exact h2 hc
theorem wp_bd {α β : Type} {x : Option α} {k : α → Option β} {Q : α → Prop} {P : β → Prop} (h : wp x Q) (hk : ∀ z, Q z → wp (k z) P) : wp (x.bind k) P := by
  obtain ⟨z, e, hz⟩ := h
  rw [e]
  exact hk z hz
theorem wp_mono {α : Type} {x : Option α} {P Q : α → Prop} (h : wp x P) (hPQ : ∀ y, P y → Q y) : wp x Q := by
  obtain ⟨y, e, hy⟩ := h
  exact ⟨y, e, hPQ y hy⟩
-- numbers
theorem zin_of {i : Int32} {n : Nat} {m : Int} (hm : (n : Int) = m) (h0 : 0 ≤ i.toInt) (h1 : i.toInt < m) : zin i n = true := by
  unfold zin
  exact decide_eq_true ⟨h0, by omega⟩
theorem zbo_of {v : Int32} (h0 : 0 ≤ v.toInt) (h1 : v.toInt ≤ 1) : zbo v = true := by
  unfold zbo
  rcases (show v.toInt = 0 ∨ v.toInt = 1 by omega) with h | h
  · obtain rfl : v = 0 := Int32.toInt_inj.mp (h.trans (by decide))
    decide
  · obtain rfl : v = 1 := Int32.toInt_inj.mp (h.trans (by decide))
    decide
theorem zcp_of {sp dp n : Int32} {N0 N1 : Nat} {m0 m1 : Int} (e0 : (N0 : Int) = m0) (e1 : (N1 : Int) = m1) (h0 : 0 ≤ sp.toInt) (h1 : 0 ≤ dp.toInt) (h2 : 0 ≤ n.toInt) (h3 : sp.toInt + n.toInt ≤ m0) (h4 : dp.toInt + n.toInt ≤ m1) : zcp sp dp n N0 N1 = true := by
  unfold zcp
  exact decide_eq_true ⟨h0, h1, h2, by omega, by omega⟩
theorem i32_rg (x : Int32) : -2147483648 ≤ x.toInt ∧ x.toInt ≤ 2147483647 := by
  have h1 := Int32.le_toInt x
  have h2 := Int32.toInt_lt x
  omega
theorem i32_mul {x y : Int32} {a b : Int} (hx : x.toInt = a) (hy : y.toInt = b) (h1 : -2147483648 ≤ a * b) (h2 : a * b ≤ 2147483647) : (x * y).toInt = a * b := by
  rw [Int32.toInt_mul, hx, hy]
  exact Int.bmod_eq_of_le (by omega) (by omega)
theorem i32_neg {x : Int32} {a : Int} (hx : x.toInt = a) (h1 : -2147483647 ≤ a) (h2 : a ≤ 2147483647) : (-x).toInt = -a := by
  rw [Int32.toInt_neg, hx]
  exact Int.bmod_eq_of_le (by omega) (by omega)
theorem i32_and {x y : Int32} {m : Int} (hy : 0 ≤ y.toInt ∧ y.toInt ≤ m) : 0 ≤ (x &&& y).toInt ∧ (x &&& y).toInt ≤ m := by
  have h2 : (x &&& y).toInt = (x.toBitVec &&& y.toBitVec).toInt := rfl
  have h4 : y.toInt = y.toBitVec.toInt := rfl
  rw [h2]
  rw [h4] at hy
  have h3 : (x.toBitVec &&& y.toBitVec).toNat ≤ y.toBitVec.toNat := by
    rw [BitVec.toNat_and]
    exact Nat.and_le_right
  rw [BitVec.toInt_eq_toNat_cond] at hy ⊢
  have h5 := y.toBitVec.isLt
  split at hy
  · split <;> omega
  · omega
-- rows of numbers by stretches: (first place, last place, least, most)
def sgd : List (Nat × Nat × Int × Int) → (Nat → Int32) → Prop
  | [], _ => True
  | (a, b, lo, hi) :: L, g => (∀ j : Nat, a ≤ j → j ≤ b → lo ≤ (g j).toInt ∧ (g j).toInt ≤ hi) ∧ sgd L g
theorem sg_rd {a b : Nat} {lo hi : Int} {g : Nat → Int32} (h : ∀ j : Nat, a ≤ j → j ≤ b → lo ≤ (g j).toInt ∧ (g j).toInt ≤ hi) {i : Int32} (h0 : (a : Int) ≤ i.toInt) (h1 : i.toInt ≤ (b : Int)) : lo ≤ (g i.toNatClampNeg).toInt ∧ (g i.toNatClampNeg).toInt ≤ hi := by
  have e : i.toNatClampNeg = i.toInt.toNat := rfl
  exact h _ (by rw [e]; omega) (by rw [e]; omega)
theorem sg_up {a b : Nat} {lo hi : Int} {g : Nat → Int32} (h : ∀ j : Nat, a ≤ j → j ≤ b → lo ≤ (g j).toInt ∧ (g j).toInt ≤ hi) {i v : Int32} (hi0 : 0 ≤ i.toInt) (hv : i.toInt < (a : Int) ∨ (b : Int) < i.toInt ∨ (lo ≤ v.toInt ∧ v.toInt ≤ hi)) : ∀ j : Nat, a ≤ j → j ≤ b → lo ≤ (upd g i.toNatClampNeg v j).toInt ∧ (upd g i.toNatClampNeg v j).toInt ≤ hi := by
  intro j h1 h2
  have e : i.toNatClampNeg = i.toInt.toNat := rfl
  show lo ≤ (if j = i.toNatClampNeg then v else g j).toInt ∧ (if j = i.toNatClampNeg then v else g j).toInt ≤ hi
  rw [e]
  split
  · omega
  · exact h j h1 h2
theorem sg_cp {a b : Nat} {lo hi : Int} {f g : Nat → Int32} {sp dp n : Nat} (h : ∀ j : Nat, a ≤ j → j ≤ b → lo ≤ (g j).toInt ∧ (g j).toInt ≤ hi) (hf : ∀ j : Nat, sp ≤ j → j < sp + n → lo ≤ (f j).toInt ∧ (f j).toInt ≤ hi) : ∀ j : Nat, a ≤ j → j ≤ b → lo ≤ (va_cpy f g sp dp n j).toInt ∧ (va_cpy f g sp dp n j).toInt ≤ hi := by
  intro j h1 h2
  unfold va_cpy
  split
  · exact hf _ (by omega) (by omega)
  · exact h j h1 h2
theorem upd_ne {g : Nat → Int32} {i j v : Int32} (h0 : 0 ≤ i.toInt) (h1 : 0 ≤ j.toInt) (h : i.toInt ≠ j.toInt) : upd g i.toNatClampNeg v j.toNatClampNeg = g j.toNatClampNeg := by
  have e1 : i.toNatClampNeg = i.toInt.toNat := rfl
  have e2 : j.toNatClampNeg = j.toInt.toNat := rfl
  show (if j.toNatClampNeg = i.toNatClampNeg then v else g j.toNatClampNeg) = g j.toNatClampNeg
  rw [e1, e2]
  exact if_neg (by omega)
theorem upd_eq {g : Nat → Int32} {i v : Int32} : upd g i.toNatClampNeg v i.toNatClampNeg = v := if_pos rfl
-- what stays: fields, rows, cells of rows
def Kp (L LA : List Nat) (LC : List (Nat × Nat)) (o o' : Ob) : Prop := (∀ i ∈ L, gI o' i = gI o i) ∧ (∀ i ∈ LA, gA o' i = gA o i) ∧ ∀ c ∈ LC, ∀ j, c.1 ≤ j → j < c.2 → gA o' 3 j = gA o 3 j
theorem Kp.rf {L LA : List Nat} {LC : List (Nat × Nat)} {o : Ob} : Kp L LA LC o o := ⟨fun _ _ => rfl, fun _ _ => rfl, fun _ _ _ _ _ => rfl⟩
theorem Kp.trans {L LA : List Nat} {LC : List (Nat × Nat)} {o o' o'' : Ob} (h : Kp L LA LC o o') (h' : Kp L LA LC o' o'') : Kp L LA LC o o'' := ⟨fun i hi => (h'.1 i hi).trans (h.1 i hi), fun i hi => (h'.2.1 i hi).trans (h.2.1 i hi), fun c hc j h1 h2 => (h'.2.2 c hc j h1 h2).trans (h.2.2 c hc j h1 h2)⟩
theorem Kp.mono {L LA L' LA' : List Nat} {LC LC' : List (Nat × Nat)} {o o' : Ob} (h : Kp L LA LC o o') (h1 : ∀ i ∈ L', i ∈ L) (h2 : ∀ i ∈ LA', i ∈ LA) (h3 : ∀ i ∈ LC', i ∈ LC) : Kp L' LA' LC' o o' := ⟨fun i hi => h.1 i (h1 i hi), fun i hi => h.2.1 i (h2 i hi), fun c hc => h.2.2 c (h3 c hc)⟩
theorem fset_ne {α : Type} {f : Nat → α} {k i : Nat} {v : α} (h : i ≠ k) : fset f k v i = f i := by
  have e : Nat.beq i k = false := by
    cases h9 : Nat.beq i k with
    | false => rfl
    | true => exact absurd (Nat.eq_of_beq_eq_true h9) h
  show cond (Nat.beq i k) v (f i) = f i
  rw [e]; rfl
theorem Kp.sI {L LA : List Nat} {LC : List (Nat × Nat)} {o : Ob} {k : Nat} {v : Int32} (hk : k ∉ L) : Kp L LA LC o (sI o k v) := ⟨fun _ hi => fset_ne (fun e => hk (e ▸ hi)), fun _ _ => rfl, fun _ _ _ _ _ => rfl⟩
theorem Kp.sL {L LA : List Nat} {LC : List (Nat × Nat)} {o : Ob} {k : Nat} {v : Int64} : Kp L LA LC o (sL o k v) := ⟨fun _ _ => rfl, fun _ _ => rfl, fun _ _ _ _ _ => rfl⟩
theorem Kp.sA {L LA : List Nat} {LC : List (Nat × Nat)} {o : Ob} {k : Nat} {g : Nat → Int32} (hk : k ∉ LA) (hc : LC = [] ∨ 3 ≠ k) : Kp L LA LC o (sA o k g) := by
  refine ⟨fun _ _ => rfl, fun _ hi => fset_ne (fun e => hk (e ▸ hi)), fun c hi j _ _ => ?_⟩
  rcases hc with e | e
  · rw [e] at hi; exact absurd hi List.not_mem_nil
  · exact congrFun (fset_ne (f := fun i => gA o i) e) j
theorem Kp.tA {L LA : List Nat} {LC : List (Nat × Nat)} {o : Ob} {k j : Nat} {v : Int32} (hk : k ∉ LA) (hc : LC = [] ∨ 3 ≠ k) : Kp L LA LC o (tA o k j v) := Kp.sA hk hc
theorem kp_bw {L LA : List Nat} {LC : List (Nat × Nat)} {o : Ob} {j v : Int32} {a b : Nat} (hk : 3 ∉ LA) (hc : ∀ c ∈ LC, c.2 ≤ a ∨ b ≤ c.1) (h1 : (a : Int) ≤ j.toInt) (h2 : j.toInt < (b : Int)) : Kp L LA LC o (tA o 3 j.toNatClampNeg v) := by
  refine ⟨fun _ _ => rfl, fun _ hi => fset_ne (fun e => hk (e ▸ hi)), fun c hi i g1 g2 => ?_⟩
  have h := hc c hi
  have e : j.toNatClampNeg = j.toInt.toNat := rfl
  exact if_neg (show ¬ i = j.toNatClampNeg by rw [e]; omega)
theorem Kp.tM {L LA : List Nat} {LC : List (Nat × Nat)} {o : Ob} {k j : Nat} {v : Int64} : Kp L LA LC o (tM o k j v) := ⟨fun _ _ => rfl, fun _ _ => rfl, fun _ _ _ _ _ => rfl⟩
theorem Kp.tR {L LA : List Nat} {LC : List (Nat × Nat)} {o : Ob} {k j : Nat} {v : Option Nat} : Kp L LA LC o (tR o k j v) := ⟨fun _ _ => rfl, fun _ _ => rfl, fun _ _ _ _ _ => rfl⟩
theorem Kp.cA {L LA : List Nat} {LC : List (Nat × Nat)} {o : Ob} {k : Nat} {f : Nat → Int32} {a b c : Int32} (hk : k ∉ LA) (hc : LC = [] ∨ 3 ≠ k) : Kp L LA LC o (cA o k f a b c) := Kp.sA hk hc
theorem zit_s {α β : Type} {B : (α → Option β) → α → Option β} {n : Nat} {a : α} : zit B (n + 1) a = B (zit B n) a := rfl
theorem z_max {x y : Int32} {a b lo hi : Int} (hx : x.toInt = a) (hy : y.toInt = b) (h1 : lo ≤ a ∨ lo ≤ b) (h2 : a ≤ hi ∧ b ≤ hi) : lo ≤ (if x < y then y else x).toInt ∧ (if x < y then y else x).toInt ≤ hi := by
  split
  · rename_i h; have := cv_lt hx hy h; rw [hy]; omega
  · rename_i h; have := cv_nlt hx hy h; rw [hx]; omega
theorem z_min {x y : Int32} {a b lo hi : Int} (hx : x.toInt = a) (hy : y.toInt = b) (h1 : lo ≤ a ∧ lo ≤ b) (h2 : a ≤ hi ∨ b ≤ hi) : lo ≤ (if y < x then y else x).toInt ∧ (if y < x then y else x).toInt ≤ hi := by
  split
  · rename_i h; have := cv_lt hy hx h; rw [hy]; omega
  · rename_i h; have := cv_nlt hy hx h; rw [hx]; omega
theorem z_maxl {x y : Int64} {a b lo hi : Int} (hx : x.toInt = a) (hy : y.toInt = b) (h1 : lo ≤ a ∨ lo ≤ b) (h2 : a ≤ hi ∧ b ≤ hi) : lo ≤ (if y < x then x else y).toInt ∧ (if y < x then x else y).toInt ≤ hi := by
  split
  · rename_i h; have := Int64.lt_iff_toInt_lt.mp h; rw [hx]; omega
  · rename_i h; have : ¬ y.toInt < x.toInt := fun z => h (Int64.lt_iff_toInt_lt.mpr z); rw [hy]; omega
theorem z_minl {x y : Int64} {a b lo hi : Int} (hx : x.toInt = a) (hy : y.toInt = b) (h1 : lo ≤ a ∧ lo ≤ b) (h2 : a ≤ hi ∨ b ≤ hi) : lo ≤ (if y < x then y else x).toInt ∧ (if y < x then y else x).toInt ≤ hi := by
  split
  · rename_i h; have := Int64.lt_iff_toInt_lt.mp h; rw [hy]; omega
  · rename_i h; have : ¬ y.toInt < x.toInt := fun z => h (Int64.lt_iff_toInt_lt.mpr z); rw [hx]; omega
theorem i64_add {x y : Int64} {a b : Int} (hx : x.toInt = a) (hy : y.toInt = b) (h1 : -9223372036854775808 ≤ a + b) (h2 : a + b ≤ 9223372036854775807) : (x + y).toInt = a + b := by
  rw [Int64.toInt_add, hx, hy]
  exact Int.bmod_eq_of_le (by omega) (by omega)
theorem i64_sub {x y : Int64} {a b : Int} (hx : x.toInt = a) (hy : y.toInt = b) (h1 : -9223372036854775808 ≤ a - b) (h2 : a - b ≤ 9223372036854775807) : (x - y).toInt = a - b := by
  rw [Int64.toInt_sub, hx, hy]
  exact Int.bmod_eq_of_le (by omega) (by omega)
theorem i64_rg (x : Int64) : -9223372036854775808 ≤ x.toInt ∧ x.toInt ≤ 9223372036854775807 := by
  have h1 := Int64.le_toInt x
  have h2 := Int64.toInt_lt x
  omega
-- sixth start
theorem z_mxg (x y : Int32) : x.toInt ≤ (if x < y then y else x).toInt ∧ y.toInt ≤ (if x < y then y else x).toInt := by
  split
  · rename_i h; have := cv_lt (a := x.toInt) (b := y.toInt) rfl rfl h; omega
  · rename_i h; have := cv_nlt (a := x.toInt) (b := y.toInt) rfl rfl h; omega
theorem z_mng (x y : Int32) : (if y < x then y else x).toInt ≤ x.toInt ∧ (if y < x then y else x).toInt ≤ y.toInt := by
  split
  · rename_i h; have := cv_lt (a := y.toInt) (b := x.toInt) rfl rfl h; omega
  · rename_i h; have := cv_nlt (a := y.toInt) (b := x.toInt) rfl rfl h; omega
theorem i32_nn {x : Int32} (h : 0 ≤ x.toInt) : (x.toBitVec.toNat : Int) = x.toInt := by
  have h4 : x.toInt = x.toBitVec.toInt := rfl
  rw [h4, BitVec.toInt_eq_toNat_cond] at h ⊢
  split at h
  · rename_i h2; rw [if_pos h2]
  · have := x.toBitVec.isLt; omega
theorem i32_or7 {x y : Int32} (hx : 0 ≤ x.toInt ∧ x.toInt ≤ 127) (hy : 0 ≤ y.toInt ∧ y.toInt ≤ 127) : 0 ≤ (x ||| y).toInt ∧ (x ||| y).toInt ≤ 127 := by
  have h1 := i32_nn hx.1
  have h2 := i32_nn hy.1
  have h3 : (x.toBitVec ||| y.toBitVec).toNat < 2 ^ 7 := by
    rw [BitVec.toNat_or]
    exact Nat.or_lt_two_pow (by omega) (by omega)
  have h4 : (x ||| y).toInt = (x.toBitVec ||| y.toBitVec).toInt := rfl
  rw [h4, BitVec.toInt_eq_toNat_cond]
  split <;> omega
theorem i32_cases8 {p : Int32} (h0 : 0 ≤ p.toInt) (h1 : p.toInt ≤ 7) : p = 0 ∨ p = 1 ∨ p = 2 ∨ p = 3 ∨ p = 4 ∨ p = 5 ∨ p = 6 ∨ p = 7 := by
  have e : ∀ n : Int32, p.toInt = n.toInt → p = n := fun n h => Int32.toInt_inj.mp h
  rcases (show p.toInt = 0 ∨ p.toInt = 1 ∨ p.toInt = 2 ∨ p.toInt = 3 ∨ p.toInt = 4 ∨ p.toInt = 5 ∨ p.toInt = 6 ∨ p.toInt = 7 by omega) with h | h | h | h | h | h | h | h
  · exact Or.inl (e 0 (h.trans (by decide)))
  · exact Or.inr (Or.inl (e 1 (h.trans (by decide))))
  · exact Or.inr (Or.inr (Or.inl (e 2 (h.trans (by decide)))))
  · exact Or.inr (Or.inr (Or.inr (Or.inl (e 3 (h.trans (by decide))))))
  · exact Or.inr (Or.inr (Or.inr (Or.inr (Or.inl (e 4 (h.trans (by decide)))))))
  · exact Or.inr (Or.inr (Or.inr (Or.inr (Or.inr (Or.inl (e 5 (h.trans (by decide))))))))
  · exact Or.inr (Or.inr (Or.inr (Or.inr (Or.inr (Or.inr (Or.inl (e 6 (h.trans (by decide)))))))))
  · exact Or.inr (Or.inr (Or.inr (Or.inr (Or.inr (Or.inr (Or.inr (e 7 (h.trans (by decide)))))))))
theorem i32_shl7 {p : Int32} (h0 : 0 ≤ p.toInt) (h1 : p.toInt ≤ 7) : 1 ≤ ((1 : Int32) <<< (p &&& 31)).toInt ∧ ((1 : Int32) <<< (p &&& 31)).toInt ≤ 128 := by
  rcases i32_cases8 h0 h1 with h | h | h | h | h | h | h | h <;> (subst h; decide)
theorem i32_shl6 {p : Int32} (h0 : 0 ≤ p.toInt) (h1 : p.toInt ≤ 6) : 1 ≤ ((1 : Int32) <<< (p &&& 31)).toInt ∧ ((1 : Int32) <<< (p &&& 31)).toInt ≤ 64 := by
  rcases i32_cases8 h0 (by omega) with h | h | h | h | h | h | h | h <;> subst h
  · decide
  · decide
  · decide
  · decide
  · decide
  · decide
  · decide
  · exact absurd h1 (by decide)
theorem i32_rem {x y : Int32} {m : Int} (hy : y.toInt = m) (hm : 0 < m) (hx : 0 ≤ x.toInt) : 0 ≤ (x - x / y * y).toInt ∧ (x - x / y * y).toInt ≤ m - 1 := by
  have hr := i32_rg x
  have hr2 := i32_rg y
  have h1 : 0 ≤ x.toInt / m := Int.ediv_nonneg hx (by omega)
  have h2 : x.toInt / m * m ≤ x.toInt := Int.ediv_mul_le _ (by omega)
  have h2b : x.toInt / m ≤ x.toInt := Int.ediv_le_self _ hx
  have h3 : (x / y).toInt = x.toInt / m := by
    rw [Int32.toInt_div, hy, Int.tdiv_eq_ediv_of_nonneg hx]
    exact Int.bmod_eq_of_le (by omega) (by omega)
  have h0 : 0 ≤ x.toInt / m * m := Int.mul_nonneg h1 (by omega)
  have h4 : (x / y * y).toInt = x.toInt / m * m := i32_mul h3 hy (by omega) (by omega)
  have h5 : (x - x / y * y).toInt = x.toInt - x.toInt / m * m := i32_sub rfl h4 (by omega) (by omega)
  have h6 := Int.emod_nonneg x.toInt (show m ≠ 0 by omega)
  have h7 := Int.emod_lt_of_pos x.toInt hm
  have h8 : x.toInt % m = x.toInt - m * (x.toInt / m) := Int.emod_def _ _
  have h9 : m * (x.toInt / m) = x.toInt / m * m := Int.mul_comm _ _
  rw [h5]
  omega
theorem l2i_eq {x : Int64} (h0 : -2147483648 ≤ x.toInt) (h1 : x.toInt ≤ 2147483647) : x.toInt32.toInt = x.toInt := by
  rw [Int64.toInt_toInt32]
  exact Int.bmod_eq_of_le (by omega) (by omega)
theorem i32_subw {x y : Int32} {b : Int} (hy : y.toInt = b) (hb : 0 ≤ b) : (x - y).toInt = x.toInt - b ∨ (x - y).toInt = x.toInt - b + 4294967296 := by
  have h1 := i32_rg x
  have h2 := i32_rg y
  by_cases h : -2147483648 ≤ x.toInt - b
  · exact Or.inl (i32_sub rfl hy h (by omega))
  · right
    rw [Int32.toInt_sub, hy, ← Int.add_bmod_right (x.toInt - b) (2 ^ 32)]
    exact Int.bmod_eq_of_le (by omega) (by omega)
theorem i64_mul {x y : Int64} {a b : Int} (hx : x.toInt = a) (hy : y.toInt = b) (h1 : -9223372036854775808 ≤ a * b) (h2 : a * b ≤ 9223372036854775807) : (x * y).toInt = a * b := by
  rw [Int64.toInt_mul, hx, hy]
  exact Int.bmod_eq_of_le (by omega) (by omega)
theorem i64_rem {x y : Int64} {m : Int} (hy : y.toInt = m) (hm : 0 < m) (hx : 0 ≤ x.toInt) : 0 ≤ (x - x / y * y).toInt ∧ (x - x / y * y).toInt ≤ m - 1 := by
  have hr := i64_rg x
  have h1 : 0 ≤ x.toInt / m := Int.ediv_nonneg hx (by omega)
  have h2 : x.toInt / m * m ≤ x.toInt := Int.ediv_mul_le _ (by omega)
  have h2b : x.toInt / m ≤ x.toInt := Int.ediv_le_self _ hx
  have h3 : (x / y).toInt = x.toInt / m := by
    rw [Int64.toInt_div, hy, Int.tdiv_eq_ediv_of_nonneg hx]
    exact Int.bmod_eq_of_le (by omega) (by omega)
  have h0 : 0 ≤ x.toInt / m * m := Int.mul_nonneg h1 (by omega)
  have h4 : (x / y * y).toInt = x.toInt / m * m := i64_mul h3 hy (by omega) (by omega)
  have h5 : (x - x / y * y).toInt = x.toInt - x.toInt / m * m := i64_sub rfl h4 (by omega) (by omega)
  have h6 := Int.emod_nonneg x.toInt (show m ≠ 0 by omega)
  have h7 := Int.emod_lt_of_pos x.toInt hm
  have h8 : x.toInt % m = x.toInt - m * (x.toInt / m) := Int.emod_def _ _
  have h9 : m * (x.toInt / m) = x.toInt / m * m := Int.mul_comm _ _
  rw [h5]
  omega
theorem Kp.nil {o o' : Ob} : Kp [] [] [] o o' := ⟨fun _ h => absurd h List.not_mem_nil, fun _ h => absurd h List.not_mem_nil, fun _ h => absurd h List.not_mem_nil⟩
-- a law's code in the pool
def IvX0 (nc ns : Nat) (o : Ob) : Prop := (0 ≤ (gI o 7).toInt ∧ (gI o 7).toInt ≤ (nc : Int) ∧ (nc : Int) ≤ 12) ∧ (0 ≤ (gI o 8).toInt ∧ (gI o 8).toInt ≤ (ns : Int) ∧ (ns : Int) ≤ 400) ∧ sgd [(0, 11, 0, 20)] (gA o 1)
theorem igX0_7 {nc ns : Nat} {o : Ob} (h : IvX0 nc ns o) : 0 ≤ (gI o 7).toInt ∧ (gI o 7).toInt ≤ (nc : Int) ∧ (nc : Int) ≤ 12 := h.1
theorem igX0_8 {nc ns : Nat} {o : Ob} (h : IvX0 nc ns o) : 0 ≤ (gI o 8).toInt ∧ (gI o 8).toInt ≤ (ns : Int) ∧ (ns : Int) ≤ 400 := h.2.1
theorem ipX0_7 {nc ns : Nat} {o : Ob} {v : Int32} (h : IvX0 nc ns o) (hv : 0 ≤ v.toInt ∧ v.toInt ≤ (nc : Int)) : IvX0 nc ns (sI o 7 v) := ⟨⟨hv.1, hv.2, h.1.2.2⟩, h.2⟩
theorem ipX0_8 {nc ns : Nat} {o : Ob} {v : Int32} (h : IvX0 nc ns o) (hv : 0 ≤ v.toInt ∧ v.toInt ≤ (ns : Int)) : IvX0 nc ns (sI o 8 v) := ⟨h.1, ⟨hv.1, hv.2, h.2.1.2.2⟩, h.2.2⟩
theorem iaX0_1_0 {nc ns : Nat} {o : Ob} (h : IvX0 nc ns o) {j : Int32} (h0 : 0 ≤ j.toInt) (h1 : j.toInt ≤ 11) : 0 ≤ (gA o 1 j.toNatClampNeg).toInt ∧ (gA o 1 j.toNatClampNeg).toInt ≤ 20 := sg_rd h.2.2.1 (by omega) (by omega)
theorem ibX0_1 {nc ns : Nat} {o : Ob} {j v : Int32} (h : IvX0 nc ns o) (hj : 0 ≤ j.toInt) (h0 : j.toInt < 0 ∨ 11 < j.toInt ∨ (0 ≤ v.toInt ∧ v.toInt ≤ 20)) : IvX0 nc ns (tA o 1 j.toNatClampNeg v) := ⟨h.1, h.2.1, sg_up h.2.2.1 hj (by omega), trivial⟩
theorem ofn_X0 {nc ns : Nat} {o : Ob} (h : IvX0 nc ns o) : (Int32.ofNat ns).toInt = (ns : Int) ∧ (ns : Int) ≤ 400 := by
  have h1 := h.2.1.2.2
  exact ⟨Int32.toInt_ofNat_of_lt (by omega), h1⟩
def PLok (pl : List CR) : Prop := ∀ c ∈ pl, IvX0 c.2.2.2.1 c.2.2.2.2.1 c.2.2.2.2.2
theorem wp_zop {α : Type} {r : Option Nat} {pl : List CR} {kn : Option α} {ks : CR → Option α} {P : α → Prop} (hz : zpo pl r = true) (h0 : wp kn P) (h1 : ∀ c ∈ pl, wp (ks c) P) : wp (zop r pl kn ks) P := by
  cases r with
  | none => exact h0
  | some a =>
    have hz : (pfind pl a).isSome = true := hz
    obtain ⟨c, e⟩ := Option.isSome_iff_exists.mp hz
    obtain ⟨-, l1, l2, e2⟩ := pfind_some e
    have h := h1 c (by rw [e2]; exact List.mem_append_right _ (List.mem_cons_self ..))
    show wp ((pfind pl a).bind ks) P
    rw [e]; exact h
-- what stood ahead of a move (the class): its trades
def AHok (g : Nat → Int32) : Prop := ∀ k j : Nat, k < 16 → j < 7 → 0 ≤ (g (17 * k + j)).toInt ∧ (g (17 * k + j)).toInt ≤ 9
-- the reference: codes that can be reckoned, by heights
def CS (op arg : Nat → Int32) (h : Nat → Nat) (b k : Nat) : Prop :=
  (0 ≤ (op k).toInt ∧ (op k).toInt ≤ 9 ∧ h (k + 1) = h k + 1) ∨
  (20 ≤ (op k).toInt ∧ (op k).toInt ≤ 27 ∧ 2 ≤ h k ∧ h (k + 1) + 1 = h k) ∨
  ((op k).toInt = 28 ∧ 1 ≤ h k ∧ h (k + 1) = h k) ∨
  (29 ≤ (op k).toInt ∧ (op k).toInt ≤ 30 ∧ 1 ≤ h k ∧ h (k + 1) + 1 = h k ∧ (k : Int) < (arg k).toInt ∧ (arg k).toInt ≤ (b : Int) ∧ h (arg k).toInt.toNat = h k)
def CW (op arg : Nat → Int32) (a b : Nat) : Prop := ∃ h : Nat → Nat, h a = 0 ∧ ∀ k, a ≤ k → k < b → CS op arg h b k
def WC (q op arg : Nat → Int32) : Prop := ∃ a b d : Nat, a ≤ b ∧ b ≤ d ∧ d ≤ 400 ∧ (q 3).toInt = a ∧ (q 4).toInt = b ∧ (q 5).toInt = b ∧ (q 6).toInt = d ∧ CW op arg a b ∧ CW op arg b d
def WL (g : Nat → Int32) (s : Nat) : Prop := (0 ≤ (g (s + 1)).toInt ∧ (g (s + 1)).toInt ≤ 12) ∧ ∀ c : Nat, (c : Int) < (g (s + 1)).toInt → WC (fun i => g (s + 2 + 8 * c + i)) (fun k => g (s + 98 + 2 * k)) (fun k => g (s + 98 + 2 * k + 1))
def rowS : List (Nat × Nat × Int × Int) := [(0, 0, 0, 7), (1, 1, 0, 6), (2, 2, 0, 6), (3, 3, (-1), 5), (7, 7, 0, 999), (8, 14, 0, 9), (22, 28, 0, 1), (29, 35, (-1), 6), (71, 82, 0, 9)]
def PW (L : List (Nat × Nat × Int × Int)) (j : Nat) (v : Int32) : Prop := ∀ s ∈ L, s.1 ≤ j → j ≤ s.2.1 → s.2.2.1 ≤ v.toInt ∧ v.toInt ≤ s.2.2.2
theorem sgd_pw {L : List (Nat × Nat × Int × Int)} {g : Nat → Int32} : sgd L g ↔ ∀ j, PW L j (g j) := by
  induction L with
  | nil => exact ⟨fun _ _ s hs => absurd hs (List.not_mem_nil), fun _ => trivial⟩
  | cons s L ih =>
    obtain ⟨a, b, lo, hi⟩ := s
    constructor
    · intro h j s hs h1 h2
      rcases List.mem_cons.mp hs with e | e
      · subst e; exact h.1 j h1 h2
      · exact ih.mp h.2 j s e h1 h2
    · intro h
      exact ⟨fun j h1 h2 => h j (a, b, lo, hi) (List.mem_cons_self ..) h1 h2, ih.mpr (fun j s hs => h j s (List.mem_cons_of_mem _ hs))⟩
def EX9 (row img und unb : Nat → Int32) : Prop :=
  (∀ l : Nat, l < 6 → WL row (84 + 900 * l)) ∧ (∀ k : Nat, k < 2 → (∀ l : Nat, l < 6 → WL (fun i => img (5484 * k + i)) (84 + 900 * l)) ∧ ∀ j : Nat, j < 84 → PW rowS j (img (5484 * k + j))) ∧
  (∀ k i : Nat, k < 18 → i < 25 → PW rowS (4 + i) (und (25 * k + i))) ∧ (∀ k i : Nat, k < 16 → i < 25 → PW rowS (4 + i) (unb (25 * k + i)))
theorem WL_eq {g g' : Nat → Int32} {s : Nat} (e : ∀ j, s ≤ j → g' j = g j) (h : WL g s) : WL g' s := by
  have e1 : g' (s + 1) = g (s + 1) := e _ (by omega)
  refine ⟨by rw [e1]; exact h.1, fun c hc => ?_⟩
  rw [e1] at hc
  have h2 := h.2 c hc
  have e2 : (fun i => g' (s + 2 + 8 * c + i)) = fun i => g (s + 2 + 8 * c + i) := funext fun i => e _ (by omega)
  have e3 : (fun k => g' (s + 98 + 2 * k)) = fun k => g (s + 98 + 2 * k) := funext fun i => e _ (by omega)
  have e4 : (fun k => g' (s + 98 + 2 * k + 1)) = fun k => g (s + 98 + 2 * k + 1) := funext fun i => e _ (by omega)
  rw [e2, e3, e4]; exact h2
theorem exX9_3 {row img und unb : Nat → Int32} {j v : Int32} (h : EX9 row img und unb) (h0 : 0 ≤ j.toInt) (h1 : j.toInt ≤ 83) : EX9 (upd row j.toNatClampNeg v) img und unb := by
  refine ⟨fun l hl => WL_eq (fun i hi => ?_) (h.1 l hl), h.2⟩
  have e : j.toNatClampNeg = j.toInt.toNat := rfl
  exact if_neg (by rw [e]; omega)
