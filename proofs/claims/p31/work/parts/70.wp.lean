-- what a function comes to: it has an answer, and that is so and so
def wp {α : Type} (x : Option α) (P : α → Prop) : Prop := ∃ y, x = some y ∧ P y
theorem wp_some {α : Type} {v : α} {P : α → Prop} (h : P v) : wp (some v) P := ⟨v, rfl, h⟩
theorem wp_gd {α : Type} {b : Bool} {x : Option α} {P : α → Prop} (hb : b = true) (h : wp x P) : wp (zgd b x) P := by rw [hb]; exact h
theorem wp_lt {α β : Type} {a : α} {k : α → Option β} {P : β → Prop} (h : ∀ z, z = a → wp (k z) P) : wp (zlt a k) P := h a rfl
theorem wp_if {α : Type} {c : Prop} {i : Decidable c} {x y : Option α} {P : α → Prop} (h1 : c → wp x P) (h2 : ¬ c → wp y P) : wp (@ite _ c i x y) P := by
  by_cases hc : c
  · rw [if_pos hc]; exact h1 hc
  · rw [if_neg hc]; exact h2 hc
theorem wp_bd {α β : Type} {x : Option α} {k : α → Option β} {Q : α → Prop} {P : β → Prop} (h : wp x Q) (hk : ∀ z, Q z → wp (k z) P) : wp (x.bind k) P := by
  obtain ⟨z, e, hz⟩ := h
  rw [e]
  exact hk z hz
theorem wp_mono {α : Type} {x : Option α} {P Q : α → Prop} (h : wp x P) (hPQ : ∀ y, P y → Q y) : wp x Q := by
  obtain ⟨y, e, hy⟩ := h
  exact ⟨y, e, hPQ y hy⟩
-- numbers
theorem zin_of {i : Int32} {n : Nat} {m : Int} (hm : (n : Int) = m) (h0 : 0 ≤ i.toInt) (h1 : i.toInt < m) : zin i n = true := by
  unfold zin
  exact decide_eq_true ⟨h0, by omega⟩
theorem zbo_of {v : Int32} (h0 : 0 ≤ v.toInt) (h1 : v.toInt ≤ 1) : zbo v = true := by
  unfold zbo
  rcases (show v.toInt = 0 ∨ v.toInt = 1 by omega) with h | h
  · obtain rfl : v = 0 := Int32.toInt_inj.mp (h.trans (by decide))
    decide
  · obtain rfl : v = 1 := Int32.toInt_inj.mp (h.trans (by decide))
    decide
theorem zcp_of {sp dp n : Int32} {N0 N1 : Nat} {m0 m1 : Int} (e0 : (N0 : Int) = m0) (e1 : (N1 : Int) = m1) (h0 : 0 ≤ sp.toInt) (h1 : 0 ≤ dp.toInt) (h2 : 0 ≤ n.toInt) (h3 : sp.toInt + n.toInt ≤ m0) (h4 : dp.toInt + n.toInt ≤ m1) : zcp sp dp n N0 N1 = true := by
  unfold zcp
  exact decide_eq_true ⟨h0, h1, h2, by omega, by omega⟩
theorem i32_rg (x : Int32) : -2147483648 ≤ x.toInt ∧ x.toInt ≤ 2147483647 := by
  have h1 := Int32.le_toInt x
  have h2 := Int32.toInt_lt x
  omega
theorem i32_mul {x y : Int32} {a b : Int} (hx : x.toInt = a) (hy : y.toInt = b) (h1 : -2147483648 ≤ a * b) (h2 : a * b ≤ 2147483647) : (x * y).toInt = a * b := by
  rw [Int32.toInt_mul, hx, hy]
  exact Int.bmod_eq_of_le (by omega) (by omega)
theorem i32_neg {x : Int32} {a : Int} (hx : x.toInt = a) (h1 : -2147483647 ≤ a) (h2 : a ≤ 2147483647) : (-x).toInt = -a := by
  rw [Int32.toInt_neg, hx]
  exact Int.bmod_eq_of_le (by omega) (by omega)
theorem i32_and {x y : Int32} {m : Int} (hy : 0 ≤ y.toInt ∧ y.toInt ≤ m) : 0 ≤ (x &&& y).toInt ∧ (x &&& y).toInt ≤ m := by
  have h2 : (x &&& y).toInt = (x.toBitVec &&& y.toBitVec).toInt := rfl
  have h4 : y.toInt = y.toBitVec.toInt := rfl
  rw [h2]
  rw [h4] at hy
  have h3 : (x.toBitVec &&& y.toBitVec).toNat ≤ y.toBitVec.toNat := by
    rw [BitVec.toNat_and]
    exact Nat.and_le_right
  rw [BitVec.toInt_eq_toNat_cond] at hy ⊢
  have h5 := y.toBitVec.isLt
  split at hy
  · split <;> omega
  · omega
-- rows of numbers by stretches: (first place, last place, least, most)
def sgd : List (Nat × Nat × Int × Int) → (Nat → Int32) → Prop
  | [], _ => True
  | (a, b, lo, hi) :: L, g => (∀ j : Nat, a ≤ j → j ≤ b → lo ≤ (g j).toInt ∧ (g j).toInt ≤ hi) ∧ sgd L g
theorem sg_rd {a b : Nat} {lo hi : Int} {g : Nat → Int32} (h : ∀ j : Nat, a ≤ j → j ≤ b → lo ≤ (g j).toInt ∧ (g j).toInt ≤ hi) {i : Int32} (h0 : (a : Int) ≤ i.toInt) (h1 : i.toInt ≤ (b : Int)) : lo ≤ (g i.toNatClampNeg).toInt ∧ (g i.toNatClampNeg).toInt ≤ hi := by
  have e : i.toNatClampNeg = i.toInt.toNat := rfl
  exact h _ (by rw [e]; omega) (by rw [e]; omega)
theorem sg_up {a b : Nat} {lo hi : Int} {g : Nat → Int32} (h : ∀ j : Nat, a ≤ j → j ≤ b → lo ≤ (g j).toInt ∧ (g j).toInt ≤ hi) {i v : Int32} (hi0 : 0 ≤ i.toInt) (hv : i.toInt < (a : Int) ∨ (b : Int) < i.toInt ∨ (lo ≤ v.toInt ∧ v.toInt ≤ hi)) : ∀ j : Nat, a ≤ j → j ≤ b → lo ≤ (upd g i.toNatClampNeg v j).toInt ∧ (upd g i.toNatClampNeg v j).toInt ≤ hi := by
  intro j h1 h2
  have e : i.toNatClampNeg = i.toInt.toNat := rfl
  show lo ≤ (if j = i.toNatClampNeg then v else g j).toInt ∧ (if j = i.toNatClampNeg then v else g j).toInt ≤ hi
  rw [e]
  split
  · omega
  · exact h j h1 h2
theorem sg_cp {a b : Nat} {lo hi : Int} {f g : Nat → Int32} {sp dp n : Nat} (h : ∀ j : Nat, a ≤ j → j ≤ b → lo ≤ (g j).toInt ∧ (g j).toInt ≤ hi) (hf : ∀ j : Nat, sp ≤ j → j < sp + n → lo ≤ (f j).toInt ∧ (f j).toInt ≤ hi) : ∀ j : Nat, a ≤ j → j ≤ b → lo ≤ (va_cpy f g sp dp n j).toInt ∧ (va_cpy f g sp dp n j).toInt ≤ hi := by
  intro j h1 h2
  unfold va_cpy
  split
  · exact hf _ (by omega) (by omega)
  · exact h j h1 h2
theorem upd_ne {g : Nat → Int32} {i j v : Int32} (h0 : 0 ≤ i.toInt) (h1 : 0 ≤ j.toInt) (h : i.toInt ≠ j.toInt) : upd g i.toNatClampNeg v j.toNatClampNeg = g j.toNatClampNeg := by
  have e1 : i.toNatClampNeg = i.toInt.toNat := rfl
  have e2 : j.toNatClampNeg = j.toInt.toNat := rfl
  show (if j.toNatClampNeg = i.toNatClampNeg then v else g j.toNatClampNeg) = g j.toNatClampNeg
  rw [e1, e2]
  exact if_neg (by omega)
theorem upd_eq {g : Nat → Int32} {i v : Int32} : upd g i.toNatClampNeg v i.toNatClampNeg = v := if_pos rfl
-- what stays
def Kp (L LA : List Nat) (o o' : Ob) : Prop := (∀ i ∈ L, gI o' i = gI o i) ∧ ∀ i ∈ LA, gA o' i = gA o i
theorem Kp.rf {L LA : List Nat} {o : Ob} : Kp L LA o o := ⟨fun _ _ => rfl, fun _ _ => rfl⟩
theorem Kp.trans {L LA : List Nat} {o o' o'' : Ob} (h : Kp L LA o o') (h' : Kp L LA o' o'') : Kp L LA o o'' := ⟨fun i hi => (h'.1 i hi).trans (h.1 i hi), fun i hi => (h'.2 i hi).trans (h.2 i hi)⟩
theorem Kp.mono {L LA L' LA' : List Nat} {o o' : Ob} (h : Kp L LA o o') (h1 : ∀ i ∈ L', i ∈ L) (h2 : ∀ i ∈ LA', i ∈ LA) : Kp L' LA' o o' := ⟨fun i hi => h.1 i (h1 i hi), fun i hi => h.2 i (h2 i hi)⟩
theorem Kp.sI {L LA : List Nat} {o : Ob} {k : Nat} {v : Int32} (hk : k ∉ L) : Kp L LA o (sI o k v) := by
  refine ⟨fun i hi => ?_, fun _ _ => rfl⟩
  show cond (Nat.beq i k) v (gI o i) = gI o i
  have e : Nat.beq i k = false := by
    cases h : Nat.beq i k with
    | false => rfl
    | true => exact absurd (Nat.eq_of_beq_eq_true h ▸ hi) hk
  rw [e]; rfl
theorem Kp.sL {L LA : List Nat} {o : Ob} {k : Nat} {v : Int64} : Kp L LA o (sL o k v) := ⟨fun _ _ => rfl, fun _ _ => rfl⟩
theorem Kp.sA {L LA : List Nat} {o : Ob} {k : Nat} {g : Nat → Int32} (hk : k ∉ LA) : Kp L LA o (sA o k g) := by
  refine ⟨fun _ _ => rfl, fun i hi => ?_⟩
  show cond (Nat.beq i k) g (gA o i) = gA o i
  have e : Nat.beq i k = false := by
    cases h : Nat.beq i k with
    | false => rfl
    | true => exact absurd (Nat.eq_of_beq_eq_true h ▸ hi) hk
  rw [e]; rfl
theorem Kp.tA {L LA : List Nat} {o : Ob} {k j : Nat} {v : Int32} (hk : k ∉ LA) : Kp L LA o (tA o k j v) := Kp.sA hk
theorem Kp.tM {L LA : List Nat} {o : Ob} {k j : Nat} {v : Int64} : Kp L LA o (tM o k j v) := ⟨fun _ _ => rfl, fun _ _ => rfl⟩
theorem Kp.tR {L LA : List Nat} {o : Ob} {k j : Nat} {v : Option Nat} : Kp L LA o (tR o k j v) := ⟨fun _ _ => rfl, fun _ _ => rfl⟩
theorem Kp.cA {L LA : List Nat} {o : Ob} {k : Nat} {f : Nat → Int32} {a b c : Int32} (hk : k ∉ LA) : Kp L LA o (cA o k f a b c) := Kp.sA hk
theorem zit_s {α β : Type} {B : (α → Option β) → α → Option β} {n : Nat} {a : α} : zit B (n + 1) a = B (zit B n) a := rfl
theorem z_max {x y : Int32} {a b lo hi : Int} (hx : x.toInt = a) (hy : y.toInt = b) (h1 : lo ≤ a ∨ lo ≤ b) (h2 : a ≤ hi ∧ b ≤ hi) : lo ≤ (if x < y then y else x).toInt ∧ (if x < y then y else x).toInt ≤ hi := by
  split
  · rename_i h; have := cv_lt hx hy h; rw [hy]; omega
  · rename_i h; have := cv_nlt hx hy h; rw [hx]; omega
theorem z_min {x y : Int32} {a b lo hi : Int} (hx : x.toInt = a) (hy : y.toInt = b) (h1 : lo ≤ a ∧ lo ≤ b) (h2 : a ≤ hi ∨ b ≤ hi) : lo ≤ (if y < x then y else x).toInt ∧ (if y < x then y else x).toInt ≤ hi := by
  split
  · rename_i h; have := cv_lt hy hx h; rw [hy]; omega
  · rename_i h; have := cv_nlt hy hx h; rw [hx]; omega
theorem z_maxl {x y : Int64} {a b lo hi : Int} (hx : x.toInt = a) (hy : y.toInt = b) (h1 : lo ≤ a ∨ lo ≤ b) (h2 : a ≤ hi ∧ b ≤ hi) : lo ≤ (if y < x then x else y).toInt ∧ (if y < x then x else y).toInt ≤ hi := by
  split
  · rename_i h; have := Int64.lt_iff_toInt_lt.mp h; rw [hx]; omega
  · rename_i h; have : ¬ y.toInt < x.toInt := fun z => h (Int64.lt_iff_toInt_lt.mpr z); rw [hy]; omega
theorem z_minl {x y : Int64} {a b lo hi : Int} (hx : x.toInt = a) (hy : y.toInt = b) (h1 : lo ≤ a ∧ lo ≤ b) (h2 : a ≤ hi ∨ b ≤ hi) : lo ≤ (if y < x then y else x).toInt ∧ (if y < x then y else x).toInt ≤ hi := by
  split
  · rename_i h; have := Int64.lt_iff_toInt_lt.mp h; rw [hy]; omega
  · rename_i h; have : ¬ y.toInt < x.toInt := fun z => h (Int64.lt_iff_toInt_lt.mpr z); rw [hx]; omega
theorem i64_add {x y : Int64} {a b : Int} (hx : x.toInt = a) (hy : y.toInt = b) (h1 : -9223372036854775808 ≤ a + b) (h2 : a + b ≤ 9223372036854775807) : (x + y).toInt = a + b := by
  rw [Int64.toInt_add, hx, hy]
  exact Int.bmod_eq_of_le (by omega) (by omega)
theorem i64_sub {x y : Int64} {a b : Int} (hx : x.toInt = a) (hy : y.toInt = b) (h1 : -9223372036854775808 ≤ a - b) (h2 : a - b ≤ 9223372036854775807) : (x - y).toInt = a - b := by
  rw [Int64.toInt_sub, hx, hy]
  exact Int.bmod_eq_of_le (by omega) (by omega)
theorem i64_rg (x : Int64) : -9223372036854775808 ≤ x.toInt ∧ x.toInt ≤ 9223372036854775807 := by
  have h1 := Int64.le_toInt x
  have h2 := Int64.toInt_lt x
  omega
