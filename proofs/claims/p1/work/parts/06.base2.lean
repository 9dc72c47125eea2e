theorem i32_add {x y : Int32} {a b : Int} (hx : x.toInt = a) (hy : y.toInt = b) (h1 : -2147483648 ≤ a + b) (h2 : a + b ≤ 2147483647) : (x + y).toInt = a + b := by
  rw [Int32.toInt_add, hx, hy]
  exact Int.bmod_eq_of_le (by omega) (by omega)
theorem i32_sub {x y : Int32} {a b : Int} (hx : x.toInt = a) (hy : y.toInt = b) (h1 : -2147483648 ≤ a - b) (h2 : a - b ≤ 2147483647) : (x - y).toInt = a - b := by
  rw [Int32.toInt_sub, hx, hy]
  exact Int.bmod_eq_of_le (by omega) (by omega)
theorem vin_of {i : Int32} {n : Nat} {m : Int} (hm : (n : Int) = m) (h0 : 0 ≤ i.toInt) (h1 : i.toInt < m) : vp_in i n := by
  intro h
  rcases h with h | h
  · have := Int32.lt_iff_toInt_lt.mp h
    have e : (0 : Int32).toInt = 0 := by decide
    omega
  · have e : i.toNatClampNeg = i.toInt.toNat := rfl
    rw [e] at h
    omega
theorem clp_of {i : Int32} {r : Nat} (h : i.toInt = (r : Int)) : i.toNatClampNeg = r := by
  have e : i.toNatClampNeg = i.toInt.toNat := rfl
  rw [e]
  omega
theorem sp_nar (lo hi x : Int) : narrow .boolean (.int (sp_rg lo hi x)) = .int (sp_rg lo hi x) := by unfold sp_rg; split <;> rfl
-- ladders: the number of ways as both texts reckon it
def isum (f : Nat → Int64) (r : Nat) : Nat → Int64
  | 0 => 0
  | m + 1 => isum f r m + f (r - (m + 1))
theorem isum_congr {f g : Nat → Int64} {r : Nat} (h : ∀ j, j < r → f j = g j) : ∀ m, m ≤ r → isum f r m = isum g r m := by
  intro m
  induction m with
  | zero => intro _; rfl
  | succ m ih =>
    intro hm
    show isum f r m + f (r - (m + 1)) = isum g r m + g (r - (m + 1))
    rw [ih (by omega), h _ (by omega)]
def ladT (k : Nat) : Nat → Nat → Int64
  | 0 => fun _ => 1
  | r + 1 => fun j => if j ≤ r then ladT k r j else if r + 1 = 2 then 0 else isum (ladT k r) (r + 1) (min k (r + 1))
def lav (k r : Nat) : Int64 := ladT k r r
theorem ladT_eq (k : Nat) : ∀ r j, j ≤ r → ladT k r j = lav k j := by
  intro r
  induction r with
  | zero =>
    intro j hj
    have h : j = 0 := by omega
    subst h
    rfl
  | succ r ih =>
    intro j hj
    rcases Nat.lt_or_ge j (r + 1) with h | h
    · show (if j ≤ r then ladT k r j else if r + 1 = 2 then 0 else isum (ladT k r) (r + 1) (min k (r + 1))) = lav k j
      rw [if_pos (by omega)]
      exact ih j (by omega)
    · have h2 : j = r + 1 := by omega
      subst h2
      rfl
theorem lav_succ (k r : Nat) : lav k (r + 1) = if r + 1 = 2 then 0 else isum (lav k) (r + 1) (min k (r + 1)) := by
  show (if r + 1 ≤ r then ladT k r (r + 1) else if r + 1 = 2 then 0 else isum (ladT k r) (r + 1) (min k (r + 1))) = _
  rw [if_neg (by omega)]
  split
  · rfl
  · exact isum_congr (fun j hj => ladT_eq k r j (by omega)) _ (Nat.min_le_right _ _)
/-- the sum behind the last step -/
theorem lav_done {k r t : Nat} (h2 : r + 1 = 2 → t = 0) (h : r + 1 ≠ 2 → t = min k (r + 1)) : isum (lav k) (r + 1) t = lav k (r + 1) := by
  rw [lav_succ]
  split
  · rename_i q
    rw [h2 q]
    rfl
  · rename_i q
    rw [← h q]
theorem isum_step {k r t : Nat} {a z : Int64} (ha : a = isum (lav k) (r + 1) t) (hz : z = lav k (r - t)) : a + z = isum (lav k) (r + 1) (t + 1) := by
  have h : r + 1 - (t + 1) = r - t := by omega
  show a + z = isum (lav k) (r + 1) t + lav k (r + 1 - (t + 1))
  rw [h, ha, hz]
theorem updL_eq {f : Nat → Int64} {k : Nat} {x : Int64} : vp_updL f k x k = x := if_pos rfl
theorem updL_ne {f : Nat → Int64} {k j : Nat} {x : Int64} (h : j ≠ k) : vp_updL f k x j = f j := if_neg h
def lad (n k : Int32) : Int64 := lav k.toNatClampNeg n.toNatClampNeg
def sp_ladder (n k : Int32) : Int64 := if (1 ≤ n.toInt ∧ n.toInt ≤ 60) ∧ 1 ≤ k.toInt ∧ k.toInt ≤ 5 then lad n k else -1
-- so few trip: the parts of the whole behind m runners
def pw : Nat → Nat → Int64
  | 0 => fun j => if j = 0 then 1000000000000 else 0
  | m + 1 => fun j => pw m j * 9 / 10 + (match j with | 0 => 0 | i + 1 => pw m i * 1 / 10)
def fsum (f : Nat → Int64) : Nat → Int64
  | 0 => 0
  | j + 1 => fsum f j + f j
def few (k n : Int32) : Int64 := fsum (pw n.toNatClampNeg) k.toNatClampNeg
def sp_few (k n : Int32) : Int64 := if (1 ≤ k.toInt ∧ k.toInt ≤ 20) ∧ 0 ≤ n.toInt ∧ n.toInt ≤ 99 then few k n else -1
theorem pw_0 (m : Nat) : pw (m + 1) 0 = pw m 0 * 9 / 10 + 0 := rfl
theorem pw_s (m i : Nat) : pw (m + 1) (i + 1) = pw m (i + 1) * 9 / 10 + pw m i * 1 / 10 := rfl
