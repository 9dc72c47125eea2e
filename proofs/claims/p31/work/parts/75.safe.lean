set_option maxHeartbeats 4000000 in
set_option maxRecDepth 100000 in
theorem s_X9_placed (o_me : Ob) (p0 : Int32) (p1 : Int32) (hI_me : IvX9 o_me) (q0 : 0 ≤ (gI o_me 20).toInt ∧ (gI o_me 20).toInt ≤ 0) : wp (f_X9_placed   o_me p0 p1) (fun (y : Int32 × Ob) => ((-1) ≤ y.1.toInt ∧ y.1.toInt ≤ 7) ∧ IvX9 y.2 ∧ Kp [8, 13, 14, 15, 16, 19, 20, 21, 23, 26, 29, 59, 62] [3, 7, 10, 12, 22, 24, 25, 27, 28, 48, 50, 51, 55] [(3, (0 : Int32))] o_me y.2) := by
  have li0 : (-1 : Int32).toInt = (-1) := by decide
  have li1 : (0 : Int32).toInt = 0 := by decide
  have li2 : (0 : Int64).toInt = 0 := by decide
  have li3 : (1 : Int32).toInt = 1 := by decide
  have li4 : (7 : Int64).toInt = 7 := by decide
  unfold f_X9_placed
  refine wp_lt (fun o1 eo1 => ?_)
  have hIo1 : IvX9 o1 := by rw [eo1]; exact hI_me
  have ko1_k2 : (gI o1 20).toInt = (gI o_me 20).toInt := by rw [eo1]; rfl
  have ko1_v : (gI o1 0).toInt = 0 := by rw [eo1]; exact (show ((0 : Int32)).toInt = _ from by decide)
  have hkpo1 : Kp [8, 13, 14, 15, 16, 19, 20, 21, 23, 26, 29, 59, 62] [3, 7, 10, 12, 22, 24, 25, 27, 28, 48, 50, 51, 55] [(3, (0 : Int32))] o_me o1 := Kp.rf.trans (by rw [eo1]; exact Kp.sI (by decide))
  refine wp_bd (s_X9_isRace   p0    ) (fun z3 hz3 => ?_)
  obtain ⟨hz3_0, hz3_1⟩ := hz3
  refine wp_if (fun c4 => ?_) (fun c4 => ?_)
  · have c4 := cv_eq (a := z3.toInt) (b := 0) rfl (by decide) c4
    refine wp_some ?_
    exact (show ((-1) ≤ (-1 : Int32).toInt ∧ (-1 : Int32).toInt ≤ 7) ∧ IvX9 o1 ∧ Kp [8, 13, 14, 15, 16, 19, 20, 21, 23, 26, 29, 59, 62] [3, 7, 10, 12, 22, 24, 25, 27, 28, 48, 50, 51, 55] [(3, (0 : Int32))] o_me o1 from ⟨⟨by decide, by decide⟩, hIo1, hkpo1⟩)
  · have c4z := c4
    have c4i := hz3_1 c4
    have c4 := cv_ne (a := z3.toInt) (b := 0) rfl (by decide) c4
    have rg5 := i32_rg p1
    have t6 : p1.toInt64.toInt = p1.toInt := Int32.toInt_toInt64 _
    refine wp_bd (s_X9_in   p1.toInt64 (0 : Int64) (7 : Int64)    ) (fun z7 hz7 => ?_)
    obtain ⟨hz7_0, hz7_1⟩ := hz7
    refine wp_if (fun c8 => ?_) (fun c8 => ?_)
    · have c8 := cv_eq (a := z7.toInt) (b := 0) rfl (by decide) c8
      refine wp_some ?_
      exact (show ((-1) ≤ (-1 : Int32).toInt ∧ (-1 : Int32).toInt ≤ 7) ∧ IvX9 o1 ∧ Kp [8, 13, 14, 15, 16, 19, 20, 21, 23, 26, 29, 59, 62] [3, 7, 10, 12, 22, 24, 25, 27, 28, 48, 50, 51, 55] [(3, (0 : Int32))] o_me o1 from ⟨⟨by decide, by decide⟩, hIo1, hkpo1⟩)
    · have c8z := c8
      have c8i := hz7_1 c8
      have c8 := cv_ne (a := z7.toInt) (b := 0) rfl (by decide) c8
      refine wp_bd (s_X9_layPlaces   o1 p0  hIo1  ⟨by omega, by omega⟩ ⟨by omega, by omega⟩) (fun z9 hz9 => ?_)
      obtain ⟨hz9_0, hz9_1⟩ := hz9
      have hkpz9_me : Kp [8, 13, 14, 15, 16, 19, 20, 21, 23, 26, 29, 59, 62] [3, 7, 10, 12, 22, 24, 25, 27, 28, 48, 50, 51, 55] [(3, (0 : Int32))] o_me z9 := hkpo1.trans (hz9_1.mono (by decide) (by decide) (by decide))
      have kz9_k10 : (gI z9 20).toInt = (gI o1 20).toInt := congrArg Int32.toInt (hz9_1.1 20 (by decide))
      refine wp_if (fun c11 => ?_) (fun c11 => ?_)
      · have c11 := cv_eq (a := p1.toInt) (b := 0) rfl (by decide) c11
        have t12 := igX9_43 hz9_0
        refine wp_some ?_
        exact (show ((-1) ≤ (gI z9 43).toInt ∧ (gI z9 43).toInt ≤ 7) ∧ IvX9 z9 ∧ Kp [8, 13, 14, 15, 16, 19, 20, 21, 23, 26, 29, 59, 62] [3, 7, 10, 12, 22, 24, 25, 27, 28, 48, 50, 51, 55] [(3, (0 : Int32))] o_me z9 from ⟨⟨by omega, by omega⟩, hz9_0, hkpz9_me⟩)
      · have c11z := c11
        have c11 := cv_ne (a := p1.toInt) (b := 0) rfl (by decide) c11
        have t13 := igX9_43 hz9_0
        refine wp_if (fun c14 => ?_) (fun c14 => ?_)
        · have c14 := cv_gt (a := p1.toInt) (b := (gI z9 43).toInt) rfl rfl c14
          refine wp_some ?_
          exact (show ((-1) ≤ (-1 : Int32).toInt ∧ (-1 : Int32).toInt ≤ 7) ∧ IvX9 z9 ∧ Kp [8, 13, 14, 15, 16, 19, 20, 21, 23, 26, 29, 59, 62] [3, 7, 10, 12, 22, 24, 25, 27, 28, 48, 50, 51, 55] [(3, (0 : Int32))] o_me z9 from ⟨⟨by decide, by decide⟩, hz9_0, hkpz9_me⟩)
        · have c14 := cv_ngt (a := p1.toInt) (b := (gI z9 43).toInt) rfl rfl c14
          have t15 : (p1 - (1 : Int32)).toInt = p1.toInt - 1 := i32_sub rfl (by decide) (by omega) (by omega)
          refine wp_gd (zin_of (m := 7) rfl (by omega) (by omega)) ?_
          have t16 := iaX9_42_0 hz9_0 (j := p1 - (1 : Int32)) (by omega) (by omega)
          refine wp_some ?_
          exact (show ((-1) ≤ (gA z9 42 (p1 - (1 : Int32)).toNatClampNeg).toInt ∧ (gA z9 42 (p1 - (1 : Int32)).toNatClampNeg).toInt ≤ 7) ∧ IvX9 z9 ∧ Kp [8, 13, 14, 15, 16, 19, 20, 21, 23, 26, 29, 59, 62] [3, 7, 10, 12, 22, 24, 25, 27, 28, 48, 50, 51, 55] [(3, (0 : Int32))] o_me z9 from ⟨⟨by omega, by omega⟩, hz9_0, hkpz9_me⟩)

set_option maxHeartbeats 4000000 in
set_option maxRecDepth 100000 in
theorem s_X9_race (o_me : Ob) (p0 : Int32) (hI_me : IvX9 o_me) (q0 : 0 ≤ (gI o_me 20).toInt ∧ (gI o_me 20).toInt ≤ 0) : wp (f_X9_race   o_me p0) (fun (y : Int32 × Ob) => ((-6) ≤ y.1.toInt ∧ y.1.toInt ≤ 2147483647) ∧ IvX9 y.2 ∧ Kp [13, 14, 15, 16, 19, 20, 21, 23, 26, 29, 59, 62] [10, 12, 22, 24, 25, 27, 28, 48, 50, 51, 55] [(3, (0 : Int32))] o_me y.2) := by
  have li0 : (0 : Int32).toInt = 0 := by decide
  unfold f_X9_race
  refine wp_lt (fun o1 eo1 => ?_)
  have hIo1 : IvX9 o1 := by rw [eo1]; exact hI_me
  have ko1_k2 : (gI o1 20).toInt = (gI o_me 20).toInt := by rw [eo1]; rfl
  have ko1_v : (gI o1 0).toInt = 0 := by rw [eo1]; exact (show ((0 : Int32)).toInt = _ from by decide)
  have hkpo1 : Kp [13, 14, 15, 16, 19, 20, 21, 23, 26, 29, 59, 62] [10, 12, 22, 24, 25, 27, 28, 48, 50, 51, 55] [(3, (0 : Int32))] o_me o1 := Kp.rf.trans (by rw [eo1]; exact Kp.sI (by decide))
  refine wp_bd (s_X9_raceNow   o1 p0  hIo1  ⟨by omega, by omega⟩) (fun z3 hz3 => ?_)
  obtain ⟨hz3_0, hz3_1, hz3_2⟩ := hz3
  have hkpz3_me : Kp [13, 14, 15, 16, 19, 20, 21, 23, 26, 29, 59, 62] [10, 12, 22, 24, 25, 27, 28, 48, 50, 51, 55] [(3, (0 : Int32))] o_me z3.2 := hkpo1.trans (hz3_2.mono (by decide) (by decide) (by decide))
  have kz3_k4 : (gI z3.2 20).toInt = (gI o1 20).toInt := congrArg Int32.toInt (hz3_2.1 20 (by decide))
  have rg6 := i32_rg z3.1
  refine wp_bd (s_X9_tell   z3.2 z3.1  hz3_1  ⟨by omega, by omega⟩) (fun z5 hz5 => ?_)
  obtain ⟨hz5_0, hz5_1, hz5_2⟩ := hz5
  have hkpz5_me : Kp [13, 14, 15, 16, 19, 20, 21, 23, 26, 29, 59, 62] [10, 12, 22, 24, 25, 27, 28, 48, 50, 51, 55] [(3, (0 : Int32))] o_me z5.2 := hkpz3_me.trans (hz5_2.mono (by decide) (by decide) (by decide))
  have kz5_k7 : (gI z5.2 20).toInt = (gI z3.2 20).toInt := congrArg Int32.toInt (hz5_2.1 20 (by decide))
  refine wp_some ?_
  have rg8 := i32_rg z5.1
  exact (show ((-6) ≤ z5.1.toInt ∧ z5.1.toInt ≤ 2147483647) ∧ IvX9 z5.2 ∧ Kp [13, 14, 15, 16, 19, 20, 21, 23, 26, 29, 59, 62] [10, 12, 22, 24, 25, 27, 28, 48, 50, 51, 55] [(3, (0 : Int32))] o_me z5.2 from ⟨⟨by omega, by omega⟩, hz5_1, hkpz5_me⟩)

theorem of32 {x : Int32} (h0 : 0 ≤ x.toInt) : x = Int32.ofNat x.toInt.toNat := by
  have h1 := i32_rg x
  refine Int32.toInt_inj.mp ?_
  rw [Int32.toInt_ofNat_of_lt (by omega)]
  omega
theorem on32 {n : Nat} (h : n < 1000) : (Int32.ofNat n).toInt = (n : Int) := Int32.toInt_ofNat_of_lt (by omega)
theorem oc32 {n : Nat} (h : n < 1000) : (Int32.ofNat n).toNatClampNeg = n := tnc_eq (on32 h)
def yv (x p : Nat) : Int32 := Int32.ofNat x ||| ((1 : Int32) <<< (Int32.ofNat p &&& 31))
def bz (x p : Nat) : Bool := decide (((Int32.ofNat x >>> (Int32.ofNat p &&& 31)) &&& (1 : Int32)) = (1 : Int32))
def pcn (x : Nat) : Nat := x % 2 + x / 2 % 2 + x / 4 % 2 + x / 8 % 2 + x / 16 % 2 + x / 32 % 2 + x / 64 % 2
set_option maxRecDepth 100000 in
theorem bt1 : ∀ x, x < 128 → ∀ p, p < 7 → 0 ≤ (yv x p).toInt ∧ (yv x p).toInt < 128 ∧ (bz x p = false → x < (yv x p).toInt.toNat) ∧ pcn (yv x p).toInt.toNat ≤ pcn x + 1 := by decide +kernel
set_option maxRecDepth 100000 in
theorem bt2 : ∀ n, n < 8 → ∀ x, x < 2 ^ n - 1 → ¬ ∀ p, p < n → bz x p = true := by decide +kernel
set_option maxRecDepth 100000 in
theorem bt3 : ∀ n, n < 8 → ∀ x, x < 2 ^ n → ∀ p, p < n → (yv x p).toInt.toNat < 2 ^ n := by decide +kernel
set_option maxRecDepth 100000 in
theorem bt4 : ∀ n, n < 8 → ∀ x, x < 2 ^ n → pcn x < n → x < 2 ^ n - 1 := by decide +kernel
set_option maxRecDepth 100000 in
theorem bt5 : ∀ n, n < 8 → ((1 : Int32) <<< (Int32.ofNat n &&& 31)).toInt = ((2 ^ n : Nat) : Int) ∧ 2 ^ n ≤ 128 ∧ 1 ≤ 2 ^ n := by decide +kernel
theorem h_ones4 (v0 : Int32) : ∀ (N : Nat) (v1 v2 : Int32), 0 ≤ v1.toInt → v1.toInt ≤ v2.toInt → v2.toInt ≤ 7 → 7 < (N : Int) + v2.toInt → wp (lp_X9_ones_4 N (v0, v1, v2)) (fun y => 0 ≤ y.toInt ∧ y.toInt ≤ 7) := by
  intro N
  induction N with
  | zero => intro v1 v2 _ _ _ _; exfalso; omega
  | succ N ih =>
    intro v1 v2 h1 h12 h2 hN
    show wp (lb_X9_ones_4 (lp_X9_ones_4 N) v0 v1 v2) _
    unfold lb_X9_ones_4
    refine wp_if (fun c => wp_some ⟨h1, by omega⟩) (fun c => ?_)
    have c := cv_nle (a := 7) (b := v2.toInt) (by decide) rfl c
    have b := i32_and (x := v0 >>> (v2 &&& 31)) (y := (1 : Int32)) (m := 1) ⟨by decide, by decide⟩
    refine wp_lt (fun x1 e1 => ?_)
    refine wp_lt (fun x2 e2 => ?_)
    have t1 : x1.toInt = v1.toInt + ((v0 >>> (v2 &&& 31)) &&& (1 : Int32)).toInt := by rw [e1]; exact i32_add rfl rfl (by omega) (by omega)
    have t2 : x2.toInt = v2.toInt + 1 := by rw [e2]; exact i32_add rfl (by decide) (by omega) (by omega)
    exact ih x1 x2 (by omega) (by omega) (by omega) (by omega)
theorem h_ones (v0 : Int32) : ∃ c, f_X9_ones v0 = some c ∧ 0 ≤ c.toInt ∧ c.toInt ≤ 7 := by
  have z0 : (0 : Int32).toInt = 0 := by decide
  exact h_ones4 v0 zfu 0 0 (by omega) (by omega) (by omega) (by show (7 : Int) < ((100000 : Nat) : Int) + _; omega)
theorem lb_one (o : Ob) (a p : Nat) (h : bz a p = true) : f_X9_leftBy o (Int32.ofNat a) (Int32.ofNat p) = some 100000000 := by
  have h := of_decide_eq_true h
  unfold f_X9_leftBy f_X9_is
  rw [if_pos h]
  rfl
theorem lb_zero (o : Ob) (a p : Nat) (ha : a < 128) (hp : p < 7) (h : bz a p = false) : ∃ c : Int32, (0 ≤ c.toInt ∧ c.toInt ≤ 7) ∧ ∀ o' : Ob, gA o' 3 = gA o 3 → f_X9_leftBy o' (Int32.ofNat a) (Int32.ofNat p) = some (c + gA o' 46 (yv a p).toInt.toNat) := by
  have h := of_decide_eq_false h
  have t := on32 (n := p) (by omega)
  have b := bt1 a ha p hp
  have t2 : ((64 : Int32) + Int32.ofNat p).toInt = 64 + (p : Int) := i32_add (by decide) t (by omega) (by omega)
  obtain ⟨c, ec, hc⟩ := h_ones ((gA o 3 ((64 : Int32) + Int32.ofNat p).toNatClampNeg) &&& Int32.ofNat a)
  refine ⟨c, hc, fun o' e3 => ?_⟩
  unfold f_X9_leftBy f_X9_is
  rw [if_neg h]
  have hb : ∀ f : Int32 → Option Int32, (some (0 : Int32)).bind f = f 0 := fun _ => rfl
  rw [hb]
  rw [if_pos rfl, zin_of (n := 5484) (m := 5484) rfl (by omega) (by omega), e3, ec]
  show zgd (zin (yv a p) 128) (some (c + gA o' 46 (yv a p).toNatClampNeg)) = _
  rw [zin_of (n := 128) (m := 128) rfl b.1 b.2.1]
  rfl
-- what left says of a set of those ahead
def LG (o : Ob) (n a : Nat) : Prop := (0 ≤ (gA o 46 a).toInt ∧ (gA o 46 a).toInt ≤ 7 * (127 - (a : Int))) ∧ (a < 2 ^ n - 1 → ∃ p, p < n ∧ f_X9_leftBy o (Int32.ofNat a) (Int32.ofNat p) = some (gA o 46 a))
theorem lb_stab (o : Ob) (j a p : Nat) (v : Int32) (ha : a < 128) (hp : p < 7) (hj : j ≤ a) : f_X9_leftBy (tA o 46 j v) (Int32.ofNat a) (Int32.ofNat p) = f_X9_leftBy o (Int32.ofNat a) (Int32.ofNat p) := by
  cases h : bz a p with
  | true => rw [lb_one _ a p h, lb_one _ a p h]
  | false =>
    obtain ⟨c, -, e⟩ := lb_zero o a p ha hp h
    have b := (bt1 a ha p hp).2.2.1 h
    rw [e o rfl, e (tA o 46 j v) rfl, upd_at, if_neg (by omega)]
theorem LG.up {o : Ob} {n a j : Nat} {v : Int32} (hn : n < 8) (ha : a < 128) (hj : j < a) (h : LG o n a) : LG (tA o 46 j v) n a := by
  have e : gA (tA o 46 j v) 46 a = gA o 46 a := by rw [upd_at, if_neg (by omega)]
  refine ⟨by rw [e]; exact h.1, fun h1 => ?_⟩
  obtain ⟨p, hp, ep⟩ := h.2 h1
  exact ⟨p, hp, by rw [lb_stab o j a p v ha (by omega) (by omega), e]; exact ep⟩
-- one set: the least of all
theorem h_lay37 (o0 : Ob) (n : Nat) (hn : n < 8) (en : (gA o0 3 (0 : Int32).toNatClampNeg).toInt = (n : Int)) (P : Ob → Prop) (rec22 : Int32 × Ob → Option Ob) (a : Nat) (ha : a < 2 ^ n - 1)
    (hrec : ∀ (x : Int32) (o : Ob), IvX9 o → Kp [8, 13, 14, 15, 16, 19, 20, 21, 23, 26, 29, 34, 38, 43, 59, 62] [3, 7, 10, 12, 22, 24, 25, 27, 28, 42, 48, 50, 51, 55] [(3, (0 : Int32))] o0 o → x.toInt = (a : Int) - 1 → (∀ b, a ≤ b → b < 2 ^ n → LG o n b) → wp (rec22 (x, o)) P) :
    ∀ (N : Nat) (v3 : Int32) (o : Ob) (q : Nat), IvX9 o → Kp [8, 13, 14, 15, 16, 19, 20, 21, 23, 26, 29, 34, 38, 43, 59, 62] [3, 7, 10, 12, 22, 24, 25, 27, 28, 42, 48, 50, 51, 55] [(3, (0 : Int32))] o0 o → v3.toInt = (q : Int) → q ≤ n → (∀ b, a < b → b < 2 ^ n → LG o n b) →
      ((gA o 46 a).toInt = 100000000 ∧ (∀ p, p < q → bz a p = true) ∨ (0 ≤ (gA o 46 a).toInt ∧ (gA o 46 a).toInt ≤ 7 * (127 - (a : Int)) ∧ ∃ p, p < q ∧ f_X9_leftBy o (Int32.ofNat a) (Int32.ofNat p) = some (gA o 46 a))) → n < N + q → wp (lp_X9_layLeft_37 rec22 N (Int32.ofNat a, v3, o)) P := by
  have b128 := (bt5 n hn).2.1
  have ta := on32 (n := a) (by omega)
  have ca := oc32 (n := a) (by omega)
  intro N
  induction N with
  | zero => intro v3 o q _ _ _ _ _ _ _; exfalso; omega
  | succ N ih =>
    intro v3 o q hI hK e3 hq hG hM hN
    show wp (lb_X9_layLeft_37 rec22 (lp_X9_layLeft_37 rec22 N) (Int32.ofNat a) v3 o) P
    unfold lb_X9_layLeft_37
    have k3 : gA o 3 = gA o0 3 := hK.2.1 3 (by decide)
    rw [k3]
    refine wp_if (fun c => ?_) (fun c => ?_)
    · have c := cv_le (a := (n : Int)) (b := (q : Int)) en e3 c
      refine wp_lt (fun x7 e7 => ?_)
      have t7 : x7.toInt = (a : Int) + (-1) := by rw [e7]; exact i32_add ta (by decide) (by omega) (by omega)
      refine hrec x7 o hI hK (by omega) (fun b h1 h2 => ?_)
      by_cases hb : b = a
      · subst hb
        rcases hM with ⟨-, h⟩ | ⟨m1, m2, p, hp, ep⟩
        · exact absurd (fun p hp => h p (by omega)) (bt2 n hn b ha)
        · exact ⟨⟨m1, m2⟩, fun _ => ⟨p, by omega, ep⟩⟩
      · exact hG b (by omega) h2
    have c := cv_nle (a := (n : Int)) (b := (q : Int)) en e3 c
    have ev : v3 = Int32.ofNat q := by
      have := of32 (x := v3) (by omega)
      rw [this, e3]; rfl
    have h82 : ∀ s0 : Int32, ((s0.toInt = 100000000 ∧ (∀ p, p < q + 1 → bz a p = true)) ∨ (0 ≤ s0.toInt ∧ s0.toInt ≤ 7 * (127 - (a : Int)) ∧ ∃ p, p < q + 1 ∧ f_X9_leftBy o (Int32.ofNat a) (Int32.ofNat p) = some s0)) → wp (bk_X9_layLeft_82 rec22 (lp_X9_layLeft_37 rec22 N) (Int32.ofNat a) v3 s0 (Int32.ofNat a) o) P := by
      intro s0 hs
      unfold bk_X9_layLeft_82
      refine wp_gd (zin_of (m := 128) rfl (by omega) (by omega)) ?_
      rw [ca]
      refine wp_lt (fun o12 e12 => ?_)
      refine wp_lt (fun x13 e13 => ?_)
      have t13 : x13.toInt = (q : Int) + 1 := by rw [e13]; exact i32_add e3 (by decide) (by omega) (by omega)
      have e46 : gA o12 46 a = s0 := by rw [e12, upd_at, if_pos rfl]
      refine ih x13 o12 (q + 1) (by rw [e12]; exact hI) (hK.trans (by rw [e12]; exact Kp.tA (by decide) (by decide))) (by omega) (by omega) (fun b h1 h2 => by rw [e12]; exact (hG b h1 h2).up hn (by omega) h1) ?_ (by omega)
      rw [e46]
      rcases hs with h | ⟨m1, m2, p, hp, ep⟩
      · exact Or.inl h
      · refine Or.inr ⟨m1, m2, p, hp, ?_⟩
        rw [e12, lb_stab o a a p s0 (by omega) (by omega) (Nat.le_refl _)]; exact ep
    rw [ev]
    rw [← ev]
    cases hb : bz a q with
    | true =>
      refine wp_bd (Q := fun z => z = 100000000) ⟨_, by rw [ev]; exact lb_one o a q hb, rfl⟩ (fun z8 hz8 => ?_)
      refine wp_gd (zin_of (m := 128) rfl (by omega) (by omega)) ?_
      have tz : z8.toInt = 100000000 := by rw [hz8]; decide
      rw [ca]
      refine wp_if (fun c2 => ?_) (fun c2 => ?_)
      · refine wp_gd (zin_of (m := 128) rfl (by omega) (by omega)) ?_
        refine h82 _ ?_
        rcases hM with ⟨m1, m2⟩ | ⟨m1, m2, p, hp, ep⟩
        · refine Or.inl ⟨m1, fun p hp => ?_⟩
          rcases (show p < q ∨ p = q by omega) with h | h
          · exact m2 p h
          · rw [h]; exact hb
        · exact Or.inr ⟨m1, m2, p, by omega, ep⟩
      · exfalso
        have c2 := cv_nle (a := (gA o 46 a).toInt) (b := z8.toInt) rfl rfl c2
        rcases hM with ⟨m1, m2⟩ | ⟨m1, m2, -⟩ <;> omega
    | false =>
      obtain ⟨cc, hcc, ecc⟩ := lb_zero o a q (by omega) (by omega) hb
      have b1 := bt1 a (by omega) q (by omega)
      have b3 := bt3 n hn a (by omega) q (by omega)
      have b4 := b1.2.2.1 hb
      have hy := (hG (yv a q).toInt.toNat b4 b3).1
      have tc : (cc + gA o 46 (yv a q).toInt.toNat).toInt = cc.toInt + (gA o 46 (yv a q).toInt.toNat).toInt := i32_add rfl rfl (by omega) (by omega)
      refine wp_bd (Q := fun z => z = cc + gA o 46 (yv a q).toInt.toNat) ⟨_, by rw [ev]; exact ecc o rfl, rfl⟩ (fun z8 hz8 => ?_)
      refine wp_gd (zin_of (m := 128) rfl (by omega) (by omega)) ?_
      have tz : z8.toInt = cc.toInt + (gA o 46 (yv a q).toInt.toNat).toInt := by rw [hz8]; exact tc
      rw [ca]
      refine wp_if (fun c2 => ?_) (fun c2 => ?_)
      · have c2 := cv_le (a := (gA o 46 a).toInt) (b := z8.toInt) rfl rfl c2
        refine wp_gd (zin_of (m := 128) rfl (by omega) (by omega)) ?_
        refine h82 _ ?_
        rcases hM with ⟨m1, m2⟩ | ⟨m1, m2, p, hp, ep⟩
        · exfalso; omega
        · exact Or.inr ⟨m1, m2, p, by omega, ep⟩
      · refine h82 z8 (Or.inr ⟨by omega, by omega, q, by omega, ?_⟩)
        rw [hz8]; exact ecc o rfl
theorem h_lay22 (o0 : Ob) (n : Nat) (hn : n < 8) (en : (gA o0 3 (0 : Int32).toNatClampNeg).toInt = (n : Int)) :
    ∀ (N : Nat) (v2 : Int32) (o : Ob) (a : Nat), IvX9 o → Kp [8, 13, 14, 15, 16, 19, 20, 21, 23, 26, 29, 34, 38, 43, 59, 62] [3, 7, 10, 12, 22, 24, 25, 27, 28, 42, 48, 50, 51, 55] [(3, (0 : Int32))] o0 o → v2.toInt = (a : Int) - 1 → a ≤ 2 ^ n - 1 → (∀ b, a ≤ b → b < 2 ^ n → LG o n b) → a < N → wp (lp_X9_layLeft_22 N (v2, o)) (fun y => (IvX9 y ∧ Kp [8, 13, 14, 15, 16, 19, 20, 21, 23, 26, 29, 34, 38, 43, 59, 62] [3, 7, 10, 12, 22, 24, 25, 27, 28, 42, 48, 50, 51, 55] [(3, (0 : Int32))] o0 y) ∧ ∀ b, b < 2 ^ n → LG y n b) := by
  have b128 := (bt5 n hn).2.1
  intro N
  induction N with
  | zero => intro v2 o a _ _ _ _ _ h; exact absurd h (Nat.not_lt_zero _)
  | succ N ih =>
    intro v2 o a hI hK e2 ha hG hN
    show wp (lb_X9_layLeft_22 (lp_X9_layLeft_22 N) v2 o) _
    unfold lb_X9_layLeft_22
    refine wp_if (fun c => ?_) (fun c => ?_)
    · have c := cv_lt (a := v2.toInt) (b := 0) rfl (by decide) c
      exact wp_some ⟨⟨hI, hK⟩, fun b hb => hG b (by omega) hb⟩
    have c := cv_nlt (a := v2.toInt) (b := 0) rfl (by decide) c
    obtain ⟨k, rfl⟩ : ∃ k, a = k + 1 := ⟨a - 1, by omega⟩
    have ev : v2 = Int32.ofNat k := by
      have h := of32 (x := v2) c
      rw [h]
      have : v2.toInt.toNat = k := by omega
      rw [this]
    subst ev
    have tk := on32 (n := k) (by omega)
    have ck := oc32 (n := k) (by omega)
    refine wp_gd (zin_of (m := 128) rfl (by omega) (by omega)) ?_
    rw [ck]
    refine wp_lt (fun o6 e6 => ?_)
    have z0 : (0 : Int32).toInt = ((0 : Nat) : Int) := by decide
    refine h_lay37 o0 n hn en _ (lp_X9_layLeft_22 N) k (by omega) (fun x o' g1 g2 g3 g4 => ih x o' k g1 g2 g3 (by omega) g4 (by omega)) zfu 0 o6 0 (by rw [e6]; exact hI) (hK.trans (by rw [e6]; exact Kp.tA (by decide) (by decide))) z0 (by omega) (fun b h1 h2 => by rw [e6]; exact (hG b (by omega) h2).up hn (by omega) (by omega)) (Or.inl ⟨?_, fun p hp => absurd hp (Nat.not_lt_zero _)⟩) (by show n < 100000 + 0; omega)
    rw [e6, upd_at, if_pos rfl]; decide
theorem h_layLeft (o : Ob) (hI : IvX9 o) (n : Nat) (en : (gA o 3 (0 : Int32).toNatClampNeg).toInt = (n : Int)) : wp (f_X9_layLeft o) (fun y => (IvX9 y ∧ Kp [8, 13, 14, 15, 16, 19, 20, 21, 23, 26, 29, 34, 38, 43, 59, 62] [3, 7, 10, 12, 22, 24, 25, 27, 28, 42, 48, 50, 51, 55] [(3, (0 : Int32))] o y) ∧ ∀ b, b < 2 ^ n → LG y n b) := by
  have r0 := iaX9_3_0 hI (j := 0) (by decide) (by decide)
  have hn : n < 8 := by omega
  have b5 := bt5 n hn
  have ev : gA o 3 (0 : Int32).toNatClampNeg = Int32.ofNat n := by
    have h := of32 (x := gA o 3 (0 : Int32).toNatClampNeg) (by omega)
    rw [h, en]; rfl
  unfold f_X9_layLeft
  rw [ev]
  refine wp_lt (fun x1 e1 => ?_)
  have t1 : x1.toInt = ((2 ^ n : Nat) : Int) - 1 := by rw [e1]; exact i32_sub b5.1 (by decide) (by omega) (by omega)
  have n1 : x1.toNatClampNeg = 2 ^ n - 1 := tnc_eq (by omega)
  refine wp_gd (zin_of (m := 128) rfl (by omega) (by omega)) ?_
  rw [n1]
  refine wp_lt (fun o3 e3 => ?_)
  refine wp_lt (fun x4 e4 => ?_)
  have t4 : x4.toInt = ((2 ^ n - 1 : Nat) : Int) - 1 := by
    have t : x4.toInt = ((2 ^ n : Nat) : Int) - 1 - 1 := by rw [e4]; exact i32_sub t1 (by decide) (by omega) (by omega)
    omega
  refine h_lay22 o n hn en zfu x4 o3 (2 ^ n - 1) (by rw [e3]; exact hI) (by rw [e3]; exact Kp.tA (by decide) (by decide)) t4 (Nat.le_refl _) (fun b h1 h2 => ?_) (by show _ < 100000; omega)
  have eb : b = 2 ^ n - 1 := by omega
  have e0 : (gA o3 46 b).toInt = 0 := by rw [e3, upd_at, if_pos eb]; decide
  exact ⟨⟨by omega, by omega⟩, fun h => by omega⟩
theorem h_rank47 (P : Int32 × Ob → Prop) (n : Nat) (hn : n < 8) (rec39 : Int32 × Int32 × Int32 × Int32 × Ob → Option (Int32 × Ob)) (v1 v4 : Int32) (a : Nat) (ha : a < 2 ^ n - 1) (o : Ob) (hI : IvX9 o) (p : Nat) (hp : p < n) (ep : f_X9_leftBy o (Int32.ofNat a) (Int32.ofNat p) = some (gA o 46 a))
    (hrec : ∀ (q : Nat) (x8 : Int32), q < n → x8 = v4 + 1 → wp (rec39 (v1, yv a q, Int32.ofNat q, x8, o)) P) :
    ∀ (N : Nat) (q : Nat), q ≤ p → p < N + q → wp (lp_X9_ranking_47 rec39 N (v1, Int32.ofNat a, Int32.ofNat q, v4, o)) P := by
  have b128 := (bt5 n hn).2.1
  have ta := on32 (n := a) (by omega)
  have ca := oc32 (n := a) (by omega)
  intro N
  induction N with
  | zero => intro q _ _; exfalso; omega
  | succ N ih =>
    intro q hq hN
    show wp (lb_X9_ranking_47 rec39 (lp_X9_ranking_47 rec39 N) v1 (Int32.ofNat a) (Int32.ofNat q) v4 o) P
    unfold lb_X9_ranking_47
    have tq := on32 (n := q) (by omega)
    obtain ⟨z, ez, -⟩ := s_X9_leftBy o (Int32.ofNat a) (Int32.ofNat q) hI ⟨by omega, by omega⟩ ⟨by omega, by omega⟩
    refine wp_bd (Q := fun w => w = z) ⟨z, ez, rfl⟩ (fun z5 hz5 => ?_)
    refine wp_gd (zin_of (m := 128) rfl (by omega) (by omega)) ?_
    rw [ca]
    refine wp_if (fun c => ?_) (fun c => ?_)
    · refine wp_lt (fun x7 e7 => ?_)
      refine wp_lt (fun x8 e8 => ?_)
      rw [e7]
      exact hrec q x8 (by omega) e8
    · have hne : q ≠ p := by
        intro e
        subst e
        rw [ep] at ez
        exact c (hz5.trans (Option.some.inj ez).symm)
      refine wp_lt (fun x9 e9 => ?_)
      have t9 : x9.toInt = (q : Int) + 1 := by rw [e9]; exact i32_add tq (by decide) (by omega) (by omega)
      have e : x9 = Int32.ofNat (q + 1) := by
        have h := of32 (x := x9) (by omega)
        rw [h]
        have : x9.toInt.toNat = q + 1 := by omega
        rw [this]
      rw [e]
      exact ih (q + 1) (by omega) (by omega)
theorem h_rank39 (o : Ob) (hI : IvX9 o) (n : Nat) (hn : n < 8) (hG : ∀ b, b < 2 ^ n → LG o n b) (v1 : Int32) (w : Nat) (e1 : v1.toInt = (w : Int)) (hw : w ≤ n) :
    ∀ (N : Nat) (a k : Nat) (v3 v4 : Int32), a < 2 ^ n → pcn a ≤ k → v4.toInt = (k : Int) → k ≤ w → w < N + k → wp (lp_X9_ranking_39 N (v1, Int32.ofNat a, v3, v4, o)) (fun y => y.2 = o) := by
  intro N
  induction N with
  | zero => intro a k v3 v4 _ _ _ _ _; exfalso; omega
  | succ N ih =>
    intro a k v3 v4 ha hp e4 hk hN
    show wp (lb_X9_ranking_39 (lp_X9_ranking_39 N) v1 (Int32.ofNat a) v3 v4 o) _
    unfold lb_X9_ranking_39
    refine wp_if (fun c => wp_some rfl) (fun c => ?_)
    have c := cv_nle (a := (w : Int)) (b := (k : Int)) e1 e4 c
    have ha2 := bt4 n hn a ha (by omega)
    have b128 := (bt5 n hn).2.1
    obtain ⟨p, hp2, ep⟩ := (hG a ha).2 ha2
    refine h_rank47 _ n hn (lp_X9_ranking_39 N) v1 v4 a ha2 o hI p hp2 ep (fun q x8 hq e8 => ?_) zfu 0 (Nat.zero_le _) (by show p < 100000 + 0; omega)
    have t8 : x8.toInt = (k : Int) + 1 := by rw [e8]; exact i32_add e4 (by decide) (by omega) (by omega)
    have b1 := bt1 a (by omega) q (by omega)
    have b3 := bt3 n hn a ha q hq
    have ey := of32 (x := yv a q) b1.1
    rw [ey]
    exact ih (yv a q).toInt.toNat (k + 1) _ x8 b3 (by have := b1.2.2.2; omega) (by omega) (by omega) (by omega)
set_option maxHeartbeats 4000000 in
set_option maxRecDepth 100000 in
theorem s_X9_ranking (o_me : Ob) (p0 : Int32) (hI_me : IvX9 o_me)  : wp (f_X9_ranking   o_me p0) (fun (y : Int32 × Ob) => IvX9 y.2 ∧ Kp [8, 13, 14, 15, 16, 19, 20, 21, 23, 26, 29, 34, 38, 43, 59, 62] [3, 7, 10, 12, 22, 24, 25, 27, 28, 42, 48, 50, 51, 55] [(3, (0 : Int32))] o_me y.2) := by
  unfold f_X9_ranking
  refine wp_lt (fun o1 e1 => ?_)
  have hI1 : IvX9 o1 := by rw [e1]; exact hI_me
  have hK1 : Kp [8, 13, 14, 15, 16, 19, 20, 21, 23, 26, 29, 34, 38, 43, 59, 62] [3, 7, 10, 12, 22, 24, 25, 27, 28, 42, 48, 50, 51, 55] [(3, (0 : Int32))] o_me o1 := by rw [e1]; exact Kp.sI (by decide)
  have r0 := iaX9_3_0 hI1 (j := 0) (by decide) (by decide)
  refine wp_bd (s_X9_in _ _ _) (fun z2 hz2 => ?_)
  refine wp_if (fun c => wp_some ⟨hI1, hK1⟩) (fun c => ?_)
  have r := hz2.2 c
  have l0 : (0 : Int64).toInt = 0 := by decide
  have ep := Int32.toInt_toInt64 p0
  have er := Int32.toInt_toInt64 (gA o1 3 (0 : Int32).toNatClampNeg)
  obtain ⟨n, en⟩ : ∃ n : Nat, (gA o1 3 (0 : Int32).toNatClampNeg).toInt = (n : Int) := ⟨(gA o1 3 (0 : Int32).toNatClampNeg).toInt.toNat, by omega⟩
  refine wp_bd (h_layLeft o1 hI1 n en) (fun z3 hz3 => ?_)
  refine wp_lt (fun x4 _ => ?_)
  have b5 := bt5 n (by omega)
  refine wp_mono (h_rank39 z3 hz3.1.1 n (by omega) hz3.2 p0 p0.toInt.toNat (by omega) (by omega) zfu 0 0 x4 0 (by omega) (by decide) (by decide) (Nat.zero_le _) (by show _ < 100000 + 0; omega)) (fun y hy => ?_)
  rw [hy]
  exact ⟨hz3.1.1, hK1.trans (hz3.1.2.mono (by decide) (by decide) (by decide))⟩

theorem h_isTold (o : Ob) (z : Int32) : ∀ (N : Nat) (v1 v2 v3 y : Int32), (z = 0 → v2 = 0) → lp_X9_isTold_13 o N (v1, v2, v3) = some y → z = 0 → y = 0 := by
  intro N
  induction N with
  | zero => intro v1 v2 v3 y _ h; exact absurd h (by intro h; cases h)
  | succ N ih =>
    intro v1 v2 v3 y hz h e
    have h : lb_X9_isTold_13 o (lp_X9_isTold_13 o N) v1 v2 v3 = some y := h
    unfold lb_X9_isTold_13 at h
    have hv := hz e
    split at h
    · obtain ⟨-, h⟩ := z_gd h
      rw [← Option.some.inj h]; exact hv
    · unfold bk_X9_isTold_47 bk_X9_isTold_48 at h
      exact ih v1 0 (v3 + 1) y (fun _ => rfl) h e
theorem h_told2 (o : Ob) (hI : IvX9 o) (p0 : Int32) (h0 : 0 ≤ p0.toInt) (h1 : p0.toInt ≤ 395) : wp (f_X9_isTold o p0) (fun y => ¬ y = 0 → 0 ≤ (gA o 12 p0.toNatClampNeg).toInt ∧ (gA o 12 p0.toNatClampNeg).toInt ≤ 6) := by
  obtain ⟨y, ey, -⟩ := s_X9_isTold o p0 hI ⟨h0, h1⟩
  refine ⟨y, ey, fun hy => ?_⟩
  unfold f_X9_isTold at ey
  obtain ⟨-, ey⟩ := z_gd ey
  obtain ⟨z, ez, ey⟩ := z_bd ey
  obtain ⟨z', ez', hz'⟩ := s_X9_isPerson o (gA o 12 p0.toNatClampNeg) hI
  have ezz : z = z' := Option.some.inj (ez.symm.trans ez')
  subst ezz
  refine hz'.2 (fun e => hy ?_)
  exact h_isTold o z zfu p0 z 0 y (fun e => e) ey e
theorem h_row58 (o0 : Ob) (P : Int32 × Ob → Prop) (rec35 : Int32 × Int32 × Int32 × Ob → Option (Int32 × Ob)) (v1 v2 v3 : Int32) (g3 : 0 ≤ v3.toInt) (g3b : v3.toInt ≤ 395) (t : Int32) (t0 : 0 ≤ t.toInt) (t6 : t.toInt ≤ 6)
    (hrec : ∀ (w2 : Int32) (o' : Ob), IvX9 o' → Kp [8, 14, 15, 16, 19, 20, 21, 23, 26, 29, 34, 38, 43, 59, 62] [7, 10, 12, 22, 24, 25, 27, 28, 42, 48, 50, 51, 55] [(3, (0 : Int32))] o0 o' → w2 = v2 + 1 → wp (bk_X9_row_116 rec35 v1 w2 v3 o') P) :
    ∀ (N : Nat) (v4 : Int32) (o : Ob), IvX9 o → Kp [8, 14, 15, 16, 19, 20, 21, 23, 26, 29, 34, 38, 43, 59, 62] [7, 10, 12, 22, 24, 25, 27, 28, 42, 48, 50, 51, 55] [(3, (0 : Int32))] o0 o → gA o 12 v3.toNatClampNeg = t → 0 ≤ v4.toInt → v4.toInt ≤ 4 → 4 < (N : Int) + v4.toInt → wp (lp_X9_row_58 rec35 N (v1, v2, v3, v4, o)) P := by
  intro N
  induction N with
  | zero => intro v4 o _ _ _ _ _ _; exfalso; omega
  | succ N ih =>
    intro v4 o hI hK ht h4 h4b hN
    show wp (lb_X9_row_58 rec35 (lp_X9_row_58 rec35 N) v1 v2 v3 v4 o) P
    unfold lb_X9_row_58
    refine wp_if (fun c => ?_) (fun c => ?_)
    · exact wp_lt (fun x9 e9 => hrec x9 o hI hK e9)
    · have c := cv_nle (a := 4) (b := v4.toInt) (by decide) rfl c
      rw [ht]
      have a1 : (v3 + (1 : Int32)).toInt = v3.toInt + 1 := i32_add rfl (by decide) (by omega) (by omega)
      have a2 : ((v3 + (1 : Int32)) + v4).toInt = v3.toInt + 1 + v4.toInt := i32_add a1 rfl (by omega) (by omega)
      have a3 : ((4 : Int32) * t).toInt = 4 * t.toInt := i32_mul (by decide) rfl (by omega) (by omega)
      have a4 : ((36 : Int32) + ((4 : Int32) * t)).toInt = 36 + 4 * t.toInt := i32_add (by decide) a3 (by omega) (by omega)
      have a5 : (((36 : Int32) + ((4 : Int32) * t)) + v4).toInt = 36 + 4 * t.toInt + v4.toInt := i32_add a4 rfl (by omega) (by omega)
      refine wp_gd (zin_of (m := 400) rfl (by omega) (by omega)) ?_
      refine wp_gd (zin_of (m := 400) rfl (by omega) (by omega)) ?_
      refine wp_gd (zin_of (m := 5484) rfl (by omega) (by omega)) ?_
      refine wp_lt (fun o13 e13 => ?_)
      refine wp_lt (fun x14 e14 => ?_)
      have t14 : x14.toInt = v4.toInt + 1 := by rw [e14]; exact i32_add rfl (by decide) (by omega) (by omega)
      refine ih x14 o13 ?_ (hK.trans (by rw [e13]; exact kp_tA0 (by decide) (by omega))) (by rw [e13]; exact ht) (by omega) (by omega) (by omega)
      rw [e13]
      refine spX9_row (n := (36 + 4 * t.toInt + v4.toInt).toNat) hI (by omega) (by omega) (fun s hs g1 g2 => ?_)
      exfalso
      have hh : ∀ s ∈ rowS, s.2.1 < 36 ∨ 64 ≤ s.1 := by decide
      rcases hh s hs with h | h <;> omega
set_option maxHeartbeats 4000000 in
set_option maxRecDepth 100000 in
theorem s_X9_row (o_me : Ob) (hI_me : IvX9 o_me)  : wp (f_X9_row   o_me) (fun (y : Int32 × Ob) => IvX9 y.2 ∧ Kp [8, 14, 15, 16, 19, 20, 21, 23, 26, 29, 34, 38, 43, 59, 62] [7, 10, 12, 22, 24, 25, 27, 28, 42, 48, 50, 51, 55] [(3, (0 : Int32))] o_me y.2) := by
  unfold f_X9_row
  refine wp_lt (fun o1 e1 => ?_)
  refine wp_lt (fun x2 e2 => ?_)
  refine wp_lt (fun o3 e3 => ?_)
  have b13 := igX9_13 hI_me
  have t2 : x2.toInt = (gI o_me 13).toInt := by rw [e2, e1]; rfl
  have hI3 : IvX9 o3 := by rw [e3, e1]; exact ipX9_13 hI_me ⟨by decide, by decide⟩
  have hK3 : Kp [8, 14, 15, 16, 19, 20, 21, 23, 26, 29, 34, 38, 43, 59, 62] [7, 10, 12, 22, 24, 25, 27, 28, 42, 48, 50, 51, 55] [(3, (0 : Int32))] o_me o3 := by rw [e3, e1]; exact Kp.trans (o' := sI o_me 0 0) (Kp.sI (by decide)) (Kp.sI (by decide))
  refine wp_if (fun c => ?_) (fun c => ?_)
  · refine wp_bd (s_X9_tell o3 (-6) hI3 ⟨by decide, by decide⟩) (fun z hz => ?_)
    exact wp_some ⟨hz.2.1, hK3.trans (hz.2.2.mono (by decide) (by decide) (by decide))⟩
  refine wp_lt (fun o4 e4 => ?_)
  have hI4 : IvX9 o4 := by rw [e4]; exact hI3
  have hK4 : Kp [8, 14, 15, 16, 19, 20, 21, 23, 26, 29, 34, 38, 43, 59, 62] [7, 10, 12, 22, 24, 25, 27, 28, 42, 48, 50, 51, 55] [(3, (0 : Int32))] o_me o4 := hK3.trans (by rw [e4]; exact Kp.sI (by decide))
  have loop : ∀ (N : Nat) (v2 v3 : Int32) (o : Ob), IvX9 o → Kp [8, 14, 15, 16, 19, 20, 21, 23, 26, 29, 34, 38, 43, 59, 62] [7, 10, 12, 22, 24, 25, 27, 28, 42, 48, 50, 51, 55] [(3, (0 : Int32))] o_me o → 0 ≤ v2.toInt → v2.toInt ≤ v3.toInt → 0 ≤ v3.toInt → v3.toInt ≤ 405 → 405 < (N : Int) + v3.toInt → wp (lp_X9_row_35 N (x2, v2, v3, o)) (fun (y : Int32 × Ob) => IvX9 y.2 ∧ Kp [8, 14, 15, 16, 19, 20, 21, 23, 26, 29, 34, 38, 43, 59, 62] [7, 10, 12, 22, 24, 25, 27, 28, 42, 48, 50, 51, 55] [(3, (0 : Int32))] o_me y.2) := by
    intro N
    induction N with
    | zero => intro v2 v3 o _ _ _ _ _ _ _; exfalso; omega
    | succ N ih =>
      intro v2 v3 o hI hK h2 h23 h3 h3b hN
      show wp (lb_X9_row_35 (lp_X9_row_35 N) x2 v2 v3 o) _
      unfold lb_X9_row_35
      refine wp_if (fun c => ?_) (fun c => ?_)
      · refine wp_bd (s_X9_tell o v2 hI ⟨by omega, by omega⟩) (fun z hz => ?_)
        exact wp_some ⟨hz.2.1, hK.trans (hz.2.2.mono (by decide) (by decide) (by decide))⟩
      have c := cv_nle (a := x2.toInt) (b := v3.toInt) rfl rfl c
      have h116 : ∀ (w2 : Int32) (o' : Ob), IvX9 o' → Kp [8, 14, 15, 16, 19, 20, 21, 23, 26, 29, 34, 38, 43, 59, 62] [7, 10, 12, 22, 24, 25, 27, 28, 42, 48, 50, 51, 55] [(3, (0 : Int32))] o_me o' → 0 ≤ w2.toInt → w2.toInt ≤ v3.toInt + 1 → wp (bk_X9_row_116 (lp_X9_row_35 N) x2 w2 v3 o') (fun (y : Int32 × Ob) => IvX9 y.2 ∧ Kp [8, 14, 15, 16, 19, 20, 21, 23, 26, 29, 34, 38, 43, 59, 62] [7, 10, 12, 22, 24, 25, 27, 28, 42, 48, 50, 51, 55] [(3, (0 : Int32))] o_me y.2) := by
        intro w2 o' hI' hK' g1 g2
        unfold bk_X9_row_116
        refine wp_lt (fun x7 e7 => ?_)
        have t7 : x7.toInt = v3.toInt + 5 := by rw [e7]; exact i32_add rfl (by decide) (by omega) (by omega)
        exact ih w2 x7 o' hI' hK' g1 (by omega) (by omega) (by omega) (by omega)
      have h106 : wp (bk_X9_row_106 (lp_X9_row_35 N) x2 v2 v3 o) (fun (y : Int32 × Ob) => IvX9 y.2 ∧ Kp [8, 14, 15, 16, 19, 20, 21, 23, 26, 29, 34, 38, 43, 59, 62] [7, 10, 12, 22, 24, 25, 27, 28, 42, 48, 50, 51, 55] [(3, (0 : Int32))] o_me y.2) := by
        unfold bk_X9_row_106
        refine wp_lt (fun o6 e6 => ?_)
        exact h116 v2 o6 (by rw [e6]; exact hI) (hK.trans (by rw [e6]; exact Kp.sI (by decide))) h2 (by omega)
      refine wp_if (fun c => h106) (fun c2 => ?_)
      have a4 : (v3 + (4 : Int32)).toInt = v3.toInt + 4 := i32_add rfl (by decide) (by omega) (by omega)
      have c2 := cv_nle (a := x2.toInt) (b := v3.toInt + 4) rfl a4 c2
      refine wp_bd (h_told2 o hI v3 (by omega) (by omega)) (fun z8 hz8 => ?_)
      refine wp_if (fun c => h106) (fun c3 => ?_)
      have r := hz8 c3
      refine h_row58 o_me _ (lp_X9_row_35 N) x2 v2 v3 (by omega) (by omega) (gA o 12 v3.toNatClampNeg) r.1 r.2 (fun w2 o' g1 g2 g3 => ?_) zfu 0 o hI hK rfl (by decide) (by decide) (by show (4 : Int) < ((100000 : Nat) : Int) + (0 : Int32).toInt; decide)
      have tw : w2.toInt = v2.toInt + 1 := by rw [g3]; exact i32_add rfl (by decide) (by omega) (by omega)
      exact h116 w2 o' g1 g2 (by omega) (by omega)
  have z0 : (0 : Int32).toInt = 0 := by decide
  exact loop zfu 0 0 o4 hI4 hK4 (by omega) (by omega) (by omega) (by omega) (by show (405 : Int) < ((100000 : Nat) : Int) + _; omega)

set_option maxHeartbeats 4000000 in
set_option maxRecDepth 100000 in
theorem s_X9_seen (o_me : Ob) (p0 : Int32) (p1 : Int32) (hI_me : IvX9 o_me)  : wp (f_X9_seen   o_me p0 p1) (fun (y : Int32 × Ob) => ((-6) ≤ y.1.toInt ∧ y.1.toInt ≤ 2147483647) ∧ IvX9 y.2 ∧ Kp [8, 13, 14, 15, 16, 19, 20, 21, 23, 26, 29, 34, 38, 43, 59, 62] [7, 10, 12, 22, 24, 25, 27, 28, 42, 48, 50, 51, 55] [(3, (0 : Int32))] o_me y.2) := by
  have li0 : (-1 : Int32).toInt = (-1) := by decide
  have li1 : (-5 : Int32).toInt = (-5) := by decide
  have li2 : (0 : Int32).toInt = 0 := by decide
  have li3 : (0 : Int64).toInt = 0 := by decide
  have li4 : (1 : Int32).toInt = 1 := by decide
  have li5 : (2 : Int32).toInt = 2 := by decide
  have li6 : (6 : Int32).toInt = 6 := by decide
  have li7 : (71 : Int32).toInt = 71 := by decide
  have li8 : (9 : Int64).toInt = 9 := by decide
  unfold f_X9_seen
  refine wp_lt (fun o1 eo1 => ?_)
  have hIo1 : IvX9 o1 := by rw [eo1]; exact hI_me
  have ko1_v : (gI o1 0).toInt = 0 := by rw [eo1]; exact (show ((0 : Int32)).toInt = _ from by decide)
  have hkpo1 : Kp [8, 13, 14, 15, 16, 19, 20, 21, 23, 26, 29, 34, 38, 43, 59, 62] [7, 10, 12, 22, 24, 25, 27, 28, 42, 48, 50, 51, 55] [(3, (0 : Int32))] o_me o1 := Kp.rf.trans (by rw [eo1]; exact Kp.sI (by decide))
  refine wp_bd (s_X9_isRace   p0    ) (fun z2 hz2 => ?_)
  obtain ⟨hz2_0, hz2_1⟩ := hz2
  refine wp_if (fun c3 => ?_) (fun c3 => ?_)
  · have c3 := cv_eq (a := z2.toInt) (b := 0) rfl (by decide) c3
    unfold bk_X9_seen_24
    refine wp_bd (s_X9_tell   o1 (-1 : Int32)  hIo1  ⟨by decide, by decide⟩) (fun z4 hz4 => ?_)
    obtain ⟨hz4_0, hz4_1, hz4_2⟩ := hz4
    have hkpz4_me : Kp [8, 13, 14, 15, 16, 19, 20, 21, 23, 26, 29, 34, 38, 43, 59, 62] [7, 10, 12, 22, 24, 25, 27, 28, 42, 48, 50, 51, 55] [(3, (0 : Int32))] o_me z4.2 := hkpo1.trans (hz4_2.mono (by decide) (by decide) (by decide))
    refine wp_some ?_
    have rg5 := i32_rg z4.1
    exact (show ((-6) ≤ z4.1.toInt ∧ z4.1.toInt ≤ 2147483647) ∧ IvX9 z4.2 ∧ Kp [8, 13, 14, 15, 16, 19, 20, 21, 23, 26, 29, 34, 38, 43, 59, 62] [7, 10, 12, 22, 24, 25, 27, 28, 42, 48, 50, 51, 55] [(3, (0 : Int32))] o_me z4.2 from ⟨⟨by omega, by omega⟩, hz4_1, hkpz4_me⟩)
  · have c3z := c3
    have c3i := hz2_1 c3
    have c3 := cv_ne (a := z2.toInt) (b := 0) rfl (by decide) c3
    have rg6 := i32_rg p1
    have t7 : p1.toInt64.toInt = p1.toInt := Int32.toInt_toInt64 _
    refine wp_bd (s_X9_in   p1.toInt64 (0 : Int64) (9 : Int64)    ) (fun z8 hz8 => ?_)
    obtain ⟨hz8_0, hz8_1⟩ := hz8
    refine wp_if (fun c9 => ?_) (fun c9 => ?_)
    · have c9 := cv_eq (a := z8.toInt) (b := 0) rfl (by decide) c9
      unfold bk_X9_seen_24
      refine wp_bd (s_X9_tell   o1 (-1 : Int32)  hIo1  ⟨by decide, by decide⟩) (fun z10 hz10 => ?_)
      obtain ⟨hz10_0, hz10_1, hz10_2⟩ := hz10
      have hkpz10_me : Kp [8, 13, 14, 15, 16, 19, 20, 21, 23, 26, 29, 34, 38, 43, 59, 62] [7, 10, 12, 22, 24, 25, 27, 28, 42, 48, 50, 51, 55] [(3, (0 : Int32))] o_me z10.2 := hkpo1.trans (hz10_2.mono (by decide) (by decide) (by decide))
      refine wp_some ?_
      have rg11 := i32_rg z10.1
      exact (show ((-6) ≤ z10.1.toInt ∧ z10.1.toInt ≤ 2147483647) ∧ IvX9 z10.2 ∧ Kp [8, 13, 14, 15, 16, 19, 20, 21, 23, 26, 29, 34, 38, 43, 59, 62] [7, 10, 12, 22, 24, 25, 27, 28, 42, 48, 50, 51, 55] [(3, (0 : Int32))] o_me z10.2 from ⟨⟨by omega, by omega⟩, hz10_1, hkpz10_me⟩)
    · have c9z := c9
      have c9i := hz8_1 c9
      have c9 := cv_ne (a := z8.toInt) (b := 0) rfl (by decide) c9
      have t12 := iaX9_3_1 hIo1 (j := (1 : Int32)) (by decide) (by decide)
      refine wp_lt (fun x13 ex13 => ?_)
      have tx13 : x13.toInt = (gA o1 3 (1 : Int32).toNatClampNeg).toInt := by rw [ex13]
      refine wp_if (fun c14 => ?_) (fun c14 => ?_)
      · have c14 := cv_eq (a := x13.toInt) (b := 6) rfl (by decide) c14
        refine wp_bd (s_X9_tell   o1 (-5 : Int32)  hIo1  ⟨by decide, by decide⟩) (fun z15 hz15 => ?_)
        obtain ⟨hz15_0, hz15_1, hz15_2⟩ := hz15
        have hkpz15_me : Kp [8, 13, 14, 15, 16, 19, 20, 21, 23, 26, 29, 34, 38, 43, 59, 62] [7, 10, 12, 22, 24, 25, 27, 28, 42, 48, 50, 51, 55] [(3, (0 : Int32))] o_me z15.2 := hkpo1.trans (hz15_2.mono (by decide) (by decide) (by decide))
        have kz15_k16 : (gA z15.2 3 (1 : Int32).toNatClampNeg).toInt = (gA o1 3 (1 : Int32).toNatClampNeg).toInt := congrArg (fun g => (g (1 : Int32).toNatClampNeg).toInt) (hz15_2.2.1 3 (by decide))
        refine wp_some ?_
        have rg17 := i32_rg z15.1
        exact (show ((-6) ≤ z15.1.toInt ∧ z15.1.toInt ≤ 2147483647) ∧ IvX9 z15.2 ∧ Kp [8, 13, 14, 15, 16, 19, 20, 21, 23, 26, 29, 34, 38, 43, 59, 62] [7, 10, 12, 22, 24, 25, 27, 28, 42, 48, 50, 51, 55] [(3, (0 : Int32))] o_me z15.2 from ⟨⟨by omega, by omega⟩, hz15_1, hkpz15_me⟩)
      · have c14 := cv_ne (a := x13.toInt) (b := 6) rfl (by decide) c14
        have t18 : ((2 : Int32) * x13).toInt = 2 * x13.toInt := i32_mul (by decide) rfl (by omega) (by omega)
        have t19 : ((71 : Int32) + ((2 : Int32) * x13)).toInt = 71 + ((2 : Int32) * x13).toInt := i32_add (by decide) rfl (by omega) (by omega)
        refine wp_gd (zin_of (m := 5484) rfl (by omega) (by omega)) ?_
        refine wp_lt (fun o20 eo20 => ?_)
        have hIo20 : IvX9 o20 := by rw [eo20]; exact ibX9_3 hIo1 (by omega) (by omega) (Or.inr (Or.inl (by first | omega | decide))) (Or.inr (Or.inl (by first | omega | decide))) (Or.inr (Or.inl (by first | omega | decide))) (Or.inr (Or.inl (by first | omega | decide))) (Or.inr (Or.inl (by first | omega | decide))) (Or.inr (Or.inl (by first | omega | decide))) (Or.inr (Or.inl (by first | omega | decide))) (Or.inr (Or.inl (by first | omega | decide))) (Or.inr (Or.inr ⟨by omega, by omega⟩))
        have ko20_k21 : (gA o20 3 (1 : Int32).toNatClampNeg).toInt = (gA o1 3 (1 : Int32).toNatClampNeg).toInt := by rw [eo20]; exact congrArg Int32.toInt (upd_ne (g := gA o1 3) (i := ((71 : Int32) + ((2 : Int32) * x13))) (j := (1 : Int32)) (v := p0) (by omega) (by decide) (by omega))
        have ko20_k22 : (gI o20 0).toInt = (gI o1 0).toInt := by rw [eo20]; rfl
        have ko20_v : (gA o20 3 ((71 : Int32) + ((2 : Int32) * x13)).toNatClampNeg).toInt = p0.toInt := by rw [eo20]; exact congrArg Int32.toInt (upd_eq (g := gA o1 3) (i := ((71 : Int32) + ((2 : Int32) * x13))) (v := p0))
        have hkpo20 : Kp [8, 13, 14, 15, 16, 19, 20, 21, 23, 26, 29, 34, 38, 43, 59, 62] [7, 10, 12, 22, 24, 25, 27, 28, 42, 48, 50, 51, 55] [(3, (0 : Int32))] o_me o20 := hkpo1.trans (by rw [eo20]; exact kp_tA0 (by decide) (by omega))
        have t23 : (((71 : Int32) + ((2 : Int32) * x13)) + (1 : Int32)).toInt = ((71 : Int32) + ((2 : Int32) * x13)).toInt + 1 := i32_add rfl (by decide) (by omega) (by omega)
        refine wp_gd (zin_of (m := 5484) rfl (by omega) (by omega)) ?_
        refine wp_lt (fun o24 eo24 => ?_)
        have hIo24 : IvX9 o24 := by rw [eo24]; exact ibX9_3 hIo20 (by omega) (by omega) (Or.inr (Or.inl (by first | omega | decide))) (Or.inr (Or.inl (by first | omega | decide))) (Or.inr (Or.inl (by first | omega | decide))) (Or.inr (Or.inl (by first | omega | decide))) (Or.inr (Or.inl (by first | omega | decide))) (Or.inr (Or.inl (by first | omega | decide))) (Or.inr (Or.inl (by first | omega | decide))) (Or.inr (Or.inl (by first | omega | decide))) (Or.inr (Or.inr ⟨by omega, by omega⟩))
        have ko24_k25 : (gA o24 3 (1 : Int32).toNatClampNeg).toInt = (gA o20 3 (1 : Int32).toNatClampNeg).toInt := by rw [eo24]; exact congrArg Int32.toInt (upd_ne (g := gA o20 3) (i := (((71 : Int32) + ((2 : Int32) * x13)) + (1 : Int32))) (j := (1 : Int32)) (v := p1) (by omega) (by decide) (by omega))
        have ko24_k26 : (gI o24 0).toInt = (gI o20 0).toInt := by rw [eo24]; rfl
        have ko24_v : (gA o24 3 (((71 : Int32) + ((2 : Int32) * x13)) + (1 : Int32)).toNatClampNeg).toInt = p1.toInt := by rw [eo24]; exact congrArg Int32.toInt (upd_eq (g := gA o20 3) (i := (((71 : Int32) + ((2 : Int32) * x13)) + (1 : Int32))) (v := p1))
        have hkpo24 : Kp [8, 13, 14, 15, 16, 19, 20, 21, 23, 26, 29, 34, 38, 43, 59, 62] [7, 10, 12, 22, 24, 25, 27, 28, 42, 48, 50, 51, 55] [(3, (0 : Int32))] o_me o24 := hkpo20.trans (by rw [eo24]; exact kp_tA0 (by decide) (by omega))
        have t27 : ((gA o24 3 (1 : Int32).toNatClampNeg) + (1 : Int32)).toInt = (gA o24 3 (1 : Int32).toNatClampNeg).toInt + 1 := i32_add rfl (by decide) (by omega) (by omega)
        refine wp_lt (fun o28 eo28 => ?_)
        have hIo28 : IvX9 o28 := by rw [eo28]; exact ibX9_3 hIo24 (by decide) (by decide) (Or.inr (Or.inl (by first | omega | decide))) (Or.inr (Or.inr ⟨by omega, by omega⟩)) (Or.inl (by first | omega | decide)) (Or.inl (by first | omega | decide)) (Or.inl (by first | omega | decide)) (Or.inl (by first | omega | decide)) (Or.inl (by first | omega | decide)) (Or.inl (by first | omega | decide)) (Or.inl (by first | omega | decide))
        have ko28_k29 : (gA o28 3 (((71 : Int32) + ((2 : Int32) * x13)) + (1 : Int32)).toNatClampNeg).toInt = (gA o24 3 (((71 : Int32) + ((2 : Int32) * x13)) + (1 : Int32)).toNatClampNeg).toInt := by rw [eo28]; exact congrArg Int32.toInt (upd_ne (g := gA o24 3) (i := (1 : Int32)) (j := (((71 : Int32) + ((2 : Int32) * x13)) + (1 : Int32))) (v := ((gA o24 3 (1 : Int32).toNatClampNeg) + (1 : Int32))) (by decide) (by omega) (by omega))
        have ko28_k30 : (gI o28 0).toInt = (gI o24 0).toInt := by rw [eo28]; rfl
        have ko28_v : (gA o28 3 (1 : Int32).toNatClampNeg).toInt = ((gA o24 3 (1 : Int32).toNatClampNeg) + (1 : Int32)).toInt := by rw [eo28]; exact congrArg Int32.toInt (upd_eq (g := gA o24 3) (i := (1 : Int32)) (v := ((gA o24 3 (1 : Int32).toNatClampNeg) + (1 : Int32))))
        have hkpo28 : Kp [8, 13, 14, 15, 16, 19, 20, 21, 23, 26, 29, 34, 38, 43, 59, 62] [7, 10, 12, 22, 24, 25, 27, 28, 42, 48, 50, 51, 55] [(3, (0 : Int32))] o_me o28 := hkpo24.trans (by rw [eo28]; exact kp_tA0 (by decide) (by decide))
        have t31 : (x13 + (1 : Int32)).toInt = x13.toInt + 1 := i32_add rfl (by decide) (by omega) (by omega)
        have rg33 := i32_rg (x13 + (1 : Int32))
        refine wp_bd (s_X9_tell   o28 (x13 + (1 : Int32))  hIo28  ⟨by omega, by omega⟩) (fun z32 hz32 => ?_)
        obtain ⟨hz32_0, hz32_1, hz32_2⟩ := hz32
        have hkpz32_me : Kp [8, 13, 14, 15, 16, 19, 20, 21, 23, 26, 29, 34, 38, 43, 59, 62] [7, 10, 12, 22, 24, 25, 27, 28, 42, 48, 50, 51, 55] [(3, (0 : Int32))] o_me z32.2 := hkpo28.trans (hz32_2.mono (by decide) (by decide) (by decide))
        have kz32_k34 : (gA z32.2 3 (((71 : Int32) + ((2 : Int32) * x13)) + (1 : Int32)).toNatClampNeg).toInt = (gA o28 3 (((71 : Int32) + ((2 : Int32) * x13)) + (1 : Int32)).toNatClampNeg).toInt := congrArg (fun g => (g (((71 : Int32) + ((2 : Int32) * x13)) + (1 : Int32)).toNatClampNeg).toInt) (hz32_2.2.1 3 (by decide))
        have kz32_k35 : (gA z32.2 3 (1 : Int32).toNatClampNeg).toInt = (gA o28 3 (1 : Int32).toNatClampNeg).toInt := congrArg (fun g => (g (1 : Int32).toNatClampNeg).toInt) (hz32_2.2.1 3 (by decide))
        refine wp_some ?_
        have rg36 := i32_rg z32.1
        exact (show ((-6) ≤ z32.1.toInt ∧ z32.1.toInt ≤ 2147483647) ∧ IvX9 z32.2 ∧ Kp [8, 13, 14, 15, 16, 19, 20, 21, 23, 26, 29, 34, 38, 43, 59, 62] [7, 10, 12, 22, 24, 25, 27, 28, 42, 48, 50, 51, 55] [(3, (0 : Int32))] o_me z32.2 from ⟨⟨by omega, by omega⟩, hz32_1, hkpz32_me⟩)

set_option maxHeartbeats 4000000 in
set_option maxRecDepth 100000 in
theorem s_X9_status (o_me : Ob) (hI_me : IvX9 o_me)  : wp (f_X9_status   o_me) (fun (y : Int32 × Ob) => IvX9 y.2 ∧ Kp [8, 13, 14, 15, 16, 19, 20, 21, 23, 26, 29, 34, 38, 43, 59, 62] [3, 7, 10, 12, 22, 24, 25, 27, 28, 42, 48, 50, 51, 55] [(3, (0 : Int32))] o_me y.2) := by
  have li0 : (0 : Int32).toInt = 0 := by decide
  unfold f_X9_status
  refine wp_lt (fun o1 eo1 => ?_)
  have hIo1 : IvX9 o1 := by rw [eo1]; exact hI_me
  have ko1_v : (gI o1 0).toInt = 0 := by rw [eo1]; exact (show ((0 : Int32)).toInt = _ from by decide)
  have hkpo1 : Kp [8, 13, 14, 15, 16, 19, 20, 21, 23, 26, 29, 34, 38, 43, 59, 62] [3, 7, 10, 12, 22, 24, 25, 27, 28, 42, 48, 50, 51, 55] [(3, (0 : Int32))] o_me o1 := Kp.rf.trans (by rw [eo1]; exact Kp.sI (by decide))
  refine wp_some ?_
  exact (show IvX9 o1 ∧ Kp [8, 13, 14, 15, 16, 19, 20, 21, 23, 26, 29, 34, 38, 43, 59, 62] [3, 7, 10, 12, 22, 24, 25, 27, 28, 42, 48, 50, 51, 55] [(3, (0 : Int32))] o_me o1 from ⟨hIo1, hkpo1⟩)

set_option maxHeartbeats 4000000 in
set_option maxRecDepth 100000 in
theorem s_X9_stopped (o_me : Ob) (hI_me : IvX9 o_me)  : wp (f_X9_stopped   o_me) (fun (y : Int32 × Ob) => IvX9 y.2 ∧ Kp [8, 13, 14, 15, 16, 19, 20, 21, 23, 26, 29, 34, 38, 43, 59, 62] [3, 7, 10, 12, 22, 24, 25, 27, 28, 42, 48, 50, 51, 55] [(3, (0 : Int32))] o_me y.2) := by
  have li0 : (0 : Int32).toInt = 0 := by decide
  unfold f_X9_stopped
  refine wp_lt (fun o1 eo1 => ?_)
  have hIo1 : IvX9 o1 := by rw [eo1]; exact hI_me
  have ko1_v : (gI o1 0).toInt = 0 := by rw [eo1]; exact (show ((0 : Int32)).toInt = _ from by decide)
  have hkpo1 : Kp [8, 13, 14, 15, 16, 19, 20, 21, 23, 26, 29, 34, 38, 43, 59, 62] [3, 7, 10, 12, 22, 24, 25, 27, 28, 42, 48, 50, 51, 55] [(3, (0 : Int32))] o_me o1 := Kp.rf.trans (by rw [eo1]; exact Kp.sI (by decide))
  refine wp_some ?_
  exact (show IvX9 o1 ∧ Kp [8, 13, 14, 15, 16, 19, 20, 21, 23, 26, 29, 34, 38, 43, 59, 62] [3, 7, 10, 12, 22, 24, 25, 27, 28, 42, 48, 50, 51, 55] [(3, (0 : Int32))] o_me o1 from ⟨hIo1, hkpo1⟩)

set_option maxHeartbeats 4000000 in
set_option maxRecDepth 100000 in
theorem s_X9_strength (o_me : Ob) (p0 : Int32) (p1 : Int32) (p2 : Int32) (hI_me : IvX9 o_me)  : wp (f_X9_strength   o_me p0 p1 p2) (fun (y : Int32 × Ob) => IvX9 y.2 ∧ Kp [8, 13, 14, 15, 16, 19, 20, 21, 23, 26, 29, 34, 38, 43, 59, 62] [7, 10, 12, 22, 24, 25, 27, 28, 42, 48, 50, 51, 55] [(3, (0 : Int32))] o_me y.2) := by
  have li0 : (-1 : Int32).toInt = (-1) := by decide
  have li1 : (-2 : Int32).toInt = (-2) := by decide
  have li2 : (0 : Int32).toInt = 0 := by decide
  have li3 : (0 : Int64).toInt = 0 := by decide
  have li4 : (36 : Int32).toInt = 36 := by decide
  have li5 : (4 : Int32).toInt = 4 := by decide
  have li6 : (9 : Int64).toInt = 9 := by decide
  unfold f_X9_strength
  refine wp_lt (fun o1 eo1 => ?_)
  have hIo1 : IvX9 o1 := by rw [eo1]; exact hI_me
  have ko1_v : (gI o1 0).toInt = 0 := by rw [eo1]; exact (show ((0 : Int32)).toInt = _ from by decide)
  have hkpo1 : Kp [8, 13, 14, 15, 16, 19, 20, 21, 23, 26, 29, 34, 38, 43, 59, 62] [7, 10, 12, 22, 24, 25, 27, 28, 42, 48, 50, 51, 55] [(3, (0 : Int32))] o_me o1 := Kp.rf.trans (by rw [eo1]; exact Kp.sI (by decide))
  refine wp_bd (s_X9_isRace   p1    ) (fun z2 hz2 => ?_)
  obtain ⟨hz2_0, hz2_1⟩ := hz2
  refine wp_if (fun c3 => ?_) (fun c3 => ?_)
  · have c3 := cv_eq (a := z2.toInt) (b := 0) rfl (by decide) c3
    unfold bk_X9_strength_24
    refine wp_bd (s_X9_tell   o1 (-1 : Int32)  hIo1  ⟨by decide, by decide⟩) (fun z4 hz4 => ?_)
    obtain ⟨hz4_0, hz4_1, hz4_2⟩ := hz4
    have hkpz4_me : Kp [8, 13, 14, 15, 16, 19, 20, 21, 23, 26, 29, 34, 38, 43, 59, 62] [7, 10, 12, 22, 24, 25, 27, 28, 42, 48, 50, 51, 55] [(3, (0 : Int32))] o_me z4.2 := hkpo1.trans (hz4_2.mono (by decide) (by decide) (by decide))
    refine wp_some ?_
    exact (show IvX9 z4.2 ∧ Kp [8, 13, 14, 15, 16, 19, 20, 21, 23, 26, 29, 34, 38, 43, 59, 62] [7, 10, 12, 22, 24, 25, 27, 28, 42, 48, 50, 51, 55] [(3, (0 : Int32))] o_me z4.2 from ⟨hz4_1, hkpz4_me⟩)
  · have c3z := c3
    have c3i := hz2_1 c3
    have c3 := cv_ne (a := z2.toInt) (b := 0) rfl (by decide) c3
    have rg5 := i32_rg p2
    have t6 : p2.toInt64.toInt = p2.toInt := Int32.toInt_toInt64 _
    refine wp_bd (s_X9_in   p2.toInt64 (0 : Int64) (9 : Int64)    ) (fun z7 hz7 => ?_)
    obtain ⟨hz7_0, hz7_1⟩ := hz7
    refine wp_if (fun c8 => ?_) (fun c8 => ?_)
    · have c8 := cv_eq (a := z7.toInt) (b := 0) rfl (by decide) c8
      unfold bk_X9_strength_24
      refine wp_bd (s_X9_tell   o1 (-1 : Int32)  hIo1  ⟨by decide, by decide⟩) (fun z9 hz9 => ?_)
      obtain ⟨hz9_0, hz9_1, hz9_2⟩ := hz9
      have hkpz9_me : Kp [8, 13, 14, 15, 16, 19, 20, 21, 23, 26, 29, 34, 38, 43, 59, 62] [7, 10, 12, 22, 24, 25, 27, 28, 42, 48, 50, 51, 55] [(3, (0 : Int32))] o_me z9.2 := hkpo1.trans (hz9_2.mono (by decide) (by decide) (by decide))
      refine wp_some ?_
      exact (show IvX9 z9.2 ∧ Kp [8, 13, 14, 15, 16, 19, 20, 21, 23, 26, 29, 34, 38, 43, 59, 62] [7, 10, 12, 22, 24, 25, 27, 28, 42, 48, 50, 51, 55] [(3, (0 : Int32))] o_me z9.2 from ⟨hz9_1, hkpz9_me⟩)
    · have c8z := c8
      have c8i := hz7_1 c8
      have c8 := cv_ne (a := z7.toInt) (b := 0) rfl (by decide) c8
      refine wp_bd (s_X9_isPerson   o1 p0  hIo1  ) (fun z10 hz10 => ?_)
      obtain ⟨hz10_0, hz10_1⟩ := hz10
      refine wp_if (fun c11 => ?_) (fun c11 => ?_)
      · have c11 := cv_eq (a := z10.toInt) (b := 0) rfl (by decide) c11
        refine wp_bd (s_X9_tell   o1 (-2 : Int32)  hIo1  ⟨by decide, by decide⟩) (fun z12 hz12 => ?_)
        obtain ⟨hz12_0, hz12_1, hz12_2⟩ := hz12
        have hkpz12_me : Kp [8, 13, 14, 15, 16, 19, 20, 21, 23, 26, 29, 34, 38, 43, 59, 62] [7, 10, 12, 22, 24, 25, 27, 28, 42, 48, 50, 51, 55] [(3, (0 : Int32))] o_me z12.2 := hkpo1.trans (hz12_2.mono (by decide) (by decide) (by decide))
        refine wp_some ?_
        exact (show IvX9 z12.2 ∧ Kp [8, 13, 14, 15, 16, 19, 20, 21, 23, 26, 29, 34, 38, 43, 59, 62] [7, 10, 12, 22, 24, 25, 27, 28, 42, 48, 50, 51, 55] [(3, (0 : Int32))] o_me z12.2 from ⟨hz12_1, hkpz12_me⟩)
      · have c11z := c11
        have c11i := hz10_1 c11
        have c11 := cv_ne (a := z10.toInt) (b := 0) rfl (by decide) c11
        have t13 : ((4 : Int32) * p0).toInt = 4 * p0.toInt := i32_mul (by decide) rfl (by omega) (by omega)
        have t14 : ((36 : Int32) + ((4 : Int32) * p0)).toInt = 36 + ((4 : Int32) * p0).toInt := i32_add (by decide) rfl (by omega) (by omega)
        have t15 : (((36 : Int32) + ((4 : Int32) * p0)) + p1).toInt = ((36 : Int32) + ((4 : Int32) * p0)).toInt + p1.toInt := i32_add rfl rfl (by omega) (by omega)
        refine wp_bd (s_X9_change   o1 (((36 : Int32) + ((4 : Int32) * p0)) + p1) p2  hIo1  ⟨by omega, by omega⟩) (fun z16 hz16 => ?_)
        obtain ⟨hz16_0, hz16_1⟩ := hz16
        have hkpz16_me : Kp [8, 13, 14, 15, 16, 19, 20, 21, 23, 26, 29, 34, 38, 43, 59, 62] [7, 10, 12, 22, 24, 25, 27, 28, 42, 48, 50, 51, 55] [(3, (0 : Int32))] o_me z16.2 := hkpo1.trans (hz16_1.mono (by decide) (by decide) (by decide))
        refine wp_some ?_
        exact (show IvX9 z16.2 ∧ Kp [8, 13, 14, 15, 16, 19, 20, 21, 23, 26, 29, 34, 38, 43, 59, 62] [7, 10, 12, 22, 24, 25, 27, 28, 42, 48, 50, 51, 55] [(3, (0 : Int32))] o_me z16.2 from ⟨hz16_0, hkpz16_me⟩)

set_option maxHeartbeats 4000000 in
set_option maxRecDepth 100000 in
theorem s_X9_take (o_me : Ob) (p0 : Int32) (hI_me : IvX9 o_me)  : wp (f_X9_take   o_me p0) (fun (y : Int32 × Ob) => ((-6) ≤ y.1.toInt ∧ y.1.toInt ≤ 2147483647) ∧ IvX9 y.2 ∧ Kp [13, 14, 15, 16, 19, 20, 21, 23, 26, 29, 34, 38, 43, 59, 62] [10, 12, 22, 24, 25, 27, 28, 42, 48, 50, 51, 55] [(3, (0 : Int32))] o_me y.2) := by
  have li0 : (0 : Int32).toInt = 0 := by decide
  unfold f_X9_take
  refine wp_lt (fun o1 eo1 => ?_)
  have hIo1 : IvX9 o1 := by rw [eo1]; exact hI_me
  have ko1_v : (gI o1 0).toInt = 0 := by rw [eo1]; exact (show ((0 : Int32)).toInt = _ from by decide)
  have hkpo1 : Kp [13, 14, 15, 16, 19, 20, 21, 23, 26, 29, 34, 38, 43, 59, 62] [10, 12, 22, 24, 25, 27, 28, 42, 48, 50, 51, 55] [(3, (0 : Int32))] o_me o1 := Kp.rf.trans (by rw [eo1]; exact Kp.sI (by decide))
  refine wp_bd (s_X9_takeNow   o1 p0  hIo1  ) (fun z2 hz2 => ?_)
  obtain ⟨hz2_0, hz2_1, hz2_2⟩ := hz2
  have hkpz2_me : Kp [13, 14, 15, 16, 19, 20, 21, 23, 26, 29, 34, 38, 43, 59, 62] [10, 12, 22, 24, 25, 27, 28, 42, 48, 50, 51, 55] [(3, (0 : Int32))] o_me z2.2 := hkpo1.trans (hz2_2.mono (by decide) (by decide) (by decide))
  have rg4 := i32_rg z2.1
  refine wp_bd (s_X9_tell   z2.2 z2.1  hz2_1  ⟨by omega, by omega⟩) (fun z3 hz3 => ?_)
  obtain ⟨hz3_0, hz3_1, hz3_2⟩ := hz3
  have hkpz3_me : Kp [13, 14, 15, 16, 19, 20, 21, 23, 26, 29, 34, 38, 43, 59, 62] [10, 12, 22, 24, 25, 27, 28, 42, 48, 50, 51, 55] [(3, (0 : Int32))] o_me z3.2 := hkpz2_me.trans (hz3_2.mono (by decide) (by decide) (by decide))
  refine wp_some ?_
  have rg5 := i32_rg z3.1
  exact (show ((-6) ≤ z3.1.toInt ∧ z3.1.toInt ≤ 2147483647) ∧ IvX9 z3.2 ∧ Kp [13, 14, 15, 16, 19, 20, 21, 23, 26, 29, 34, 38, 43, 59, 62] [10, 12, 22, 24, 25, 27, 28, 42, 48, 50, 51, 55] [(3, (0 : Int32))] o_me z3.2 from ⟨⟨by omega, by omega⟩, hz3_1, hkpz3_me⟩)

set_option maxHeartbeats 4000000 in
set_option maxRecDepth 100000 in
theorem s_X9_change_v1 (o_me : Ob) (p0 : Int32) (p1 : Int32) (hI_me : IvX9 o_me) (q0 : 4 ≤ p0.toInt ∧ p0.toInt ≤ 6) : wp (f_X9_change   o_me p0 p1) (fun (y : Int32 × Ob) => IvX9 y.2 ∧ Kp [8, 13, 14, 15, 16, 19, 20, 21, 23, 26, 29, 34, 38, 43, 59, 62] [7, 10, 12, 22, 24, 25, 27, 28, 42, 48, 50, 51, 55] [(3, (0 : Int32))] o_me y.2) := by
  have li0 : (0 : Int32).toInt = 0 := by decide
  unfold f_X9_change
  refine wp_gd (zin_of (m := 5484) rfl (by omega) (by omega)) ?_
  refine wp_lt (fun x1 ex1 => ?_)
  have tx1 : x1.toInt = (gA o_me 3 p0.toNatClampNeg).toInt := by rw [ex1]
  refine wp_gd (zin_of (m := 5484) rfl (by omega) (by omega)) ?_
  refine wp_lt (fun o2 eo2 => ?_)
  have hIo2 : IvX9 o2 := by rw [eo2]; exact ibX9_3 hI_me (by omega) (by omega) (Or.inr (Or.inl (by first | omega | decide))) (Or.inr (Or.inl (by first | omega | decide))) (Or.inr (Or.inl (by first | omega | decide))) (Or.inr (Or.inl (by first | omega | decide))) (Or.inl (by first | omega | decide)) (Or.inl (by first | omega | decide)) (Or.inl (by first | omega | decide)) (Or.inl (by first | omega | decide)) (Or.inl (by first | omega | decide))
  have ko2_v : (gA o2 3 p0.toNatClampNeg).toInt = p1.toInt := by rw [eo2]; exact congrArg Int32.toInt (upd_eq (g := gA o_me 3) (i := p0) (v := p1))
  have hkpo2 : Kp [8, 13, 14, 15, 16, 19, 20, 21, 23, 26, 29, 34, 38, 43, 59, 62] [7, 10, 12, 22, 24, 25, 27, 28, 42, 48, 50, 51, 55] [(3, (0 : Int32))] o_me o2 := Kp.rf.trans (by rw [eo2]; exact kp_tA0 (by decide) (by omega))
  refine wp_lt (fun o3 eo3 => ?_)
  have hIo3 : IvX9 o3 := by rw [eo3]; exact hIo2
  have ko3_k4 : (gA o3 3 p0.toNatClampNeg).toInt = (gA o2 3 p0.toNatClampNeg).toInt := by rw [eo3]; rfl
  have ko3_v : (gI o3 1).toInt = 0 := by rw [eo3]; exact (show ((0 : Int32)).toInt = _ from by decide)
  have hkpo3 : Kp [8, 13, 14, 15, 16, 19, 20, 21, 23, 26, 29, 34, 38, 43, 59, 62] [7, 10, 12, 22, 24, 25, 27, 28, 42, 48, 50, 51, 55] [(3, (0 : Int32))] o_me o3 := hkpo2.trans (by rw [eo3]; exact Kp.sI (by decide))
  refine wp_some ?_
  exact (show IvX9 o3 ∧ Kp [8, 13, 14, 15, 16, 19, 20, 21, 23, 26, 29, 34, 38, 43, 59, 62] [7, 10, 12, 22, 24, 25, 27, 28, 42, 48, 50, 51, 55] [(3, (0 : Int32))] o_me o3 from ⟨hIo3, hkpo3⟩)

set_option maxHeartbeats 4000000 in
set_option maxRecDepth 100000 in
theorem s_X9_terms (o_me : Ob) (p0 : Int32) (p1 : Int32) (hI_me : IvX9 o_me)  : wp (f_X9_terms   o_me p0 p1) (fun (y : Int32 × Ob) => IvX9 y.2 ∧ Kp [13, 14, 15, 16, 19, 20, 21, 23, 26, 29, 34, 38, 43, 59, 62] [7, 10, 12, 22, 24, 25, 27, 28, 42, 48, 50, 51, 55] [(3, (0 : Int32))] o_me y.2) := by
  have li0 : (-1 : Int32).toInt = (-1) := by decide
  have li1 : (0 : Int32).toInt = 0 := by decide
  have li2 : (0 : Int64).toInt = 0 := by decide
  have li3 : (1 : Int32).toInt = 1 := by decide
  have li4 : (10 : Int64).toInt = 10 := by decide
  have li5 : (2 : Int32).toInt = 2 := by decide
  have li6 : (4 : Int32).toInt = 4 := by decide
  have li7 : (9 : Int64).toInt = 9 := by decide
  have li8 : (999 : Int64).toInt = 999 := by decide
  unfold f_X9_terms
  refine wp_lt (fun o1 eo1 => ?_)
  have hIo1 : IvX9 o1 := by rw [eo1]; exact hI_me
  have ko1_v : (gI o1 0).toInt = 0 := by rw [eo1]; exact (show ((0 : Int32)).toInt = _ from by decide)
  have hkpo1 : Kp [13, 14, 15, 16, 19, 20, 21, 23, 26, 29, 34, 38, 43, 59, 62] [7, 10, 12, 22, 24, 25, 27, 28, 42, 48, 50, 51, 55] [(3, (0 : Int32))] o_me o1 := Kp.rf.trans (by rw [eo1]; exact Kp.sI (by decide))
  refine wp_if (fun c2 => ?_) (fun c2 => ?_)
  · have c2 := cv_eq (a := p0.toInt) (b := 0) rfl (by decide) c2
    have rg3 := i32_rg p1
    have t4 : p1.toInt64.toInt = p1.toInt := Int32.toInt_toInt64 _
    refine wp_bd (s_X9_in   p1.toInt64 (0 : Int64) (999 : Int64)    ) (fun z5 hz5 => ?_)
    obtain ⟨hz5_0, hz5_1⟩ := hz5
    unfold bk_X9_terms_60
    refine wp_if (fun c6 => ?_) (fun c6 => ?_)
    · have c6 := cv_eq (a := z5.toInt) (b := 0) rfl (by decide) c6
      refine wp_bd (s_X9_tell   o1 (-1 : Int32)  hIo1  ⟨by decide, by decide⟩) (fun z7 hz7 => ?_)
      obtain ⟨hz7_0, hz7_1, hz7_2⟩ := hz7
      have hkpz7_me : Kp [13, 14, 15, 16, 19, 20, 21, 23, 26, 29, 34, 38, 43, 59, 62] [7, 10, 12, 22, 24, 25, 27, 28, 42, 48, 50, 51, 55] [(3, (0 : Int32))] o_me z7.2 := hkpo1.trans (hz7_2.mono (by decide) (by decide) (by decide))
      refine wp_some ?_
      exact (show IvX9 z7.2 ∧ Kp [13, 14, 15, 16, 19, 20, 21, 23, 26, 29, 34, 38, 43, 59, 62] [7, 10, 12, 22, 24, 25, 27, 28, 42, 48, 50, 51, 55] [(3, (0 : Int32))] o_me z7.2 from ⟨hz7_1, hkpz7_me⟩)
    · have c6z := c6
      have c6i := hz5_1 c6
      have c6 := cv_ne (a := z5.toInt) (b := 0) rfl (by decide) c6
      refine wp_lt (fun o8 eo8 => ?_)
      have hIo8 : IvX9 o8 := by rw [eo8]; exact ipX9_8 hIo1 ⟨by decide, by decide⟩
      have ko8_k9 : (gI o8 0).toInt = (gI o1 0).toInt := by rw [eo8]; rfl
      have ko8_v : (gI o8 8).toInt = 0 := by rw [eo8]; exact (show ((0 : Int32)).toInt = _ from by decide)
      have hkpo8 : Kp [13, 14, 15, 16, 19, 20, 21, 23, 26, 29, 34, 38, 43, 59, 62] [7, 10, 12, 22, 24, 25, 27, 28, 42, 48, 50, 51, 55] [(3, (0 : Int32))] o_me o8 := hkpo1.trans (by rw [eo8]; exact Kp.sI (by decide))
      have t10 : ((4 : Int32) + p0).toInt = 4 + p0.toInt := i32_add (by decide) rfl (by omega) (by omega)
      refine wp_bd (s_X9_change_v1   o8 ((4 : Int32) + p0) p1  hIo8  ⟨by omega, by omega⟩) (fun z11 hz11 => ?_)
      obtain ⟨hz11_0, hz11_1⟩ := hz11
      have hkpz11_me : Kp [13, 14, 15, 16, 19, 20, 21, 23, 26, 29, 34, 38, 43, 59, 62] [7, 10, 12, 22, 24, 25, 27, 28, 42, 48, 50, 51, 55] [(3, (0 : Int32))] o_me z11.2 := hkpo8.trans (hz11_1.mono (by decide) (by decide) (by decide))
      have kz11_k12 : (gI z11.2 8).toInt = (gI o8 8).toInt := congrArg Int32.toInt (hz11_1.1 8 (by decide))
      refine wp_some ?_
      exact (show IvX9 z11.2 ∧ Kp [13, 14, 15, 16, 19, 20, 21, 23, 26, 29, 34, 38, 43, 59, 62] [7, 10, 12, 22, 24, 25, 27, 28, 42, 48, 50, 51, 55] [(3, (0 : Int32))] o_me z11.2 from ⟨hz11_0, hkpz11_me⟩)
  · have c2z := c2
    have c2 := cv_ne (a := p0.toInt) (b := 0) rfl (by decide) c2
    refine wp_if (fun c13 => ?_) (fun c13 => ?_)
    · have c13 := cv_eq (a := p0.toInt) (b := 1) rfl (by decide) c13
      have rg14 := i32_rg p1
      have t15 : p1.toInt64.toInt = p1.toInt := Int32.toInt_toInt64 _
      refine wp_bd (s_X9_in   p1.toInt64 (0 : Int64) (10 : Int64)    ) (fun z16 hz16 => ?_)
      obtain ⟨hz16_0, hz16_1⟩ := hz16
      unfold bk_X9_terms_60
      refine wp_if (fun c17 => ?_) (fun c17 => ?_)
      · have c17 := cv_eq (a := z16.toInt) (b := 0) rfl (by decide) c17
        refine wp_bd (s_X9_tell   o1 (-1 : Int32)  hIo1  ⟨by decide, by decide⟩) (fun z18 hz18 => ?_)
        obtain ⟨hz18_0, hz18_1, hz18_2⟩ := hz18
        have hkpz18_me : Kp [13, 14, 15, 16, 19, 20, 21, 23, 26, 29, 34, 38, 43, 59, 62] [7, 10, 12, 22, 24, 25, 27, 28, 42, 48, 50, 51, 55] [(3, (0 : Int32))] o_me z18.2 := hkpo1.trans (hz18_2.mono (by decide) (by decide) (by decide))
        refine wp_some ?_
        exact (show IvX9 z18.2 ∧ Kp [13, 14, 15, 16, 19, 20, 21, 23, 26, 29, 34, 38, 43, 59, 62] [7, 10, 12, 22, 24, 25, 27, 28, 42, 48, 50, 51, 55] [(3, (0 : Int32))] o_me z18.2 from ⟨hz18_1, hkpz18_me⟩)
      · have c17z := c17
        have c17i := hz16_1 c17
        have c17 := cv_ne (a := z16.toInt) (b := 0) rfl (by decide) c17
        refine wp_lt (fun o19 eo19 => ?_)
        have hIo19 : IvX9 o19 := by rw [eo19]; exact ipX9_8 hIo1 ⟨by decide, by decide⟩
        have ko19_k20 : (gI o19 0).toInt = (gI o1 0).toInt := by rw [eo19]; rfl
        have ko19_v : (gI o19 8).toInt = 0 := by rw [eo19]; exact (show ((0 : Int32)).toInt = _ from by decide)
        have hkpo19 : Kp [13, 14, 15, 16, 19, 20, 21, 23, 26, 29, 34, 38, 43, 59, 62] [7, 10, 12, 22, 24, 25, 27, 28, 42, 48, 50, 51, 55] [(3, (0 : Int32))] o_me o19 := hkpo1.trans (by rw [eo19]; exact Kp.sI (by decide))
        have t21 : ((4 : Int32) + p0).toInt = 4 + p0.toInt := i32_add (by decide) rfl (by omega) (by omega)
        refine wp_bd (s_X9_change_v1   o19 ((4 : Int32) + p0) p1  hIo19  ⟨by omega, by omega⟩) (fun z22 hz22 => ?_)
        obtain ⟨hz22_0, hz22_1⟩ := hz22
        have hkpz22_me : Kp [13, 14, 15, 16, 19, 20, 21, 23, 26, 29, 34, 38, 43, 59, 62] [7, 10, 12, 22, 24, 25, 27, 28, 42, 48, 50, 51, 55] [(3, (0 : Int32))] o_me z22.2 := hkpo19.trans (hz22_1.mono (by decide) (by decide) (by decide))
        have kz22_k23 : (gI z22.2 8).toInt = (gI o19 8).toInt := congrArg Int32.toInt (hz22_1.1 8 (by decide))
        refine wp_some ?_
        exact (show IvX9 z22.2 ∧ Kp [13, 14, 15, 16, 19, 20, 21, 23, 26, 29, 34, 38, 43, 59, 62] [7, 10, 12, 22, 24, 25, 27, 28, 42, 48, 50, 51, 55] [(3, (0 : Int32))] o_me z22.2 from ⟨hz22_0, hkpz22_me⟩)
    · have c13 := cv_ne (a := p0.toInt) (b := 1) rfl (by decide) c13
      refine wp_if (fun c24 => ?_) (fun c24 => ?_)
      · have c24 := cv_eq (a := p0.toInt) (b := 2) rfl (by decide) c24
        have rg25 := i32_rg p1
        have t26 : p1.toInt64.toInt = p1.toInt := Int32.toInt_toInt64 _
        refine wp_bd (s_X9_in   p1.toInt64 (0 : Int64) (9 : Int64)    ) (fun z27 hz27 => ?_)
        obtain ⟨hz27_0, hz27_1⟩ := hz27
        refine wp_if (fun c28 => ?_) (fun c28 => ?_)
        · have c28 := cv_eq (a := z27.toInt) (b := 0) rfl (by decide) c28
          unfold bk_X9_terms_59
          obtain ⟨w29, ew29⟩ : ∃ z : Int32, z = (0 : Int32) := ⟨_, rfl⟩
          have tw29 : w29.toInt = 0 := by rw [ew29]; decide
          rw [show bk_X9_terms_60   p0 p1 (0 : Int32) o1 = bk_X9_terms_60   p0 p1 w29 o1 from by rw [ew29]]
          unfold bk_X9_terms_60
          refine wp_if (fun c30 => ?_) (fun c30 => ?_)
          · have c30 := cv_eq (a := w29.toInt) (b := 0) rfl (by decide) c30
            refine wp_bd (s_X9_tell   o1 (-1 : Int32)  hIo1  ⟨by decide, by decide⟩) (fun z31 hz31 => ?_)
            obtain ⟨hz31_0, hz31_1, hz31_2⟩ := hz31
            have hkpz31_me : Kp [13, 14, 15, 16, 19, 20, 21, 23, 26, 29, 34, 38, 43, 59, 62] [7, 10, 12, 22, 24, 25, 27, 28, 42, 48, 50, 51, 55] [(3, (0 : Int32))] o_me z31.2 := hkpo1.trans (hz31_2.mono (by decide) (by decide) (by decide))
            refine wp_some ?_
            exact (show IvX9 z31.2 ∧ Kp [13, 14, 15, 16, 19, 20, 21, 23, 26, 29, 34, 38, 43, 59, 62] [7, 10, 12, 22, 24, 25, 27, 28, 42, 48, 50, 51, 55] [(3, (0 : Int32))] o_me z31.2 from ⟨hz31_1, hkpz31_me⟩)
          · have c30z := c30
            have c30 := cv_ne (a := w29.toInt) (b := 0) rfl (by decide) c30
            exfalso; omega
        · have c28z := c28
          have c28i := hz27_1 c28
          have c28 := cv_ne (a := z27.toInt) (b := 0) rfl (by decide) c28
          obtain ⟨w32, ew32⟩ : ∃ z : Int32, z = (1 : Int32) := ⟨_, rfl⟩
          have tw32 : w32.toInt = 1 := by rw [ew32]; decide
          rw [show bk_X9_terms_60   p0 p1 (1 : Int32) o1 = bk_X9_terms_60   p0 p1 w32 o1 from by rw [ew32]]
          unfold bk_X9_terms_60
          refine wp_if (fun c33 => ?_) (fun c33 => ?_)
          · have c33 := cv_eq (a := w32.toInt) (b := 0) rfl (by decide) c33
            exfalso; omega
          · have c33z := c33
            have c33 := cv_ne (a := w32.toInt) (b := 0) rfl (by decide) c33
            refine wp_lt (fun o34 eo34 => ?_)
            have hIo34 : IvX9 o34 := by rw [eo34]; exact ipX9_8 hIo1 ⟨by decide, by decide⟩
            have ko34_k35 : (gI o34 0).toInt = (gI o1 0).toInt := by rw [eo34]; rfl
            have ko34_v : (gI o34 8).toInt = 0 := by rw [eo34]; exact (show ((0 : Int32)).toInt = _ from by decide)
            have hkpo34 : Kp [13, 14, 15, 16, 19, 20, 21, 23, 26, 29, 34, 38, 43, 59, 62] [7, 10, 12, 22, 24, 25, 27, 28, 42, 48, 50, 51, 55] [(3, (0 : Int32))] o_me o34 := hkpo1.trans (by rw [eo34]; exact Kp.sI (by decide))
            have t36 : ((4 : Int32) + p0).toInt = 4 + p0.toInt := i32_add (by decide) rfl (by omega) (by omega)
            refine wp_bd (s_X9_change_v1   o34 ((4 : Int32) + p0) p1  hIo34  ⟨by omega, by omega⟩) (fun z37 hz37 => ?_)
            obtain ⟨hz37_0, hz37_1⟩ := hz37
            have hkpz37_me : Kp [13, 14, 15, 16, 19, 20, 21, 23, 26, 29, 34, 38, 43, 59, 62] [7, 10, 12, 22, 24, 25, 27, 28, 42, 48, 50, 51, 55] [(3, (0 : Int32))] o_me z37.2 := hkpo34.trans (hz37_1.mono (by decide) (by decide) (by decide))
            have kz37_k38 : (gI z37.2 8).toInt = (gI o34 8).toInt := congrArg Int32.toInt (hz37_1.1 8 (by decide))
            refine wp_some ?_
            exact (show IvX9 z37.2 ∧ Kp [13, 14, 15, 16, 19, 20, 21, 23, 26, 29, 34, 38, 43, 59, 62] [7, 10, 12, 22, 24, 25, 27, 28, 42, 48, 50, 51, 55] [(3, (0 : Int32))] o_me z37.2 from ⟨hz37_0, hkpz37_me⟩)
      · have c24 := cv_ne (a := p0.toInt) (b := 2) rfl (by decide) c24
        unfold bk_X9_terms_59
        obtain ⟨w39, ew39⟩ : ∃ z : Int32, z = (0 : Int32) := ⟨_, rfl⟩
        have tw39 : w39.toInt = 0 := by rw [ew39]; decide
        rw [show bk_X9_terms_60   p0 p1 (0 : Int32) o1 = bk_X9_terms_60   p0 p1 w39 o1 from by rw [ew39]]
        unfold bk_X9_terms_60
        refine wp_if (fun c40 => ?_) (fun c40 => ?_)
        · have c40 := cv_eq (a := w39.toInt) (b := 0) rfl (by decide) c40
          refine wp_bd (s_X9_tell   o1 (-1 : Int32)  hIo1  ⟨by decide, by decide⟩) (fun z41 hz41 => ?_)
          obtain ⟨hz41_0, hz41_1, hz41_2⟩ := hz41
          have hkpz41_me : Kp [13, 14, 15, 16, 19, 20, 21, 23, 26, 29, 34, 38, 43, 59, 62] [7, 10, 12, 22, 24, 25, 27, 28, 42, 48, 50, 51, 55] [(3, (0 : Int32))] o_me z41.2 := hkpo1.trans (hz41_2.mono (by decide) (by decide) (by decide))
          refine wp_some ?_
          exact (show IvX9 z41.2 ∧ Kp [13, 14, 15, 16, 19, 20, 21, 23, 26, 29, 34, 38, 43, 59, 62] [7, 10, 12, 22, 24, 25, 27, 28, 42, 48, 50, 51, 55] [(3, (0 : Int32))] o_me z41.2 from ⟨hz41_1, hkpz41_me⟩)
        · have c40z := c40
          have c40 := cv_ne (a := w39.toInt) (b := 0) rfl (by decide) c40
          exfalso; omega

set_option maxHeartbeats 4000000 in
set_option maxRecDepth 100000 in
theorem s_X9_undo (o_me : Ob) (hI_me : IvX9 o_me)  : wp (f_X9_undo   o_me) (fun (y : Int32 × Ob) => ((-6) ≤ y.1.toInt ∧ y.1.toInt ≤ 2147483647) ∧ IvX9 y.2 ∧ Kp [13, 14, 15, 16, 19, 20, 21, 23, 26, 29, 34, 38, 43, 59, 62] [7, 10, 12, 22, 24, 25, 27, 28, 42, 48, 50, 51, 55] [(3, (0 : Int32))] o_me y.2) := by
  have li0 : (-3 : Int32).toInt = (-3) := by decide
  have li1 : (0 : Int32).toInt = 0 := by decide
  have li2 : (1 : Int32).toInt = 1 := by decide
  unfold f_X9_undo
  refine wp_lt (fun o1 eo1 => ?_)
  have hIo1 : IvX9 o1 := by rw [eo1]; exact hI_me
  have ko1_v : (gI o1 0).toInt = 0 := by rw [eo1]; exact (show ((0 : Int32)).toInt = _ from by decide)
  have hkpo1 : Kp [13, 14, 15, 16, 19, 20, 21, 23, 26, 29, 34, 38, 43, 59, 62] [7, 10, 12, 22, 24, 25, 27, 28, 42, 48, 50, 51, 55] [(3, (0 : Int32))] o_me o1 := Kp.rf.trans (by rw [eo1]; exact Kp.sI (by decide))
  have t2 := igX9_8 hIo1
  refine wp_if (fun c3 => ?_) (fun c3 => ?_)
  · have c3 := cv_eq (a := (gI o1 8).toInt) (b := 0) rfl (by decide) c3
    refine wp_bd (s_X9_tell   o1 (-3 : Int32)  hIo1  ⟨by decide, by decide⟩) (fun z4 hz4 => ?_)
    obtain ⟨hz4_0, hz4_1, hz4_2⟩ := hz4
    have hkpz4_me : Kp [13, 14, 15, 16, 19, 20, 21, 23, 26, 29, 34, 38, 43, 59, 62] [7, 10, 12, 22, 24, 25, 27, 28, 42, 48, 50, 51, 55] [(3, (0 : Int32))] o_me z4.2 := hkpo1.trans (hz4_2.mono (by decide) (by decide) (by decide))
    have kz4_k5 : (gI z4.2 8).toInt = (gI o1 8).toInt := congrArg Int32.toInt (hz4_2.1 8 (by decide))
    refine wp_some ?_
    have rg6 := i32_rg z4.1
    exact (show ((-6) ≤ z4.1.toInt ∧ z4.1.toInt ≤ 2147483647) ∧ IvX9 z4.2 ∧ Kp [13, 14, 15, 16, 19, 20, 21, 23, 26, 29, 34, 38, 43, 59, 62] [7, 10, 12, 22, 24, 25, 27, 28, 42, 48, 50, 51, 55] [(3, (0 : Int32))] o_me z4.2 from ⟨⟨by omega, by omega⟩, hz4_1, hkpz4_me⟩)
  · have c3z := c3
    have c3 := cv_ne (a := (gI o1 8).toInt) (b := 0) rfl (by decide) c3
    have t7 : ((gI o1 8) - (1 : Int32)).toInt = (gI o1 8).toInt - 1 := i32_sub rfl (by decide) (by omega) (by omega)
    refine wp_lt (fun o8 eo8 => ?_)
    have hIo8 : IvX9 o8 := by rw [eo8]; exact ipX9_8 hIo1 ⟨by omega, by omega⟩
    have ko8_k9 : (gI o8 0).toInt = (gI o1 0).toInt := by rw [eo8]; rfl
    have ko8_v : (gI o8 8).toInt = ((gI o1 8) - (1 : Int32)).toInt := by rw [eo8]; rfl
    have hkpo8 : Kp [13, 14, 15, 16, 19, 20, 21, 23, 26, 29, 34, 38, 43, 59, 62] [7, 10, 12, 22, 24, 25, 27, 28, 42, 48, 50, 51, 55] [(3, (0 : Int32))] o_me o8 := hkpo1.trans (by rw [eo8]; exact Kp.sI (by decide))
    refine wp_bd (s_X9_putBack   o8 (gI o8 8)  hIo8  ⟨by omega, by omega⟩) (fun z10 hz10 => ?_)
    obtain ⟨hz10_0, hz10_1⟩ := hz10
    have hkpz10_me : Kp [13, 14, 15, 16, 19, 20, 21, 23, 26, 29, 34, 38, 43, 59, 62] [7, 10, 12, 22, 24, 25, 27, 28, 42, 48, 50, 51, 55] [(3, (0 : Int32))] o_me z10 := hkpo8.trans (hz10_1.mono (by decide) (by decide) (by decide))
    have kz10_k11 : (gI z10 8).toInt = (gI o8 8).toInt := congrArg Int32.toInt (hz10_1.1 8 (by decide))
    refine wp_gd (zin_of (m := 16) rfl (by omega) (by omega)) ?_
    have t12 := iaX9_7_0 hz10_0 (j := gI z10 8) (by omega) (by omega)
    have rg14 := i32_rg (gA z10 7 (gI z10 8).toNatClampNeg)
    refine wp_bd (s_X9_tell   z10 (gA z10 7 (gI z10 8).toNatClampNeg)  hz10_0  ⟨by omega, by omega⟩) (fun z13 hz13 => ?_)
    obtain ⟨hz13_0, hz13_1, hz13_2⟩ := hz13
    have hkpz13_me : Kp [13, 14, 15, 16, 19, 20, 21, 23, 26, 29, 34, 38, 43, 59, 62] [7, 10, 12, 22, 24, 25, 27, 28, 42, 48, 50, 51, 55] [(3, (0 : Int32))] o_me z13.2 := hkpz10_me.trans (hz13_2.mono (by decide) (by decide) (by decide))
    have kz13_k15 : (gA z13.2 7 (gI z10 8).toNatClampNeg).toInt = (gA z10 7 (gI z10 8).toNatClampNeg).toInt := congrArg (fun g => (g (gI z10 8).toNatClampNeg).toInt) (hz13_2.2.1 7 (by decide))
    have kz13_k16 : (gI z13.2 8).toInt = (gI z10 8).toInt := congrArg Int32.toInt (hz13_2.1 8 (by decide))
    refine wp_some ?_
    have rg17 := i32_rg z13.1
    exact (show ((-6) ≤ z13.1.toInt ∧ z13.1.toInt ≤ 2147483647) ∧ IvX9 z13.2 ∧ Kp [13, 14, 15, 16, 19, 20, 21, 23, 26, 29, 34, 38, 43, 59, 62] [7, 10, 12, 22, 24, 25, 27, 28, 42, 48, 50, 51, 55] [(3, (0 : Int32))] o_me z13.2 from ⟨⟨by omega, by omega⟩, hz13_1, hkpz13_me⟩)

set_option maxHeartbeats 4000000 in
set_option maxRecDepth 100000 in
theorem s_X2_isPerson {pl : List CR} (o_me : Ob) (p0 : Int32) (hI_me : IvX2 pl o_me)  : wp (f_X2_isPerson   o_me p0) (fun (y : Int32) => (0 ≤ y.toInt ∧ y.toInt ≤ 1) ∧ (¬ y = 0 → (0 ≤ p0.toInt ∧ p0.toInt ≤ 6) ∧ (p0.toInt ≤ (gI o_me 7).toInt + (-1)))) := by
  have li0 : (0 : Int32).toInt = 0 := by decide
  have li1 : (1 : Int32).toInt = 1 := by decide
  unfold f_X2_isPerson
  refine wp_if (fun c1 => ?_) (fun c1 => ?_)
  · have c1 := cv_lt (a := p0.toInt) (b := 0) rfl (by decide) c1
    refine wp_some ?_
    exact (show (0 ≤ (0 : Int32).toInt ∧ (0 : Int32).toInt ≤ 1) ∧ (¬ (0 : Int32) = 0 → (0 ≤ p0.toInt ∧ p0.toInt ≤ 6) ∧ (p0.toInt ≤ (gI o_me 7).toInt + (-1))) from ⟨⟨by decide, by decide⟩, (fun h9 => absurd rfl h9)⟩)
  · have c1 := cv_nlt (a := p0.toInt) (b := 0) rfl (by decide) c1
    have t2 := igX2_7 hI_me
    have rg4 := i32_rg p0
    refine wp_if (fun c3 => ?_) (fun c3 => ?_)
    · have c3 := cv_ge (a := p0.toInt) (b := (gI o_me 7).toInt) rfl rfl c3
      refine wp_some ?_
      exact (show (0 ≤ (0 : Int32).toInt ∧ (0 : Int32).toInt ≤ 1) ∧ (¬ (0 : Int32) = 0 → (0 ≤ p0.toInt ∧ p0.toInt ≤ 6) ∧ (p0.toInt ≤ (gI o_me 7).toInt + (-1))) from ⟨⟨by decide, by decide⟩, (fun h9 => absurd rfl h9)⟩)
    · have c3 := cv_nge (a := p0.toInt) (b := (gI o_me 7).toInt) rfl rfl c3
      refine wp_some ?_
      exact (show (0 ≤ (1 : Int32).toInt ∧ (1 : Int32).toInt ≤ 1) ∧ (¬ (1 : Int32) = 0 → (0 ≤ p0.toInt ∧ p0.toInt ≤ 6) ∧ (p0.toInt ≤ (gI o_me 7).toInt + (-1))) from ⟨⟨by decide, by decide⟩, (fun h9 => ⟨⟨by omega, by omega⟩, by omega⟩)⟩)

set_option maxHeartbeats 4000000 in
set_option maxRecDepth 100000 in
theorem s_X8_isRace (p0 : Int32)   : wp (f_X8_isRace   p0) (fun (y : Int32) => (0 ≤ y.toInt ∧ y.toInt ≤ 1) ∧ (¬ y = 0 → (0 ≤ p0.toInt ∧ p0.toInt ≤ 3))) := by
  have li0 : (0 : Int32).toInt = 0 := by decide
  have li1 : (1 : Int32).toInt = 1 := by decide
  have li2 : (4 : Int32).toInt = 4 := by decide
  unfold f_X8_isRace
  refine wp_if (fun c1 => ?_) (fun c1 => ?_)
  · have c1 := cv_lt (a := p0.toInt) (b := 0) rfl (by decide) c1
    refine wp_some ?_
    exact (show (0 ≤ (0 : Int32).toInt ∧ (0 : Int32).toInt ≤ 1) ∧ (¬ (0 : Int32) = 0 → (0 ≤ p0.toInt ∧ p0.toInt ≤ 3)) from ⟨⟨by decide, by decide⟩, (fun h9 => absurd rfl h9)⟩)
  · have c1 := cv_nlt (a := p0.toInt) (b := 0) rfl (by decide) c1
    refine wp_if (fun c2 => ?_) (fun c2 => ?_)
    · have c2 := cv_ge (a := p0.toInt) (b := 4) rfl (by decide) c2
      refine wp_some ?_
      exact (show (0 ≤ (0 : Int32).toInt ∧ (0 : Int32).toInt ≤ 1) ∧ (¬ (0 : Int32) = 0 → (0 ≤ p0.toInt ∧ p0.toInt ≤ 3)) from ⟨⟨by decide, by decide⟩, (fun h9 => absurd rfl h9)⟩)
    · have c2 := cv_nge (a := p0.toInt) (b := 4) rfl (by decide) c2
      refine wp_some ?_
      exact (show (0 ≤ (1 : Int32).toInt ∧ (1 : Int32).toInt ≤ 1) ∧ (¬ (1 : Int32) = 0 → (0 ≤ p0.toInt ∧ p0.toInt ≤ 3)) from ⟨⟨by decide, by decide⟩, (fun h9 => ⟨by omega, by omega⟩)⟩)

set_option maxHeartbeats 4000000 in
set_option maxRecDepth 100000 in
theorem s_X2_isLaw {pl : List CR} (o_me : Ob) (p0 : Int32) (hI_me : IvX2 pl o_me)  : wp (f_X2_isLaw   o_me p0) (fun (y : Int32) => (0 ≤ y.toInt ∧ y.toInt ≤ 1) ∧ (¬ y = 0 → (0 ≤ p0.toInt ∧ p0.toInt ≤ 5) ∧ (p0.toInt ≤ (gI o_me 9).toInt + (-1)))) := by
  have li0 : (0 : Int32).toInt = 0 := by decide
  have li1 : (1 : Int32).toInt = 1 := by decide
  unfold f_X2_isLaw
  refine wp_if (fun c1 => ?_) (fun c1 => ?_)
  · have c1 := cv_lt (a := p0.toInt) (b := 0) rfl (by decide) c1
    refine wp_some ?_
    exact (show (0 ≤ (0 : Int32).toInt ∧ (0 : Int32).toInt ≤ 1) ∧ (¬ (0 : Int32) = 0 → (0 ≤ p0.toInt ∧ p0.toInt ≤ 5) ∧ (p0.toInt ≤ (gI o_me 9).toInt + (-1))) from ⟨⟨by decide, by decide⟩, (fun h9 => absurd rfl h9)⟩)
  · have c1 := cv_nlt (a := p0.toInt) (b := 0) rfl (by decide) c1
    have t2 := igX2_9 hI_me
    have rg4 := i32_rg p0
    refine wp_if (fun c3 => ?_) (fun c3 => ?_)
    · have c3 := cv_ge (a := p0.toInt) (b := (gI o_me 9).toInt) rfl rfl c3
      refine wp_some ?_
      exact (show (0 ≤ (0 : Int32).toInt ∧ (0 : Int32).toInt ≤ 1) ∧ (¬ (0 : Int32) = 0 → (0 ≤ p0.toInt ∧ p0.toInt ≤ 5) ∧ (p0.toInt ≤ (gI o_me 9).toInt + (-1))) from ⟨⟨by decide, by decide⟩, (fun h9 => absurd rfl h9)⟩)
    · have c3 := cv_nge (a := p0.toInt) (b := (gI o_me 9).toInt) rfl rfl c3
      refine wp_some ?_
      exact (show (0 ≤ (1 : Int32).toInt ∧ (1 : Int32).toInt ≤ 1) ∧ (¬ (1 : Int32) = 0 → (0 ≤ p0.toInt ∧ p0.toInt ≤ 5) ∧ (p0.toInt ≤ (gI o_me 9).toInt + (-1))) from ⟨⟨by decide, by decide⟩, (fun h9 => ⟨⟨by omega, by omega⟩, by omega⟩)⟩)

set_option maxHeartbeats 4000000 in
set_option maxRecDepth 100000 in
theorem s_X2_lawAt {pl : List CR} (o_me : Ob) (p0 : Int32) (hI_me : IvX2 pl o_me)  : wp (f_X2_lawAt   o_me p0) (fun (y : Option Nat) => zpo pl y = true) := by
  unfold f_X2_lawAt
  refine wp_bd (s_X2_isLaw   o_me p0  hI_me  ) (fun z1 hz1 => ?_)
  obtain ⟨hz1_0, hz1_1⟩ := hz1
  refine wp_if (fun c2 => ?_) (fun c2 => ?_)
  · have c2 := cv_eq (a := z1.toInt) (b := 0) rfl (by decide) c2
    refine wp_some ?_
    exact (show zpo pl none = true from rfl)
  · have c2z := c2
    have c2i := hz1_1 c2
    have c2 := cv_ne (a := z1.toInt) (b := 0) rfl (by decide) c2
    refine wp_gd (zin_of (m := 6) rfl (by omega) (by omega)) ?_
    have po3 := irX2 hI_me (j := p0) (by omega) (by omega)
    refine wp_some ?_
    exact (show zpo pl (gR o_me 6 p0.toNatClampNeg) = true from po3)

set_option maxHeartbeats 4000000 in
set_option maxRecDepth 100000 in
theorem s_X2_lawInForce {pl : List CR} (o_me : Ob) (hI_me : IvX2 pl o_me)  : wp (f_X2_lawInForce   o_me) (fun (y : Option Nat) => zpo pl y = true) := by
  unfold f_X2_lawInForce
  have t1 := igX2_10 hI_me
  refine wp_bd (s_X2_lawAt   o_me (gI o_me 10)  hI_me  ) (fun z2 hz2 => ?_)
  have hz2_0 := hz2
  refine wp_some ?_
  exact (show zpo pl z2 = true from hz2_0)

set_option maxHeartbeats 4000000 in
set_option maxRecDepth 100000 in
theorem s_X1_told_N (o_me : Ob) (p1 : Int32) (p2 : Int32) (p3 : Int32) (p4 : Int32) (hI_me : IvX1 o_me)  : wp (f_X1_told_N   o_me p1 p2 p3 p4) (fun (y : Int64) => ((-9000000000000000000) ≤ y.toInt ∧ y.toInt ≤ (-9000000000000000000))) := by
  have li0 : (-9000000000000000000 : Int64).toInt = (-9000000000000000000) := by decide
  unfold f_X1_told_N
  refine wp_some ?_
  exact (show ((-9000000000000000000) ≤ (-9000000000000000000 : Int64).toInt ∧ (-9000000000000000000 : Int64).toInt ≤ (-9000000000000000000)) from ⟨by decide, by decide⟩)

set_option maxHeartbeats 4000000 in
set_option maxRecDepth 100000 in
theorem s_X3_setLawWords_O {pl : List CR} (o_me : Ob) (o_a0 : Ob) (o_a0_now : Ob) (p1 : Int32) (p2 : Int32) (p3 : Int32) (hI_me : IvX3 o_me) (hI_a0 : IvX2 pl o_a0) (hI_a0_now : IvX4 o_a0_now) (q0 : 0 ≤ p1.toInt ∧ p1.toInt ≤ 6) (q1 : 0 ≤ p2.toInt ∧ p2.toInt ≤ 3) : wp (f_X3_setLawWords_O   o_me o_a0 o_a0_now p1 p2 p3) (fun (y : Ob) => IvX3 y ∧ Kp [] [] [] o_me y) := by
  have li0 : (0 : Int32).toInt = 0 := by decide
  have li1 : (1 : Int32).toInt = 1 := by decide
  have li2 : (2 : Int32).toInt = 2 := by decide
  have li3 : (3 : Int32).toInt = 3 := by decide
  have li4 : (4 : Int32).toInt = 4 := by decide
  have li5 : (5 : Int32).toInt = 5 := by decide
  have li6 : (6 : Int32).toInt = 6 := by decide
  have li7 : (7 : Int32).toInt = 7 := by decide
  have li8 : (8 : Int32).toInt = 8 := by decide
  unfold f_X3_setLawWords_O
  refine wp_lt (fun o1 eo1 => ?_)
  have hIo1 : IvX3 o1 := by rw [eo1]; exact hI_me
  have ko1_v : (gA o1 0 (0 : Int32).toNatClampNeg).toInt = p1.toInt := by rw [eo1]; exact congrArg Int32.toInt (upd_eq (g := gA o_me 0) (i := (0 : Int32)) (v := p1))
  have hkpo1 : Kp [] [] [] o_me o1 := Kp.rf.trans (by rw [eo1]; exact Kp.tA (by decide) (by decide))
  refine wp_lt (fun o2 eo2 => ?_)
  have hIo2 : IvX3 o2 := by rw [eo2]; exact hIo1
  have ko2_k3 : (gA o2 0 (0 : Int32).toNatClampNeg).toInt = (gA o1 0 (0 : Int32).toNatClampNeg).toInt := by rw [eo2]; exact congrArg Int32.toInt (upd_ne (g := gA o1 0) (i := (1 : Int32)) (j := (0 : Int32)) (v := p2) (by decide) (by decide) (by decide))
  have ko2_v : (gA o2 0 (1 : Int32).toNatClampNeg).toInt = p2.toInt := by rw [eo2]; exact congrArg Int32.toInt (upd_eq (g := gA o1 0) (i := (1 : Int32)) (v := p2))
  have hkpo2 : Kp [] [] [] o_me o2 := hkpo1.trans (by rw [eo2]; exact Kp.tA (by decide) (by decide))
  have t4 : (p1 * (4 : Int32)).toInt = p1.toInt * 4 := i32_mul rfl (by decide) (by omega) (by omega)
  have t5 : ((p1 * (4 : Int32)) + p2).toInt = (p1 * (4 : Int32)).toInt + p2.toInt := i32_add rfl rfl (by omega) (by omega)
  refine wp_gd (zin_of (m := 28) rfl (by omega) (by omega)) ?_
  refine wp_lt (fun o6 eo6 => ?_)
  have hIo6 : IvX3 o6 := by rw [eo6]; exact hIo2
  have ko6_k7 : (gA o6 0 (0 : Int32).toNatClampNeg).toInt = (gA o2 0 (0 : Int32).toNatClampNeg).toInt := by rw [eo6]; exact congrArg Int32.toInt (upd_ne (g := gA o2 0) (i := (2 : Int32)) (j := (0 : Int32)) (v := (gA o_a0 2 ((p1 * (4 : Int32)) + p2).toNatClampNeg)) (by decide) (by decide) (by decide))
  have ko6_k8 : (gA o6 0 (1 : Int32).toNatClampNeg).toInt = (gA o2 0 (1 : Int32).toNatClampNeg).toInt := by rw [eo6]; exact congrArg Int32.toInt (upd_ne (g := gA o2 0) (i := (2 : Int32)) (j := (1 : Int32)) (v := (gA o_a0 2 ((p1 * (4 : Int32)) + p2).toNatClampNeg)) (by decide) (by decide) (by decide))
  have ko6_v : (gA o6 0 (2 : Int32).toNatClampNeg).toInt = (gA o_a0 2 ((p1 * (4 : Int32)) + p2).toNatClampNeg).toInt := by rw [eo6]; exact congrArg Int32.toInt (upd_eq (g := gA o2 0) (i := (2 : Int32)) (v := (gA o_a0 2 ((p1 * (4 : Int32)) + p2).toNatClampNeg)))
  have hkpo6 : Kp [] [] [] o_me o6 := hkpo2.trans (by rw [eo6]; exact Kp.tA (by decide) (by decide))
  refine wp_gd (zin_of (m := 7) rfl (by omega) (by omega)) ?_
  have t9 := iaX4_0_0 hI_a0_now (j := p1) (by omega) (by omega)
  refine wp_lt (fun o10 eo10 => ?_)
  have hIo10 : IvX3 o10 := by rw [eo10]; exact hIo6
  have ko10_k11 : (gA o10 0 (0 : Int32).toNatClampNeg).toInt = (gA o6 0 (0 : Int32).toNatClampNeg).toInt := by rw [eo10]; exact congrArg Int32.toInt (upd_ne (g := gA o6 0) (i := (3 : Int32)) (j := (0 : Int32)) (v := (gA o_a0_now 0 p1.toNatClampNeg)) (by decide) (by decide) (by decide))
  have ko10_k12 : (gA o10 0 (1 : Int32).toNatClampNeg).toInt = (gA o6 0 (1 : Int32).toNatClampNeg).toInt := by rw [eo10]; exact congrArg Int32.toInt (upd_ne (g := gA o6 0) (i := (3 : Int32)) (j := (1 : Int32)) (v := (gA o_a0_now 0 p1.toNatClampNeg)) (by decide) (by decide) (by decide))
  have ko10_k13 : (gA o10 0 (2 : Int32).toNatClampNeg).toInt = (gA o6 0 (2 : Int32).toNatClampNeg).toInt := by rw [eo10]; exact congrArg Int32.toInt (upd_ne (g := gA o6 0) (i := (3 : Int32)) (j := (2 : Int32)) (v := (gA o_a0_now 0 p1.toNatClampNeg)) (by decide) (by decide) (by decide))
  have ko10_v : (gA o10 0 (3 : Int32).toNatClampNeg).toInt = (gA o_a0_now 0 p1.toNatClampNeg).toInt := by rw [eo10]; exact congrArg Int32.toInt (upd_eq (g := gA o6 0) (i := (3 : Int32)) (v := (gA o_a0_now 0 p1.toNatClampNeg)))
  have hkpo10 : Kp [] [] [] o_me o10 := hkpo6.trans (by rw [eo10]; exact Kp.tA (by decide) (by decide))
  refine wp_gd (zin_of (m := 7) rfl (by omega) (by omega)) ?_
  refine wp_lt (fun o14 eo14 => ?_)
  have hIo14 : IvX3 o14 := by rw [eo14]; exact hIo10
  have ko14_k15 : (gA o14 0 (0 : Int32).toNatClampNeg).toInt = (gA o10 0 (0 : Int32).toNatClampNeg).toInt := by rw [eo14]; exact congrArg Int32.toInt (upd_ne (g := gA o10 0) (i := (4 : Int32)) (j := (0 : Int32)) (v := (gA o_a0_now 1 p1.toNatClampNeg)) (by decide) (by decide) (by decide))
  have ko14_k16 : (gA o14 0 (1 : Int32).toNatClampNeg).toInt = (gA o10 0 (1 : Int32).toNatClampNeg).toInt := by rw [eo14]; exact congrArg Int32.toInt (upd_ne (g := gA o10 0) (i := (4 : Int32)) (j := (1 : Int32)) (v := (gA o_a0_now 1 p1.toNatClampNeg)) (by decide) (by decide) (by decide))
  have ko14_k17 : (gA o14 0 (2 : Int32).toNatClampNeg).toInt = (gA o10 0 (2 : Int32).toNatClampNeg).toInt := by rw [eo14]; exact congrArg Int32.toInt (upd_ne (g := gA o10 0) (i := (4 : Int32)) (j := (2 : Int32)) (v := (gA o_a0_now 1 p1.toNatClampNeg)) (by decide) (by decide) (by decide))
  have ko14_k18 : (gA o14 0 (3 : Int32).toNatClampNeg).toInt = (gA o10 0 (3 : Int32).toNatClampNeg).toInt := by rw [eo14]; exact congrArg Int32.toInt (upd_ne (g := gA o10 0) (i := (4 : Int32)) (j := (3 : Int32)) (v := (gA o_a0_now 1 p1.toNatClampNeg)) (by decide) (by decide) (by decide))
  have ko14_v : (gA o14 0 (4 : Int32).toNatClampNeg).toInt = (gA o_a0_now 1 p1.toNatClampNeg).toInt := by rw [eo14]; exact congrArg Int32.toInt (upd_eq (g := gA o10 0) (i := (4 : Int32)) (v := (gA o_a0_now 1 p1.toNatClampNeg)))
  have hkpo14 : Kp [] [] [] o_me o14 := hkpo10.trans (by rw [eo14]; exact Kp.tA (by decide) (by decide))
  refine wp_lt (fun o19 eo19 => ?_)
  have hIo19 : IvX3 o19 := by rw [eo19]; exact hIo14
  have ko19_k20 : (gA o19 0 (0 : Int32).toNatClampNeg).toInt = (gA o14 0 (0 : Int32).toNatClampNeg).toInt := by rw [eo19]; exact congrArg Int32.toInt (upd_ne (g := gA o14 0) (i := (5 : Int32)) (j := (0 : Int32)) (v := p3) (by decide) (by decide) (by decide))
  have ko19_k21 : (gA o19 0 (1 : Int32).toNatClampNeg).toInt = (gA o14 0 (1 : Int32).toNatClampNeg).toInt := by rw [eo19]; exact congrArg Int32.toInt (upd_ne (g := gA o14 0) (i := (5 : Int32)) (j := (1 : Int32)) (v := p3) (by decide) (by decide) (by decide))
  have ko19_k22 : (gA o19 0 (2 : Int32).toNatClampNeg).toInt = (gA o14 0 (2 : Int32).toNatClampNeg).toInt := by rw [eo19]; exact congrArg Int32.toInt (upd_ne (g := gA o14 0) (i := (5 : Int32)) (j := (2 : Int32)) (v := p3) (by decide) (by decide) (by decide))
  have ko19_k23 : (gA o19 0 (3 : Int32).toNatClampNeg).toInt = (gA o14 0 (3 : Int32).toNatClampNeg).toInt := by rw [eo19]; exact congrArg Int32.toInt (upd_ne (g := gA o14 0) (i := (5 : Int32)) (j := (3 : Int32)) (v := p3) (by decide) (by decide) (by decide))
  have ko19_k24 : (gA o19 0 (4 : Int32).toNatClampNeg).toInt = (gA o14 0 (4 : Int32).toNatClampNeg).toInt := by rw [eo19]; exact congrArg Int32.toInt (upd_ne (g := gA o14 0) (i := (5 : Int32)) (j := (4 : Int32)) (v := p3) (by decide) (by decide) (by decide))
  have ko19_v : (gA o19 0 (5 : Int32).toNatClampNeg).toInt = p3.toInt := by rw [eo19]; exact congrArg Int32.toInt (upd_eq (g := gA o14 0) (i := (5 : Int32)) (v := p3))
  have hkpo19 : Kp [] [] [] o_me o19 := hkpo14.trans (by rw [eo19]; exact Kp.tA (by decide) (by decide))
  refine wp_lt (fun o25 eo25 => ?_)
  have hIo25 : IvX3 o25 := by rw [eo25]; exact hIo19
  have ko25_k26 : (gA o25 0 (0 : Int32).toNatClampNeg).toInt = (gA o19 0 (0 : Int32).toNatClampNeg).toInt := by rw [eo25]; exact congrArg Int32.toInt (upd_ne (g := gA o19 0) (i := (6 : Int32)) (j := (0 : Int32)) (v := (gI o_a0_now 3)) (by decide) (by decide) (by decide))
  have ko25_k27 : (gA o25 0 (1 : Int32).toNatClampNeg).toInt = (gA o19 0 (1 : Int32).toNatClampNeg).toInt := by rw [eo25]; exact congrArg Int32.toInt (upd_ne (g := gA o19 0) (i := (6 : Int32)) (j := (1 : Int32)) (v := (gI o_a0_now 3)) (by decide) (by decide) (by decide))
  have ko25_k28 : (gA o25 0 (2 : Int32).toNatClampNeg).toInt = (gA o19 0 (2 : Int32).toNatClampNeg).toInt := by rw [eo25]; exact congrArg Int32.toInt (upd_ne (g := gA o19 0) (i := (6 : Int32)) (j := (2 : Int32)) (v := (gI o_a0_now 3)) (by decide) (by decide) (by decide))
  have ko25_k29 : (gA o25 0 (3 : Int32).toNatClampNeg).toInt = (gA o19 0 (3 : Int32).toNatClampNeg).toInt := by rw [eo25]; exact congrArg Int32.toInt (upd_ne (g := gA o19 0) (i := (6 : Int32)) (j := (3 : Int32)) (v := (gI o_a0_now 3)) (by decide) (by decide) (by decide))
  have ko25_k30 : (gA o25 0 (4 : Int32).toNatClampNeg).toInt = (gA o19 0 (4 : Int32).toNatClampNeg).toInt := by rw [eo25]; exact congrArg Int32.toInt (upd_ne (g := gA o19 0) (i := (6 : Int32)) (j := (4 : Int32)) (v := (gI o_a0_now 3)) (by decide) (by decide) (by decide))
  have ko25_k31 : (gA o25 0 (5 : Int32).toNatClampNeg).toInt = (gA o19 0 (5 : Int32).toNatClampNeg).toInt := by rw [eo25]; exact congrArg Int32.toInt (upd_ne (g := gA o19 0) (i := (6 : Int32)) (j := (5 : Int32)) (v := (gI o_a0_now 3)) (by decide) (by decide) (by decide))
  have ko25_v : (gA o25 0 (6 : Int32).toNatClampNeg).toInt = (gI o_a0_now 3).toInt := by rw [eo25]; exact congrArg Int32.toInt (upd_eq (g := gA o19 0) (i := (6 : Int32)) (v := (gI o_a0_now 3)))
  have hkpo25 : Kp [] [] [] o_me o25 := hkpo19.trans (by rw [eo25]; exact Kp.tA (by decide) (by decide))
  refine wp_lt (fun o32 eo32 => ?_)
  have hIo32 : IvX3 o32 := by rw [eo32]; exact hIo25
  have ko32_k33 : (gA o32 0 (0 : Int32).toNatClampNeg).toInt = (gA o25 0 (0 : Int32).toNatClampNeg).toInt := by rw [eo32]; exact congrArg Int32.toInt (upd_ne (g := gA o25 0) (i := (7 : Int32)) (j := (0 : Int32)) (v := (gI o_a0_now 4)) (by decide) (by decide) (by decide))
  have ko32_k34 : (gA o32 0 (1 : Int32).toNatClampNeg).toInt = (gA o25 0 (1 : Int32).toNatClampNeg).toInt := by rw [eo32]; exact congrArg Int32.toInt (upd_ne (g := gA o25 0) (i := (7 : Int32)) (j := (1 : Int32)) (v := (gI o_a0_now 4)) (by decide) (by decide) (by decide))
  have ko32_k35 : (gA o32 0 (2 : Int32).toNatClampNeg).toInt = (gA o25 0 (2 : Int32).toNatClampNeg).toInt := by rw [eo32]; exact congrArg Int32.toInt (upd_ne (g := gA o25 0) (i := (7 : Int32)) (j := (2 : Int32)) (v := (gI o_a0_now 4)) (by decide) (by decide) (by decide))
  have ko32_k36 : (gA o32 0 (3 : Int32).toNatClampNeg).toInt = (gA o25 0 (3 : Int32).toNatClampNeg).toInt := by rw [eo32]; exact congrArg Int32.toInt (upd_ne (g := gA o25 0) (i := (7 : Int32)) (j := (3 : Int32)) (v := (gI o_a0_now 4)) (by decide) (by decide) (by decide))
  have ko32_k37 : (gA o32 0 (4 : Int32).toNatClampNeg).toInt = (gA o25 0 (4 : Int32).toNatClampNeg).toInt := by rw [eo32]; exact congrArg Int32.toInt (upd_ne (g := gA o25 0) (i := (7 : Int32)) (j := (4 : Int32)) (v := (gI o_a0_now 4)) (by decide) (by decide) (by decide))
  have ko32_k38 : (gA o32 0 (5 : Int32).toNatClampNeg).toInt = (gA o25 0 (5 : Int32).toNatClampNeg).toInt := by rw [eo32]; exact congrArg Int32.toInt (upd_ne (g := gA o25 0) (i := (7 : Int32)) (j := (5 : Int32)) (v := (gI o_a0_now 4)) (by decide) (by decide) (by decide))
  have ko32_k39 : (gA o32 0 (6 : Int32).toNatClampNeg).toInt = (gA o25 0 (6 : Int32).toNatClampNeg).toInt := by rw [eo32]; exact congrArg Int32.toInt (upd_ne (g := gA o25 0) (i := (7 : Int32)) (j := (6 : Int32)) (v := (gI o_a0_now 4)) (by decide) (by decide) (by decide))
  have ko32_v : (gA o32 0 (7 : Int32).toNatClampNeg).toInt = (gI o_a0_now 4).toInt := by rw [eo32]; exact congrArg Int32.toInt (upd_eq (g := gA o25 0) (i := (7 : Int32)) (v := (gI o_a0_now 4)))
  have hkpo32 : Kp [] [] [] o_me o32 := hkpo25.trans (by rw [eo32]; exact Kp.tA (by decide) (by decide))
  refine wp_lt (fun o40 eo40 => ?_)
  have hIo40 : IvX3 o40 := by rw [eo40]; exact hIo32
  have ko40_k41 : (gA o40 0 (0 : Int32).toNatClampNeg).toInt = (gA o32 0 (0 : Int32).toNatClampNeg).toInt := by rw [eo40]; exact congrArg Int32.toInt (upd_ne (g := gA o32 0) (i := (8 : Int32)) (j := (0 : Int32)) (v := (gI o_a0 12)) (by decide) (by decide) (by decide))
  have ko40_k42 : (gA o40 0 (1 : Int32).toNatClampNeg).toInt = (gA o32 0 (1 : Int32).toNatClampNeg).toInt := by rw [eo40]; exact congrArg Int32.toInt (upd_ne (g := gA o32 0) (i := (8 : Int32)) (j := (1 : Int32)) (v := (gI o_a0 12)) (by decide) (by decide) (by decide))
  have ko40_k43 : (gA o40 0 (2 : Int32).toNatClampNeg).toInt = (gA o32 0 (2 : Int32).toNatClampNeg).toInt := by rw [eo40]; exact congrArg Int32.toInt (upd_ne (g := gA o32 0) (i := (8 : Int32)) (j := (2 : Int32)) (v := (gI o_a0 12)) (by decide) (by decide) (by decide))
  have ko40_k44 : (gA o40 0 (3 : Int32).toNatClampNeg).toInt = (gA o32 0 (3 : Int32).toNatClampNeg).toInt := by rw [eo40]; exact congrArg Int32.toInt (upd_ne (g := gA o32 0) (i := (8 : Int32)) (j := (3 : Int32)) (v := (gI o_a0 12)) (by decide) (by decide) (by decide))
  have ko40_k45 : (gA o40 0 (4 : Int32).toNatClampNeg).toInt = (gA o32 0 (4 : Int32).toNatClampNeg).toInt := by rw [eo40]; exact congrArg Int32.toInt (upd_ne (g := gA o32 0) (i := (8 : Int32)) (j := (4 : Int32)) (v := (gI o_a0 12)) (by decide) (by decide) (by decide))
  have ko40_k46 : (gA o40 0 (5 : Int32).toNatClampNeg).toInt = (gA o32 0 (5 : Int32).toNatClampNeg).toInt := by rw [eo40]; exact congrArg Int32.toInt (upd_ne (g := gA o32 0) (i := (8 : Int32)) (j := (5 : Int32)) (v := (gI o_a0 12)) (by decide) (by decide) (by decide))
  have ko40_k47 : (gA o40 0 (6 : Int32).toNatClampNeg).toInt = (gA o32 0 (6 : Int32).toNatClampNeg).toInt := by rw [eo40]; exact congrArg Int32.toInt (upd_ne (g := gA o32 0) (i := (8 : Int32)) (j := (6 : Int32)) (v := (gI o_a0 12)) (by decide) (by decide) (by decide))
  have ko40_k48 : (gA o40 0 (7 : Int32).toNatClampNeg).toInt = (gA o32 0 (7 : Int32).toNatClampNeg).toInt := by rw [eo40]; exact congrArg Int32.toInt (upd_ne (g := gA o32 0) (i := (8 : Int32)) (j := (7 : Int32)) (v := (gI o_a0 12)) (by decide) (by decide) (by decide))
  have ko40_v : (gA o40 0 (8 : Int32).toNatClampNeg).toInt = (gI o_a0 12).toInt := by rw [eo40]; exact congrArg Int32.toInt (upd_eq (g := gA o32 0) (i := (8 : Int32)) (v := (gI o_a0 12)))
  have hkpo40 : Kp [] [] [] o_me o40 := hkpo32.trans (by rw [eo40]; exact Kp.tA (by decide) (by decide))
  refine wp_some ?_
  exact (show IvX3 o40 ∧ Kp [] [] [] o_me o40 from ⟨hIo40, hkpo40⟩)

set_option maxHeartbeats 4000000 in
set_option maxRecDepth 100000 in
theorem s_X3_wordWorth (o_me : Ob) (p0 : Int32) (hI_me : IvX3 o_me)  : wp (f_X3_wordWorth   o_me p0) (fun (y : Int64) => ((-9000000000000000000) ≤ y.toInt ∧ y.toInt ≤ 2147483647)) := by
  have li0 : (-9000000000000000000 : Int64).toInt = (-9000000000000000000) := by decide
  have li1 : (19 : Int32).toInt = 19 := by decide
  unfold f_X3_wordWorth
  refine wp_if (fun c1 => ?_) (fun c1 => ?_)
  · have c1 := cv_lt (a := p0.toInt) (b := 0) rfl (by decide) c1
    refine wp_some ?_
    exact (show ((-9000000000000000000) ≤ (-9000000000000000000 : Int64).toInt ∧ (-9000000000000000000 : Int64).toInt ≤ 2147483647) from ⟨by decide, by decide⟩)
  · have c1 := cv_nlt (a := p0.toInt) (b := 0) rfl (by decide) c1
    refine wp_if (fun c2 => ?_) (fun c2 => ?_)
    · have c2 := cv_ge (a := p0.toInt) (b := 19) rfl (by decide) c2
      refine wp_some ?_
      exact (show ((-9000000000000000000) ≤ (-9000000000000000000 : Int64).toInt ∧ (-9000000000000000000 : Int64).toInt ≤ 2147483647) from ⟨by decide, by decide⟩)
    · have c2 := cv_nge (a := p0.toInt) (b := 19) rfl (by decide) c2
      refine wp_gd (zin_of (m := 19) rfl (by omega) (by omega)) ?_
      have rg3 := i32_rg (gA o_me 0 p0.toNatClampNeg)
      have t4 : ((gA o_me 0 p0.toNatClampNeg).toInt64).toInt = (gA o_me 0 p0.toNatClampNeg).toInt := Int32.toInt_toInt64 _
      refine wp_some ?_
      exact (show ((-9000000000000000000) ≤ ((gA o_me 0 p0.toNatClampNeg).toInt64).toInt ∧ ((gA o_me 0 p0.toNatClampNeg).toInt64).toInt ≤ 2147483647) from ⟨by omega, by omega⟩)

set_option maxHeartbeats 4000000 in
set_option maxRecDepth 100000 in
theorem s_X3_joined (p0 : Int32) (p1 : Int64) (p2 : Int64)   : wp (f_X3_joined   p0 p1 p2) (fun (y : Int64) => ((-9000000000000000000) ≤ y.toInt ∧ y.toInt ≤ 1000000000)) := by
  have li0 : (-1000000000 : Int64).toInt = (-1000000000) := by decide
  have li1 : (-9000000000000000000 : Int64).toInt = (-9000000000000000000) := by decide
  have li2 : (0 : Int64).toInt = 0 := by decide
  have li3 : (1 : Int64).toInt = 1 := by decide
  have li4 : (1000000000 : Int64).toInt = 1000000000 := by decide
  unfold f_X3_joined
  refine wp_if (fun c1 => ?_) (fun c1 => ?_)
  · have c1 := cv_eq (a := p0.toInt) (b := 5) rfl (by decide) c1
    refine wp_lt (fun x2 ex2 => ?_)
    have tx2 : x2.toInt = (p1 + p2).toInt := by rw [ex2]
    unfold bk_X3_joined_164
    refine wp_if (fun c3 => ?_) (fun c3 => ?_)
    · have c3 := cvl_gt (a := x2.toInt) (b := 1000000000) rfl (by decide) c3
      unfold bk_X3_joined_182
      refine wp_some ?_
      exact (show ((-9000000000000000000) ≤ (-9000000000000000000 : Int64).toInt ∧ (-9000000000000000000 : Int64).toInt ≤ 1000000000) from ⟨by decide, by decide⟩)
    · have c3 := cvl_ngt (a := x2.toInt) (b := 1000000000) rfl (by decide) c3
      refine wp_if (fun c4 => ?_) (fun c4 => ?_)
      · have c4 := cvl_ge (a := x2.toInt) (b := (-1000000000)) rfl (by decide) c4
        refine wp_some ?_
        exact (show ((-9000000000000000000) ≤ x2.toInt ∧ x2.toInt ≤ 1000000000) from ⟨by omega, by omega⟩)
      · have c4 := cvl_nge (a := x2.toInt) (b := (-1000000000)) rfl (by decide) c4
        unfold bk_X3_joined_182
        refine wp_some ?_
        exact (show ((-9000000000000000000) ≤ (-9000000000000000000 : Int64).toInt ∧ (-9000000000000000000 : Int64).toInt ≤ 1000000000) from ⟨by decide, by decide⟩)
  have c1 := cv_ne (a := p0.toInt) (b := 5) rfl (by decide) c1
  refine wp_if (fun c5 => ?_) (fun c5 => ?_)
  · have c5 := cv_eq (a := p0.toInt) (b := 6) rfl (by decide) c5
    refine wp_lt (fun x6 ex6 => ?_)
    have tx6 : x6.toInt = (p1 - p2).toInt := by rw [ex6]
    unfold bk_X3_joined_164
    refine wp_if (fun c7 => ?_) (fun c7 => ?_)
    · have c7 := cvl_gt (a := x6.toInt) (b := 1000000000) rfl (by decide) c7
      unfold bk_X3_joined_182
      refine wp_some ?_
      exact (show ((-9000000000000000000) ≤ (-9000000000000000000 : Int64).toInt ∧ (-9000000000000000000 : Int64).toInt ≤ 1000000000) from ⟨by decide, by decide⟩)
    · have c7 := cvl_ngt (a := x6.toInt) (b := 1000000000) rfl (by decide) c7
      refine wp_if (fun c8 => ?_) (fun c8 => ?_)
      · have c8 := cvl_ge (a := x6.toInt) (b := (-1000000000)) rfl (by decide) c8
        refine wp_some ?_
        exact (show ((-9000000000000000000) ≤ x6.toInt ∧ x6.toInt ≤ 1000000000) from ⟨by omega, by omega⟩)
      · have c8 := cvl_nge (a := x6.toInt) (b := (-1000000000)) rfl (by decide) c8
        unfold bk_X3_joined_182
        refine wp_some ?_
        exact (show ((-9000000000000000000) ≤ (-9000000000000000000 : Int64).toInt ∧ (-9000000000000000000 : Int64).toInt ≤ 1000000000) from ⟨by decide, by decide⟩)
  have c5 := cv_ne (a := p0.toInt) (b := 6) rfl (by decide) c5
  refine wp_if (fun c9 => ?_) (fun c9 => ?_)
  · have c9 := cv_eq (a := p0.toInt) (b := 7) rfl (by decide) c9
    refine wp_lt (fun x10 ex10 => ?_)
    have tx10 : x10.toInt = (p1 * p2).toInt := by rw [ex10]
    unfold bk_X3_joined_164
    refine wp_if (fun c11 => ?_) (fun c11 => ?_)
    · have c11 := cvl_gt (a := x10.toInt) (b := 1000000000) rfl (by decide) c11
      unfold bk_X3_joined_182
      refine wp_some ?_
      exact (show ((-9000000000000000000) ≤ (-9000000000000000000 : Int64).toInt ∧ (-9000000000000000000 : Int64).toInt ≤ 1000000000) from ⟨by decide, by decide⟩)
    · have c11 := cvl_ngt (a := x10.toInt) (b := 1000000000) rfl (by decide) c11
      refine wp_if (fun c12 => ?_) (fun c12 => ?_)
      · have c12 := cvl_ge (a := x10.toInt) (b := (-1000000000)) rfl (by decide) c12
        refine wp_some ?_
        exact (show ((-9000000000000000000) ≤ x10.toInt ∧ x10.toInt ≤ 1000000000) from ⟨by omega, by omega⟩)
      · have c12 := cvl_nge (a := x10.toInt) (b := (-1000000000)) rfl (by decide) c12
        unfold bk_X3_joined_182
        refine wp_some ?_
        exact (show ((-9000000000000000000) ≤ (-9000000000000000000 : Int64).toInt ∧ (-9000000000000000000 : Int64).toInt ≤ 1000000000) from ⟨by decide, by decide⟩)
  have c9 := cv_ne (a := p0.toInt) (b := 7) rfl (by decide) c9
  refine wp_if (fun c13 => ?_) (fun c13 => ?_)
  · have c13 := cv_eq (a := p0.toInt) (b := 8) rfl (by decide) c13
    refine wp_if (fun c14 => ?_) (fun c14 => ?_)
    · have c14 := cvl_eq (a := p2.toInt) (b := 0) rfl (by decide) c14
      obtain ⟨w15, ew15⟩ : ∃ z : Int64, z = (-9000000000000000000 : Int64) := ⟨_, rfl⟩
      have tw15 : w15.toInt = (-9000000000000000000) := by rw [ew15]; decide
      rw [show bk_X3_joined_91   (-9000000000000000000 : Int64) = bk_X3_joined_91   w15 from by rw [ew15]]
      unfold bk_X3_joined_91
      unfold bk_X3_joined_164
      refine wp_if (fun c16 => ?_) (fun c16 => ?_)
      · have c16 := cvl_gt (a := w15.toInt) (b := 1000000000) rfl (by decide) c16
        exfalso; omega
      · have c16 := cvl_ngt (a := w15.toInt) (b := 1000000000) rfl (by decide) c16
        refine wp_if (fun c17 => ?_) (fun c17 => ?_)
        · have c17 := cvl_ge (a := w15.toInt) (b := (-1000000000)) rfl (by decide) c17
          exfalso; omega
        · have c17 := cvl_nge (a := w15.toInt) (b := (-1000000000)) rfl (by decide) c17
          unfold bk_X3_joined_182
          refine wp_some ?_
          exact (show ((-9000000000000000000) ≤ (-9000000000000000000 : Int64).toInt ∧ (-9000000000000000000 : Int64).toInt ≤ 1000000000) from ⟨by decide, by decide⟩)
    · have c14z := mt (fun e9 => (lg_cmp_eq _ _).mpr e9) c14
      have c14 := cvl_ne (a := p2.toInt) (b := 0) rfl (by decide) c14
      refine wp_gd (decide_eq_true c14z) ?_
      obtain ⟨w18, ew18⟩ : ∃ z : Int64, z = p1 / p2 := ⟨_, rfl⟩
      have tw18 : w18.toInt = (p1 / p2).toInt := by rw [ew18]
      rw [show bk_X3_joined_91   (p1 / p2) = bk_X3_joined_91   w18 from by rw [ew18]]
      unfold bk_X3_joined_91
      unfold bk_X3_joined_164
      refine wp_if (fun c19 => ?_) (fun c19 => ?_)
      · have c19 := cvl_gt (a := w18.toInt) (b := 1000000000) rfl (by decide) c19
        unfold bk_X3_joined_182
        refine wp_some ?_
        exact (show ((-9000000000000000000) ≤ (-9000000000000000000 : Int64).toInt ∧ (-9000000000000000000 : Int64).toInt ≤ 1000000000) from ⟨by decide, by decide⟩)
      · have c19 := cvl_ngt (a := w18.toInt) (b := 1000000000) rfl (by decide) c19
        refine wp_if (fun c20 => ?_) (fun c20 => ?_)
        · have c20 := cvl_ge (a := w18.toInt) (b := (-1000000000)) rfl (by decide) c20
          refine wp_some ?_
          exact (show ((-9000000000000000000) ≤ w18.toInt ∧ w18.toInt ≤ 1000000000) from ⟨by omega, by omega⟩)
        · have c20 := cvl_nge (a := w18.toInt) (b := (-1000000000)) rfl (by decide) c20
          unfold bk_X3_joined_182
          refine wp_some ?_
          exact (show ((-9000000000000000000) ≤ (-9000000000000000000 : Int64).toInt ∧ (-9000000000000000000 : Int64).toInt ≤ 1000000000) from ⟨by decide, by decide⟩)
  have c13 := cv_ne (a := p0.toInt) (b := 8) rfl (by decide) c13
  refine wp_if (fun c21 => ?_) (fun c21 => ?_)
  · have c21 := cv_eq (a := p0.toInt) (b := 9) rfl (by decide) c21
    refine wp_if (fun c22 => ?_) (fun c22 => ?_)
    · have c22 := cvl_eq (a := p2.toInt) (b := 0) rfl (by decide) c22
      obtain ⟨w23, ew23⟩ : ∃ z : Int64, z = (-9000000000000000000 : Int64) := ⟨_, rfl⟩
      have tw23 : w23.toInt = (-9000000000000000000) := by rw [ew23]; decide
      rw [show bk_X3_joined_111   (-9000000000000000000 : Int64) = bk_X3_joined_111   w23 from by rw [ew23]]
      unfold bk_X3_joined_111
      unfold bk_X3_joined_164
      refine wp_if (fun c24 => ?_) (fun c24 => ?_)
      · have c24 := cvl_gt (a := w23.toInt) (b := 1000000000) rfl (by decide) c24
        exfalso; omega
      · have c24 := cvl_ngt (a := w23.toInt) (b := 1000000000) rfl (by decide) c24
        refine wp_if (fun c25 => ?_) (fun c25 => ?_)
        · have c25 := cvl_ge (a := w23.toInt) (b := (-1000000000)) rfl (by decide) c25
          exfalso; omega
        · have c25 := cvl_nge (a := w23.toInt) (b := (-1000000000)) rfl (by decide) c25
          unfold bk_X3_joined_182
          refine wp_some ?_
          exact (show ((-9000000000000000000) ≤ (-9000000000000000000 : Int64).toInt ∧ (-9000000000000000000 : Int64).toInt ≤ 1000000000) from ⟨by decide, by decide⟩)
    · have c22z := mt (fun e9 => (lg_cmp_eq _ _).mpr e9) c22
      have c22 := cvl_ne (a := p2.toInt) (b := 0) rfl (by decide) c22
      refine wp_gd (decide_eq_true c22z) ?_
      obtain ⟨w26, ew26⟩ : ∃ z : Int64, z = p1 - p1 / p2 * p2 := ⟨_, rfl⟩
      have tw26 : w26.toInt = (p1 - p1 / p2 * p2).toInt := by rw [ew26]
      rw [show bk_X3_joined_111   (p1 - p1 / p2 * p2) = bk_X3_joined_111   w26 from by rw [ew26]]
      unfold bk_X3_joined_111
      unfold bk_X3_joined_164
      refine wp_if (fun c27 => ?_) (fun c27 => ?_)
      · have c27 := cvl_gt (a := w26.toInt) (b := 1000000000) rfl (by decide) c27
        unfold bk_X3_joined_182
        refine wp_some ?_
        exact (show ((-9000000000000000000) ≤ (-9000000000000000000 : Int64).toInt ∧ (-9000000000000000000 : Int64).toInt ≤ 1000000000) from ⟨by decide, by decide⟩)
      · have c27 := cvl_ngt (a := w26.toInt) (b := 1000000000) rfl (by decide) c27
        refine wp_if (fun c28 => ?_) (fun c28 => ?_)
        · have c28 := cvl_ge (a := w26.toInt) (b := (-1000000000)) rfl (by decide) c28
          refine wp_some ?_
          exact (show ((-9000000000000000000) ≤ w26.toInt ∧ w26.toInt ≤ 1000000000) from ⟨by omega, by omega⟩)
        · have c28 := cvl_nge (a := w26.toInt) (b := (-1000000000)) rfl (by decide) c28
          unfold bk_X3_joined_182
          refine wp_some ?_
          exact (show ((-9000000000000000000) ≤ (-9000000000000000000 : Int64).toInt ∧ (-9000000000000000000 : Int64).toInt ≤ 1000000000) from ⟨by decide, by decide⟩)
  have c21 := cv_ne (a := p0.toInt) (b := 9) rfl (by decide) c21
  refine wp_if (fun c29 => ?_) (fun c29 => ?_)
  · have c29 := cv_eq (a := p0.toInt) (b := 10) rfl (by decide) c29
    refine wp_if (fun c30 => ?_) (fun c30 => ?_)
    · have c30 := cvl_ge (a := p1.toInt) (b := p2.toInt) rfl rfl c30
      obtain ⟨w31, ew31⟩ : ∃ z : Int64, z = (0 : Int64) := ⟨_, rfl⟩
      have tw31 : w31.toInt = 0 := by rw [ew31]; decide
      rw [show bk_X3_joined_127   (0 : Int64) = bk_X3_joined_127   w31 from by rw [ew31]]
      unfold bk_X3_joined_127
      unfold bk_X3_joined_164
      refine wp_if (fun c32 => ?_) (fun c32 => ?_)
      · have c32 := cvl_gt (a := w31.toInt) (b := 1000000000) rfl (by decide) c32
        exfalso; omega
      · have c32 := cvl_ngt (a := w31.toInt) (b := 1000000000) rfl (by decide) c32
        refine wp_if (fun c33 => ?_) (fun c33 => ?_)
        · have c33 := cvl_ge (a := w31.toInt) (b := (-1000000000)) rfl (by decide) c33
          refine wp_some ?_
          exact (show ((-9000000000000000000) ≤ w31.toInt ∧ w31.toInt ≤ 1000000000) from ⟨by omega, by omega⟩)
        · have c33 := cvl_nge (a := w31.toInt) (b := (-1000000000)) rfl (by decide) c33
          exfalso; omega
    · have c30 := cvl_nge (a := p1.toInt) (b := p2.toInt) rfl rfl c30
      obtain ⟨w34, ew34⟩ : ∃ z : Int64, z = (1 : Int64) := ⟨_, rfl⟩
      have tw34 : w34.toInt = 1 := by rw [ew34]; decide
      rw [show bk_X3_joined_127   (1 : Int64) = bk_X3_joined_127   w34 from by rw [ew34]]
      unfold bk_X3_joined_127
      unfold bk_X3_joined_164
      refine wp_if (fun c35 => ?_) (fun c35 => ?_)
      · have c35 := cvl_gt (a := w34.toInt) (b := 1000000000) rfl (by decide) c35
        exfalso; omega
      · have c35 := cvl_ngt (a := w34.toInt) (b := 1000000000) rfl (by decide) c35
        refine wp_if (fun c36 => ?_) (fun c36 => ?_)
        · have c36 := cvl_ge (a := w34.toInt) (b := (-1000000000)) rfl (by decide) c36
          refine wp_some ?_
          exact (show ((-9000000000000000000) ≤ w34.toInt ∧ w34.toInt ≤ 1000000000) from ⟨by omega, by omega⟩)
        · have c36 := cvl_nge (a := w34.toInt) (b := (-1000000000)) rfl (by decide) c36
          exfalso; omega
  have c29 := cv_ne (a := p0.toInt) (b := 10) rfl (by decide) c29
  refine wp_if (fun c37 => ?_) (fun c37 => ?_)
  · have c37 := cv_eq (a := p0.toInt) (b := 11) rfl (by decide) c37
    refine wp_if (fun c38 => ?_) (fun c38 => ?_)
    · have c38 := cvl_le (a := p1.toInt) (b := p2.toInt) rfl rfl c38
      obtain ⟨w39, ew39⟩ : ∃ z : Int64, z = (0 : Int64) := ⟨_, rfl⟩
      have tw39 : w39.toInt = 0 := by rw [ew39]; decide
      rw [show bk_X3_joined_143   (0 : Int64) = bk_X3_joined_143   w39 from by rw [ew39]]
      unfold bk_X3_joined_143
      unfold bk_X3_joined_164
      refine wp_if (fun c40 => ?_) (fun c40 => ?_)
      · have c40 := cvl_gt (a := w39.toInt) (b := 1000000000) rfl (by decide) c40
        exfalso; omega
      · have c40 := cvl_ngt (a := w39.toInt) (b := 1000000000) rfl (by decide) c40
        refine wp_if (fun c41 => ?_) (fun c41 => ?_)
        · have c41 := cvl_ge (a := w39.toInt) (b := (-1000000000)) rfl (by decide) c41
          refine wp_some ?_
          exact (show ((-9000000000000000000) ≤ w39.toInt ∧ w39.toInt ≤ 1000000000) from ⟨by omega, by omega⟩)
        · have c41 := cvl_nge (a := w39.toInt) (b := (-1000000000)) rfl (by decide) c41
          exfalso; omega
    · have c38 := cvl_nle (a := p1.toInt) (b := p2.toInt) rfl rfl c38
      obtain ⟨w42, ew42⟩ : ∃ z : Int64, z = (1 : Int64) := ⟨_, rfl⟩
      have tw42 : w42.toInt = 1 := by rw [ew42]; decide
      rw [show bk_X3_joined_143   (1 : Int64) = bk_X3_joined_143   w42 from by rw [ew42]]
      unfold bk_X3_joined_143
      unfold bk_X3_joined_164
      refine wp_if (fun c43 => ?_) (fun c43 => ?_)
      · have c43 := cvl_gt (a := w42.toInt) (b := 1000000000) rfl (by decide) c43
        exfalso; omega
      · have c43 := cvl_ngt (a := w42.toInt) (b := 1000000000) rfl (by decide) c43
        refine wp_if (fun c44 => ?_) (fun c44 => ?_)
        · have c44 := cvl_ge (a := w42.toInt) (b := (-1000000000)) rfl (by decide) c44
          refine wp_some ?_
          exact (show ((-9000000000000000000) ≤ w42.toInt ∧ w42.toInt ≤ 1000000000) from ⟨by omega, by omega⟩)
        · have c44 := cvl_nge (a := w42.toInt) (b := (-1000000000)) rfl (by decide) c44
          exfalso; omega
  have c37 := cv_ne (a := p0.toInt) (b := 11) rfl (by decide) c37
  refine wp_if (fun c45 => ?_) (fun c45 => ?_)
  · have c45 := cv_eq (a := p0.toInt) (b := 12) rfl (by decide) c45
    refine wp_if (fun c46 => ?_) (fun c46 => ?_)
    · have c46 := cvl_eq (a := p1.toInt) (b := p2.toInt) rfl rfl c46
      obtain ⟨w47, ew47⟩ : ∃ z : Int64, z = (1 : Int64) := ⟨_, rfl⟩
      have tw47 : w47.toInt = 1 := by rw [ew47]; decide
      rw [show bk_X3_joined_159   (1 : Int64) = bk_X3_joined_159   w47 from by rw [ew47]]
      unfold bk_X3_joined_159
      unfold bk_X3_joined_164
      refine wp_if (fun c48 => ?_) (fun c48 => ?_)
      · have c48 := cvl_gt (a := w47.toInt) (b := 1000000000) rfl (by decide) c48
        exfalso; omega
      · have c48 := cvl_ngt (a := w47.toInt) (b := 1000000000) rfl (by decide) c48
        refine wp_if (fun c49 => ?_) (fun c49 => ?_)
        · have c49 := cvl_ge (a := w47.toInt) (b := (-1000000000)) rfl (by decide) c49
          refine wp_some ?_
          exact (show ((-9000000000000000000) ≤ w47.toInt ∧ w47.toInt ≤ 1000000000) from ⟨by omega, by omega⟩)
        · have c49 := cvl_nge (a := w47.toInt) (b := (-1000000000)) rfl (by decide) c49
          exfalso; omega
    · have c46 := cvl_ne (a := p1.toInt) (b := p2.toInt) rfl rfl c46
      obtain ⟨w50, ew50⟩ : ∃ z : Int64, z = (0 : Int64) := ⟨_, rfl⟩
      have tw50 : w50.toInt = 0 := by rw [ew50]; decide
      rw [show bk_X3_joined_159   (0 : Int64) = bk_X3_joined_159   w50 from by rw [ew50]]
      unfold bk_X3_joined_159
      unfold bk_X3_joined_164
      refine wp_if (fun c51 => ?_) (fun c51 => ?_)
      · have c51 := cvl_gt (a := w50.toInt) (b := 1000000000) rfl (by decide) c51
        exfalso; omega
      · have c51 := cvl_ngt (a := w50.toInt) (b := 1000000000) rfl (by decide) c51
        refine wp_if (fun c52 => ?_) (fun c52 => ?_)
        · have c52 := cvl_ge (a := w50.toInt) (b := (-1000000000)) rfl (by decide) c52
          refine wp_some ?_
          exact (show ((-9000000000000000000) ≤ w50.toInt ∧ w50.toInt ≤ 1000000000) from ⟨by omega, by omega⟩)
        · have c52 := cvl_nge (a := w50.toInt) (b := (-1000000000)) rfl (by decide) c52
          exfalso; omega
  have c45 := cv_ne (a := p0.toInt) (b := 12) rfl (by decide) c45
  obtain ⟨w53, ew53⟩ : ∃ z : Int64, z = (-9000000000000000000 : Int64) := ⟨_, rfl⟩
  have tw53 : w53.toInt = (-9000000000000000000) := by rw [ew53]; decide
  rw [show bk_X3_joined_164   (-9000000000000000000 : Int64) = bk_X3_joined_164   w53 from by rw [ew53]]
  unfold bk_X3_joined_164
  refine wp_if (fun c54 => ?_) (fun c54 => ?_)
  · have c54 := cvl_gt (a := w53.toInt) (b := 1000000000) rfl (by decide) c54
    exfalso; omega
  · have c54 := cvl_ngt (a := w53.toInt) (b := 1000000000) rfl (by decide) c54
    refine wp_if (fun c55 => ?_) (fun c55 => ?_)
    · have c55 := cvl_ge (a := w53.toInt) (b := (-1000000000)) rfl (by decide) c55
      exfalso; omega
    · have c55 := cvl_nge (a := w53.toInt) (b := (-1000000000)) rfl (by decide) c55
      unfold bk_X3_joined_182
      refine wp_some ?_
      exact (show ((-9000000000000000000) ≤ (-9000000000000000000 : Int64).toInt ∧ (-9000000000000000000 : Int64).toInt ≤ 1000000000) from ⟨by decide, by decide⟩)

set_option maxHeartbeats 4000000 in
set_option maxRecDepth 100000 in
theorem s_X3_worth_O (nc_a0 : Nat) (ns_a0 : Nat) (o_me : Ob) (o_a0 : Ob) (p1 : Int32) (p2 : Int32) (hI_me : IvX3 o_me) (hI_a0 : IvX0 nc_a0 ns_a0 o_a0)  : wp (f_X3_worth_O  nc_a0 ns_a0 o_me o_a0 p1 p2) (fun (y : Int64 × Ob) => IvX3 y.2 ∧ Kp [] [] [] o_me y.2) := by
  have li0 : (-9000000000000000000 : Int64).toInt = (-9000000000000000000) := by decide
  have li1 : (0 : Int32).toInt = 0 := by decide
  have li2 : (0 : Int64).toInt = 0 := by decide
  have li3 : (1 : Int32).toInt = 1 := by decide
  have li4 : (1 : Int64).toInt = 1 := by decide
  have li5 : (2 : Int32).toInt = 2 := by decide
  have li6 : (4 : Int32).toInt = 4 := by decide
  have li7 : (50 : Int32).toInt = 50 := by decide
  unfold f_X3_worth_O
  have t9nc := igX0_7 hI_a0
  have t9ns := igX0_8 hI_a0
  have rg2 := i32_rg p1
  have rg3 := i32_rg p2
  refine wp_if (fun c1 => ?_) (fun c1 => ?_)
  · have c1 := cv_lt (a := p1.toInt) (b := p2.toInt) rfl rfl c1
    have t4 : 0 ≤ (if (0 : Int32) < p1 then p1 else (0 : Int32)).toInt ∧ (if (0 : Int32) < p1 then p1 else (0 : Int32)).toInt ≤ 2147483646 := z_max (a := 0) (b := p1.toInt) (by decide) rfl (by omega) (by omega)
    have t5 := z_mxg (0 : Int32) p1
    refine wp_lt (fun x6 ex6 => ?_)
    have tx6 : x6.toInt = (if (0 : Int32) < p1 then p1 else (0 : Int32)).toInt := by rw [ex6]
    have t7 : (-2147483647) ≤ (if (gI o_a0 8) < p2 then (gI o_a0 8) else p2).toInt ∧ (if (gI o_a0 8) < p2 then (gI o_a0 8) else p2).toInt ≤ 400 := z_min (a := p2.toInt) (b := (gI o_a0 8).toInt) rfl rfl (by omega) (by omega)
    have t8 := z_mng p2 (gI o_a0 8)
    refine wp_lt (fun x9 ex9 => ?_)
    have tx9 : x9.toInt = (if (gI o_a0 8) < p2 then (gI o_a0 8) else p2).toInt := by rw [ex9]
    have lp1 : ∀ (N1 : Nat) (v3_1 : Int32) (v4_1 : Int32) (v5_1 : Int32) (v6_1 : Int32) (v7_1 : Int32) (o_me_1 : Ob), IvX3 o_me_1 → Kp [] [] [] o_me o_me_1 → ((-2147483647) ≤ v3_1.toInt ∧ v3_1.toInt ≤ 2147483647) → (0 ≤ v4_1.toInt ∧ v4_1.toInt ≤ 50) → (0 ≤ v5_1.toInt ∧ v5_1.toInt ≤ 2147483647) → ((-2147483647) ≤ v6_1.toInt ∧ v6_1.toInt ≤ 400) → ((-2147483648) ≤ v7_1.toInt ∧ v7_1.toInt ≤ 2147483646) → (v4_1.toInt ≤ v5_1.toInt + 0) → (v6_1.toInt ≤ v3_1.toInt + 0) → (v7_1.toInt ≤ v3_1.toInt + 0) → (v7_1.toInt ≤ v5_1.toInt + 0) → (v3_1.toInt ≤ p2.toInt + 0) → (p2.toInt ≤ v3_1.toInt + 0) → (p1.toInt ≤ v3_1.toInt + (-1)) → (x9.toInt ≤ v3_1.toInt + 0) → (v4_1.toInt ≤ (gI o_a0 8).toInt + 0) → (x6.toInt ≤ v5_1.toInt + 0) → (p1.toInt ≤ v5_1.toInt + 0) → (v6_1.toInt ≤ p2.toInt + 0) → (v6_1.toInt ≤ (gI o_a0 8).toInt + 0) → (v6_1.toInt ≤ x9.toInt + 0) → (x9.toInt ≤ v6_1.toInt + 0) → (v7_1.toInt ≤ p2.toInt + 0) → (p1.toInt ≤ v7_1.toInt + 0) → (v6_1.toInt - v5_1.toInt).toNat < N1 → wp (lp_X3_worth_O_30 nc_a0 ns_a0 o_a0  N1 (v3_1, v4_1, v5_1, v6_1, v7_1, o_me_1)) (fun (y : Int64 × Ob) => IvX3 y.2 ∧ Kp [] [] [] o_me y.2) := by
      intro N1
      induction N1 with
      | zero =>
        intro v3_1 v4_1 v5_1 v6_1 v7_1 o_me_1 hI_me_1 hkp_me_1 hh10 hh11 hh12 hh13 hh14 hh15 hh16 hh17 hh18 hh19 hh20 hh21 hh22 hh23 hh24 hh25 hh26 hh27 hh28 hh29 hh30 hh31 hN1
        exact absurd hN1 (Nat.not_lt_zero _)
      | succ N1 ihx =>
        have ih1 := ihx
        intro v3_1 v4_1 v5_1 v6_1 v7_1 o_me_1 hI_me_1 hkp_me_1 hh10 hh11 hh12 hh13 hh14 hh15 hh16 hh17 hh18 hh19 hh20 hh21 hh22 hh23 hh24 hh25 hh26 hh27 hh28 hh29 hh30 hh31 hN1
        show wp (lb_X3_worth_O_30 nc_a0 ns_a0 o_a0  (lp_X3_worth_O_30 nc_a0 ns_a0 o_a0  N1) v3_1 v4_1 v5_1 v6_1 v7_1 o_me_1) (fun (y : Int64 × Ob) => IvX3 y.2 ∧ Kp [] [] [] o_me y.2)
        unfold lb_X3_worth_O_30
        have rg33 := i32_rg v7_1
        have rg34 := i32_rg v3_1
        refine wp_if (fun c32 => ?_) (fun c32 => ?_)
        · have c32 := cv_ge (a := v7_1.toInt) (b := v3_1.toInt) rfl rfl c32
          unfold bk_X3_worth_O_287
          refine wp_if (fun c35 => ?_) (fun c35 => ?_)
          · have c35 := cv_eq (a := v4_1.toInt) (b := 1) rfl (by decide) c35
            refine wp_some ?_
            exact (show IvX3 o_me_1 ∧ Kp [] [] [] o_me o_me_1 from ⟨hI_me_1, hkp_me_1⟩)
          · have c35 := cv_ne (a := v4_1.toInt) (b := 1) rfl (by decide) c35
            refine wp_some ?_
            exact (show IvX3 o_me_1 ∧ Kp [] [] [] o_me o_me_1 from ⟨hI_me_1, hkp_me_1⟩)
        · have c32 := cv_nge (a := v7_1.toInt) (b := v3_1.toInt) rfl rfl c32
          have rg37 := i32_rg v5_1
          refine wp_if (fun c36 => ?_) (fun c36 => ?_)
          · have c36 := cv_ge (a := v5_1.toInt) (b := v6_1.toInt) rfl rfl c36
            unfold bk_X3_worth_O_287
            refine wp_if (fun c38 => ?_) (fun c38 => ?_)
            · have c38 := cv_eq (a := v4_1.toInt) (b := 1) rfl (by decide) c38
              refine wp_some ?_
              exact (show IvX3 o_me_1 ∧ Kp [] [] [] o_me o_me_1 from ⟨hI_me_1, hkp_me_1⟩)
            · have c38 := cv_ne (a := v4_1.toInt) (b := 1) rfl (by decide) c38
              refine wp_some ?_
              exact (show IvX3 o_me_1 ∧ Kp [] [] [] o_me o_me_1 from ⟨hI_me_1, hkp_me_1⟩)
          · have c36 := cv_nge (a := v5_1.toInt) (b := v6_1.toInt) rfl rfl c36
            refine wp_gd (zin_of (m := (ns_a0 : Int)) rfl (by omega) (by omega)) ?_
            refine wp_lt (fun x39 ex39 => ?_)
            have tx39 : x39.toInt = (gA o_a0 5 v5_1.toNatClampNeg).toInt := by rw [ex39]
            refine wp_gd (zin_of (m := (ns_a0 : Int)) rfl (by omega) (by omega)) ?_
            refine wp_lt (fun x40 ex40 => ?_)
            have tx40 : x40.toInt = (gA o_a0 6 v5_1.toNatClampNeg).toInt := by rw [ex40]
            refine wp_lt (fun x41 ex41 => ?_)
            have tx41 : x41.toInt = v5_1.toInt + 1 := by rw [ex41]; exact i32_add rfl (by decide) (by omega) (by omega)
            refine wp_if (fun c42 => ?_) (fun c42 => ?_)
            · have c42 := cv_eq (a := x39.toInt) (b := 0) rfl (by decide) c42
              unfold bk_X3_worth_O_75
              refine wp_if (fun c43 => ?_) (fun c43 => ?_)
              · have c43 := cv_lt (a := v4_1.toInt) (b := 50) rfl (by decide) c43
                refine wp_if (fun c44 => ?_) (fun c44 => ?_)
                · have c44 := cv_eq (a := x39.toInt) (b := 0) rfl (by decide) c44
                  have rg45 := i32_rg x40
                  have t46 : x40.toInt64.toInt = x40.toInt := Int32.toInt_toInt64 _
                  unfold bk_X3_worth_O_112
                  refine wp_gd (zin_of (m := 50) rfl (by omega) (by omega)) ?_
                  refine wp_lt (fun o47 eo47 => ?_)
                  have hIo47 : IvX3 o47 := by rw [eo47]; exact hI_me_1
                  have hkpo47 : Kp [] [] [] o_me o47 := hkp_me_1.trans (by rw [eo47]; exact Kp.tM)
                  refine wp_lt (fun x48 ex48 => ?_)
                  have tx48 : x48.toInt = v4_1.toInt + 1 := by rw [ex48]; exact i32_add rfl (by decide) (by omega) (by omega)
                  unfold bk_X3_worth_O_281
                  refine wp_lt (fun x49 ex49 => ?_)
                  have tx49 : x49.toInt = v7_1.toInt + 1 := by rw [ex49]; exact i32_add rfl (by decide) (by omega) (by omega)
                  have rg50 := i32_rg x41
                  have rg51 := i32_rg x49
                  exact ih1 v3_1 x48 x41 v6_1 x49 o47 hIo47 hkpo47 ⟨by omega, by omega⟩ ⟨by omega, by omega⟩ ⟨by omega, by omega⟩ ⟨by omega, by omega⟩ ⟨by omega, by omega⟩ (by omega) (by omega) (by omega) (by omega) (by omega) (by omega) (by omega) (by omega) (by omega) (by omega) (by omega) (by omega) (by omega) (by omega) (by omega) (by omega) (by omega) (by omega)
                · have c44z := c44
                  have c44 := cv_ne (a := x39.toInt) (b := 0) rfl (by decide) c44
                  exfalso; omega
              · have c43 := cv_nlt (a := v4_1.toInt) (b := 50) rfl (by decide) c43
                refine wp_some ?_
                exact (show IvX3 o_me_1 ∧ Kp [] [] [] o_me o_me_1 from ⟨hI_me_1, hkp_me_1⟩)
            · have c42z := c42
              have c42 := cv_ne (a := x39.toInt) (b := 0) rfl (by decide) c42
              refine wp_if (fun c52 => ?_) (fun c52 => ?_)
              · have c52 := cv_eq (a := x39.toInt) (b := 1) rfl (by decide) c52
                unfold bk_X3_worth_O_75
                refine wp_if (fun c53 => ?_) (fun c53 => ?_)
                · have c53 := cv_lt (a := v4_1.toInt) (b := 50) rfl (by decide) c53
                  refine wp_if (fun c54 => ?_) (fun c54 => ?_)
                  · have c54 := cv_eq (a := x39.toInt) (b := 0) rfl (by decide) c54
                    exfalso; omega
                  · have c54z := c54
                    have c54 := cv_ne (a := x39.toInt) (b := 0) rfl (by decide) c54
                    refine wp_bd (s_X3_wordWorth   o_me_1 x40  hI_me_1  ) (fun z55 hz55 => ?_)
                    have hz55_0 := hz55
                    unfold bk_X3_worth_O_112
                    refine wp_gd (zin_of (m := 50) rfl (by omega) (by omega)) ?_
                    refine wp_lt (fun o56 eo56 => ?_)
                    have hIo56 : IvX3 o56 := by rw [eo56]; exact hI_me_1
                    have hkpo56 : Kp [] [] [] o_me o56 := hkp_me_1.trans (by rw [eo56]; exact Kp.tM)
                    refine wp_lt (fun x57 ex57 => ?_)
                    have tx57 : x57.toInt = v4_1.toInt + 1 := by rw [ex57]; exact i32_add rfl (by decide) (by omega) (by omega)
                    unfold bk_X3_worth_O_281
                    refine wp_lt (fun x58 ex58 => ?_)
                    have tx58 : x58.toInt = v7_1.toInt + 1 := by rw [ex58]; exact i32_add rfl (by decide) (by omega) (by omega)
                    have rg59 := i32_rg x41
                    have rg60 := i32_rg x58
                    exact ih1 v3_1 x57 x41 v6_1 x58 o56 hIo56 hkpo56 ⟨by omega, by omega⟩ ⟨by omega, by omega⟩ ⟨by omega, by omega⟩ ⟨by omega, by omega⟩ ⟨by omega, by omega⟩ (by omega) (by omega) (by omega) (by omega) (by omega) (by omega) (by omega) (by omega) (by omega) (by omega) (by omega) (by omega) (by omega) (by omega) (by omega) (by omega) (by omega) (by omega)
                · have c53 := cv_nlt (a := v4_1.toInt) (b := 50) rfl (by decide) c53
                  refine wp_some ?_
                  exact (show IvX3 o_me_1 ∧ Kp [] [] [] o_me o_me_1 from ⟨hI_me_1, hkp_me_1⟩)
              · have c52 := cv_ne (a := x39.toInt) (b := 1) rfl (by decide) c52
                refine wp_if (fun c61 => ?_) (fun c61 => ?_)
                · have c61 := cv_gt (a := x39.toInt) (b := 4) rfl (by decide) c61
                  refine wp_if (fun c62 => ?_) (fun c62 => ?_)
                  · have c62 := cv_ge (a := v4_1.toInt) (b := 2) rfl (by decide) c62
                    refine wp_lt (fun x63 ex63 => ?_)
                    have tx63 : x63.toInt = v4_1.toInt + (-1) := by rw [ex63]; exact i32_add rfl (by decide) (by omega) (by omega)
                    have t64 : (x63 - (1 : Int32)).toInt = x63.toInt - 1 := i32_sub rfl (by decide) (by omega) (by omega)
                    refine wp_gd (zin_of (m := 50) rfl (by omega) (by omega)) ?_
                    refine wp_gd (zin_of (m := 50) rfl (by omega) (by omega)) ?_
                    refine wp_bd (s_X3_joined   x39 (gM o_me_1 1 (x63 - (1 : Int32)).toNatClampNeg) (gM o_me_1 1 x63.toNatClampNeg)    ) (fun z65 hz65 => ?_)
                    have hz65_0 := hz65
                    refine wp_gd (zin_of (m := 50) rfl (by omega) (by omega)) ?_
                    refine wp_lt (fun o66 eo66 => ?_)
                    have hIo66 : IvX3 o66 := by rw [eo66]; exact hI_me_1
                    have hkpo66 : Kp [] [] [] o_me o66 := hkp_me_1.trans (by rw [eo66]; exact Kp.tM)
                    refine wp_gd (zin_of (m := 50) rfl (by omega) (by omega)) ?_
                    refine wp_if (fun c67 => ?_) (fun c67 => ?_)
                    · have c67 := cvl_eq (a := (gM o66 1 (x63 - (1 : Int32)).toNatClampNeg).toInt) (b := (-9000000000000000000)) rfl (by decide) c67
                      refine wp_some ?_
                      exact (show IvX3 o66 ∧ Kp [] [] [] o_me o66 from ⟨hIo66, hkpo66⟩)
                    · have c67 := cvl_ne (a := (gM o66 1 (x63 - (1 : Int32)).toNatClampNeg).toInt) (b := (-9000000000000000000)) rfl (by decide) c67
                      unfold bk_X3_worth_O_281
                      refine wp_lt (fun x68 ex68 => ?_)
                      have tx68 : x68.toInt = v7_1.toInt + 1 := by rw [ex68]; exact i32_add rfl (by decide) (by omega) (by omega)
                      have rg69 := i32_rg x41
                      have rg70 := i32_rg x68
                      exact ih1 v3_1 x63 x41 v6_1 x68 o66 hIo66 hkpo66 ⟨by omega, by omega⟩ ⟨by omega, by omega⟩ ⟨by omega, by omega⟩ ⟨by omega, by omega⟩ ⟨by omega, by omega⟩ (by omega) (by omega) (by omega) (by omega) (by omega) (by omega) (by omega) (by omega) (by omega) (by omega) (by omega) (by omega) (by omega) (by omega) (by omega) (by omega) (by omega) (by omega)
                  · have c62 := cv_nge (a := v4_1.toInt) (b := 2) rfl (by decide) c62
                    refine wp_some ?_
                    exact (show IvX3 o_me_1 ∧ Kp [] [] [] o_me o_me_1 from ⟨hI_me_1, hkp_me_1⟩)
                · have c61 := cv_ngt (a := x39.toInt) (b := 4) rfl (by decide) c61
                  refine wp_if (fun c71 => ?_) (fun c71 => ?_)
                  · have c71 := cv_ge (a := v4_1.toInt) (b := 1) rfl (by decide) c71
                    have t72 : (v4_1 - (1 : Int32)).toInt = v4_1.toInt - 1 := i32_sub rfl (by decide) (by omega) (by omega)
                    refine wp_gd (zin_of (m := 50) rfl (by omega) (by omega)) ?_
                    refine wp_if (fun c73 => ?_) (fun c73 => ?_)
                    · have c73 := cvl_eq (a := (gM o_me_1 1 (v4_1 - (1 : Int32)).toNatClampNeg).toInt) (b := 1) rfl (by decide) c73
                      obtain ⟨w74, ew74⟩ : ∃ z : Int32, z = (1 : Int32) := ⟨_, rfl⟩
                      have tw74 : w74.toInt = 1 := by rw [ew74]; decide
                      rw [show bk_X3_worth_O_154 nc_a0 ns_a0 o_a0 (lp_X3_worth_O_30 nc_a0 ns_a0 o_a0  N1) v3_1 v4_1 x41 v6_1 v7_1 x39 x40 (1 : Int32) o_me_1 = bk_X3_worth_O_154 nc_a0 ns_a0 o_a0 (lp_X3_worth_O_30 nc_a0 ns_a0 o_a0  N1) v3_1 v4_1 x41 v6_1 v7_1 x39 x40 w74 o_me_1 from by rw [ew74]]
                      unfold bk_X3_worth_O_154
                      refine wp_if (fun c75 => ?_) (fun c75 => ?_)
                      · have c75 := cv_eq (a := x39.toInt) (b := 2) rfl (by decide) c75
                        refine wp_if (fun c76 => ?_) (fun c76 => ?_)
                        · have c76 := cv_eq (a := w74.toInt) (b := 0) rfl (by decide) c76
                          exfalso; omega
                        · have c76z := c76
                          have c76 := cv_ne (a := w74.toInt) (b := 0) rfl (by decide) c76
                          obtain ⟨w77, ew77⟩ : ∃ z : Int64, z = (0 : Int64) := ⟨_, rfl⟩
                          have tw77 : w77.toInt = 0 := by rw [ew77]; decide
                          obtain ⟨w78, ew78⟩ : ∃ z : Int32, z = v4_1 - (1 : Int32) := ⟨_, rfl⟩
                          have tw78 : w78.toInt = (v4_1 - (1 : Int32)).toInt := by rw [ew78]
                          rw [show bk_X3_worth_O_180 nc_a0 ns_a0 o_a0 (lp_X3_worth_O_30 nc_a0 ns_a0 o_a0  N1) v3_1 v4_1 x41 v6_1 v7_1 (0 : Int64) (v4_1 - (1 : Int32)) o_me_1 = bk_X3_worth_O_180 nc_a0 ns_a0 o_a0 (lp_X3_worth_O_30 nc_a0 ns_a0 o_a0  N1) v3_1 v4_1 x41 v6_1 v7_1 w77 w78 o_me_1 from by rw [ew77, ew78]]
                          unfold bk_X3_worth_O_180
                          refine wp_gd (zin_of (m := 50) rfl (by omega) (by omega)) ?_
                          refine wp_lt (fun o79 eo79 => ?_)
                          have hIo79 : IvX3 o79 := by rw [eo79]; exact hI_me_1
                          have hkpo79 : Kp [] [] [] o_me o79 := hkp_me_1.trans (by rw [eo79]; exact Kp.tM)
                          unfold bk_X3_worth_O_215
                          unfold bk_X3_worth_O_281
                          refine wp_lt (fun x80 ex80 => ?_)
                          have tx80 : x80.toInt = v7_1.toInt + 1 := by rw [ex80]; exact i32_add rfl (by decide) (by omega) (by omega)
                          have rg81 := i32_rg x41
                          have rg82 := i32_rg x80
                          exact ih1 v3_1 v4_1 x41 v6_1 x80 o79 hIo79 hkpo79 ⟨by omega, by omega⟩ ⟨by omega, by omega⟩ ⟨by omega, by omega⟩ ⟨by omega, by omega⟩ ⟨by omega, by omega⟩ (by omega) (by omega) (by omega) (by omega) (by omega) (by omega) (by omega) (by omega) (by omega) (by omega) (by omega) (by omega) (by omega) (by omega) (by omega) (by omega) (by omega) (by omega)
                      · have c75 := cv_ne (a := x39.toInt) (b := 2) rfl (by decide) c75
                        refine wp_if (fun c83 => ?_) (fun c83 => ?_)
                        · have c83 := cv_eq (a := x39.toInt) (b := 4) rfl (by decide) c83
                          obtain ⟨w84, ew84⟩ : ∃ z : Int32, z = (1 : Int32) := ⟨_, rfl⟩
                          have tw84 : w84.toInt = 1 := by rw [ew84]; decide
                          rw [show bk_X3_worth_O_197 nc_a0 ns_a0 o_a0 (lp_X3_worth_O_30 nc_a0 ns_a0 o_a0  N1) v3_1 v4_1 x41 v6_1 v7_1 x40 (1 : Int32) w74 o_me_1 = bk_X3_worth_O_197 nc_a0 ns_a0 o_a0 (lp_X3_worth_O_30 nc_a0 ns_a0 o_a0  N1) v3_1 v4_1 x41 v6_1 v7_1 x40 w84 w74 o_me_1 from by rw [ew84]]
                          unfold bk_X3_worth_O_197
                          refine wp_if (fun c85 => ?_) (fun c85 => ?_)
                          · have c85 := cv_eq (a := w74.toInt) (b := w84.toInt) rfl rfl c85
                            have rg87 := i32_rg x40
                            have t86 : 2 ≤ (if x41 < x40 then x40 else x41).toInt ∧ (if x41 < x40 then x40 else x41).toInt ≤ 2147483647 := z_max (a := x41.toInt) (b := x40.toInt) rfl rfl (by omega) (by omega)
                            have t88 := z_mxg x41 x40
                            refine wp_lt (fun x89 ex89 => ?_)
                            have tx89 : x89.toInt = (if x41 < x40 then x40 else x41).toInt := by rw [ex89]
                            unfold bk_X3_worth_O_215
                            unfold bk_X3_worth_O_281
                            refine wp_lt (fun x90 ex90 => ?_)
                            have tx90 : x90.toInt = v7_1.toInt + 1 := by rw [ex90]; exact i32_add rfl (by decide) (by omega) (by omega)
                            have rg91 := i32_rg x89
                            have rg92 := i32_rg x90
                            exact ih1 v3_1 v4_1 x89 v6_1 x90 o_me_1 hI_me_1 hkp_me_1 ⟨by omega, by omega⟩ ⟨by omega, by omega⟩ ⟨by omega, by omega⟩ ⟨by omega, by omega⟩ ⟨by omega, by omega⟩ (by omega) (by omega) (by omega) (by omega) (by omega) (by omega) (by omega) (by omega) (by omega) (by omega) (by omega) (by omega) (by omega) (by omega) (by omega) (by omega) (by omega) (by omega)
                          · have c85 := cv_ne (a := w74.toInt) (b := w84.toInt) rfl rfl c85
                            exfalso; omega
                        · have c83 := cv_ne (a := x39.toInt) (b := 4) rfl (by decide) c83
                          obtain ⟨w93, ew93⟩ : ∃ z : Int32, z = (0 : Int32) := ⟨_, rfl⟩
                          have tw93 : w93.toInt = 0 := by rw [ew93]; decide
                          rw [show bk_X3_worth_O_197 nc_a0 ns_a0 o_a0 (lp_X3_worth_O_30 nc_a0 ns_a0 o_a0  N1) v3_1 v4_1 x41 v6_1 v7_1 x40 (0 : Int32) w74 o_me_1 = bk_X3_worth_O_197 nc_a0 ns_a0 o_a0 (lp_X3_worth_O_30 nc_a0 ns_a0 o_a0  N1) v3_1 v4_1 x41 v6_1 v7_1 x40 w93 w74 o_me_1 from by rw [ew93]]
                          unfold bk_X3_worth_O_197
                          refine wp_if (fun c94 => ?_) (fun c94 => ?_)
                          · have c94 := cv_eq (a := w74.toInt) (b := w93.toInt) rfl rfl c94
                            exfalso; omega
                          · have c94 := cv_ne (a := w74.toInt) (b := w93.toInt) rfl rfl c94
                            refine wp_lt (fun x95 ex95 => ?_)
                            have tx95 : x95.toInt = v4_1.toInt + (-1) := by rw [ex95]; exact i32_add rfl (by decide) (by omega) (by omega)
                            unfold bk_X3_worth_O_215
                            unfold bk_X3_worth_O_281
                            refine wp_lt (fun x96 ex96 => ?_)
                            have tx96 : x96.toInt = v7_1.toInt + 1 := by rw [ex96]; exact i32_add rfl (by decide) (by omega) (by omega)
                            have rg97 := i32_rg x41
                            have rg98 := i32_rg x96
                            exact ih1 v3_1 x95 x41 v6_1 x96 o_me_1 hI_me_1 hkp_me_1 ⟨by omega, by omega⟩ ⟨by omega, by omega⟩ ⟨by omega, by omega⟩ ⟨by omega, by omega⟩ ⟨by omega, by omega⟩ (by omega) (by omega) (by omega) (by omega) (by omega) (by omega) (by omega) (by omega) (by omega) (by omega) (by omega) (by omega) (by omega) (by omega) (by omega) (by omega) (by omega) (by omega)
                    · have c73 := cvl_ne (a := (gM o_me_1 1 (v4_1 - (1 : Int32)).toNatClampNeg).toInt) (b := 1) rfl (by decide) c73
                      obtain ⟨w99, ew99⟩ : ∃ z : Int32, z = (0 : Int32) := ⟨_, rfl⟩
                      have tw99 : w99.toInt = 0 := by rw [ew99]; decide
                      rw [show bk_X3_worth_O_154 nc_a0 ns_a0 o_a0 (lp_X3_worth_O_30 nc_a0 ns_a0 o_a0  N1) v3_1 v4_1 x41 v6_1 v7_1 x39 x40 (0 : Int32) o_me_1 = bk_X3_worth_O_154 nc_a0 ns_a0 o_a0 (lp_X3_worth_O_30 nc_a0 ns_a0 o_a0  N1) v3_1 v4_1 x41 v6_1 v7_1 x39 x40 w99 o_me_1 from by rw [ew99]]
                      unfold bk_X3_worth_O_154
                      refine wp_if (fun c100 => ?_) (fun c100 => ?_)
                      · have c100 := cv_eq (a := x39.toInt) (b := 2) rfl (by decide) c100
                        refine wp_if (fun c101 => ?_) (fun c101 => ?_)
                        · have c101 := cv_eq (a := w99.toInt) (b := 0) rfl (by decide) c101
                          obtain ⟨w102, ew102⟩ : ∃ z : Int64, z = (1 : Int64) := ⟨_, rfl⟩
                          have tw102 : w102.toInt = 1 := by rw [ew102]; decide
                          obtain ⟨w103, ew103⟩ : ∃ z : Int32, z = v4_1 - (1 : Int32) := ⟨_, rfl⟩
                          have tw103 : w103.toInt = (v4_1 - (1 : Int32)).toInt := by rw [ew103]
                          rw [show bk_X3_worth_O_180 nc_a0 ns_a0 o_a0 (lp_X3_worth_O_30 nc_a0 ns_a0 o_a0  N1) v3_1 v4_1 x41 v6_1 v7_1 (1 : Int64) (v4_1 - (1 : Int32)) o_me_1 = bk_X3_worth_O_180 nc_a0 ns_a0 o_a0 (lp_X3_worth_O_30 nc_a0 ns_a0 o_a0  N1) v3_1 v4_1 x41 v6_1 v7_1 w102 w103 o_me_1 from by rw [ew102, ew103]]
                          unfold bk_X3_worth_O_180
                          refine wp_gd (zin_of (m := 50) rfl (by omega) (by omega)) ?_
                          refine wp_lt (fun o104 eo104 => ?_)
                          have hIo104 : IvX3 o104 := by rw [eo104]; exact hI_me_1
                          have hkpo104 : Kp [] [] [] o_me o104 := hkp_me_1.trans (by rw [eo104]; exact Kp.tM)
                          unfold bk_X3_worth_O_215
                          unfold bk_X3_worth_O_281
                          refine wp_lt (fun x105 ex105 => ?_)
                          have tx105 : x105.toInt = v7_1.toInt + 1 := by rw [ex105]; exact i32_add rfl (by decide) (by omega) (by omega)
                          have rg106 := i32_rg x41
                          have rg107 := i32_rg x105
                          exact ih1 v3_1 v4_1 x41 v6_1 x105 o104 hIo104 hkpo104 ⟨by omega, by omega⟩ ⟨by omega, by omega⟩ ⟨by omega, by omega⟩ ⟨by omega, by omega⟩ ⟨by omega, by omega⟩ (by omega) (by omega) (by omega) (by omega) (by omega) (by omega) (by omega) (by omega) (by omega) (by omega) (by omega) (by omega) (by omega) (by omega) (by omega) (by omega) (by omega) (by omega)
                        · have c101z := c101
                          have c101 := cv_ne (a := w99.toInt) (b := 0) rfl (by decide) c101
                          exfalso; omega
                      · have c100 := cv_ne (a := x39.toInt) (b := 2) rfl (by decide) c100
                        refine wp_if (fun c108 => ?_) (fun c108 => ?_)
                        · have c108 := cv_eq (a := x39.toInt) (b := 4) rfl (by decide) c108
                          obtain ⟨w109, ew109⟩ : ∃ z : Int32, z = (1 : Int32) := ⟨_, rfl⟩
                          have tw109 : w109.toInt = 1 := by rw [ew109]; decide
                          rw [show bk_X3_worth_O_197 nc_a0 ns_a0 o_a0 (lp_X3_worth_O_30 nc_a0 ns_a0 o_a0  N1) v3_1 v4_1 x41 v6_1 v7_1 x40 (1 : Int32) w99 o_me_1 = bk_X3_worth_O_197 nc_a0 ns_a0 o_a0 (lp_X3_worth_O_30 nc_a0 ns_a0 o_a0  N1) v3_1 v4_1 x41 v6_1 v7_1 x40 w109 w99 o_me_1 from by rw [ew109]]
                          unfold bk_X3_worth_O_197
                          refine wp_if (fun c110 => ?_) (fun c110 => ?_)
                          · have c110 := cv_eq (a := w99.toInt) (b := w109.toInt) rfl rfl c110
                            exfalso; omega
                          · have c110 := cv_ne (a := w99.toInt) (b := w109.toInt) rfl rfl c110
                            refine wp_lt (fun x111 ex111 => ?_)
                            have tx111 : x111.toInt = v4_1.toInt + (-1) := by rw [ex111]; exact i32_add rfl (by decide) (by omega) (by omega)
                            unfold bk_X3_worth_O_215
                            unfold bk_X3_worth_O_281
                            refine wp_lt (fun x112 ex112 => ?_)
                            have tx112 : x112.toInt = v7_1.toInt + 1 := by rw [ex112]; exact i32_add rfl (by decide) (by omega) (by omega)
                            have rg113 := i32_rg x41
                            have rg114 := i32_rg x112
                            exact ih1 v3_1 x111 x41 v6_1 x112 o_me_1 hI_me_1 hkp_me_1 ⟨by omega, by omega⟩ ⟨by omega, by omega⟩ ⟨by omega, by omega⟩ ⟨by omega, by omega⟩ ⟨by omega, by omega⟩ (by omega) (by omega) (by omega) (by omega) (by omega) (by omega) (by omega) (by omega) (by omega) (by omega) (by omega) (by omega) (by omega) (by omega) (by omega) (by omega) (by omega) (by omega)
                        · have c108 := cv_ne (a := x39.toInt) (b := 4) rfl (by decide) c108
                          obtain ⟨w115, ew115⟩ : ∃ z : Int32, z = (0 : Int32) := ⟨_, rfl⟩
                          have tw115 : w115.toInt = 0 := by rw [ew115]; decide
                          rw [show bk_X3_worth_O_197 nc_a0 ns_a0 o_a0 (lp_X3_worth_O_30 nc_a0 ns_a0 o_a0  N1) v3_1 v4_1 x41 v6_1 v7_1 x40 (0 : Int32) w99 o_me_1 = bk_X3_worth_O_197 nc_a0 ns_a0 o_a0 (lp_X3_worth_O_30 nc_a0 ns_a0 o_a0  N1) v3_1 v4_1 x41 v6_1 v7_1 x40 w115 w99 o_me_1 from by rw [ew115]]
                          unfold bk_X3_worth_O_197
                          refine wp_if (fun c116 => ?_) (fun c116 => ?_)
                          · have c116 := cv_eq (a := w99.toInt) (b := w115.toInt) rfl rfl c116
                            have rg118 := i32_rg x40
                            have t117 : 2 ≤ (if x41 < x40 then x40 else x41).toInt ∧ (if x41 < x40 then x40 else x41).toInt ≤ 2147483647 := z_max (a := x41.toInt) (b := x40.toInt) rfl rfl (by omega) (by omega)
                            have t119 := z_mxg x41 x40
                            refine wp_lt (fun x120 ex120 => ?_)
                            have tx120 : x120.toInt = (if x41 < x40 then x40 else x41).toInt := by rw [ex120]
                            unfold bk_X3_worth_O_215
                            unfold bk_X3_worth_O_281
                            refine wp_lt (fun x121 ex121 => ?_)
                            have tx121 : x121.toInt = v7_1.toInt + 1 := by rw [ex121]; exact i32_add rfl (by decide) (by omega) (by omega)
                            have rg122 := i32_rg x120
                            have rg123 := i32_rg x121
                            exact ih1 v3_1 v4_1 x120 v6_1 x121 o_me_1 hI_me_1 hkp_me_1 ⟨by omega, by omega⟩ ⟨by omega, by omega⟩ ⟨by omega, by omega⟩ ⟨by omega, by omega⟩ ⟨by omega, by omega⟩ (by omega) (by omega) (by omega) (by omega) (by omega) (by omega) (by omega) (by omega) (by omega) (by omega) (by omega) (by omega) (by omega) (by omega) (by omega) (by omega) (by omega) (by omega)
                          · have c116 := cv_ne (a := w99.toInt) (b := w115.toInt) rfl rfl c116
                            exfalso; omega
                  · have c71 := cv_nge (a := v4_1.toInt) (b := 1) rfl (by decide) c71
                    refine wp_some ?_
                    exact (show IvX3 o_me_1 ∧ Kp [] [] [] o_me o_me_1 from ⟨hI_me_1, hkp_me_1⟩)
    have rg124 := i32_rg x6
    exact lp1 zfu p2 (0 : Int32) x6 x9 p1 o_me hI_me Kp.rf ⟨by omega, by omega⟩ ⟨by decide, by decide⟩ ⟨by omega, by omega⟩ ⟨by omega, by omega⟩ ⟨by omega, by omega⟩ (by omega) (by omega) (by omega) (by omega) (by omega) (by omega) (by omega) (by omega) (by omega) (by omega) (by omega) (by omega) (by omega) (by omega) (by omega) (by omega) (by omega) (by show _ < 100000; omega)
  · have c1 := cv_nlt (a := p1.toInt) (b := p2.toInt) rfl rfl c1
    refine wp_some ?_
    exact (show IvX3 o_me ∧ Kp [] [] [] o_me o_me from ⟨hI_me, Kp.rf⟩)

set_option maxHeartbeats 4000000 in
set_option maxRecDepth 100000 in
theorem s_X1_told_O {pl : List CR} (nc_a0 : Nat) (ns_a0 : Nat) (o_me : Ob) (o_me_isles : Ob) (o_me_isles_now : Ob) (o_me_machine : Ob) (o_a0 : Ob) (p1 : Int32) (p2 : Int32) (p3 : Int32) (p4 : Int32) (hI_me : IvX1 o_me) (hI_me_isles : IvX2 pl o_me_isles) (hI_me_isles_now : IvX4 o_me_isles_now) (hI_me_machine : IvX3 o_me_machine) (hI_a0 : IvX0 nc_a0 ns_a0 o_a0)  : wp (f_X1_told_O  nc_a0 ns_a0 o_me o_me_isles o_me_isles_now o_me_machine o_a0 p1 p2 p3 p4) (fun (y : Int64 × Ob) => IvX3 y.2 ∧ Kp [] [] [] o_me_machine y.2) := by
  have li0 : (-9000000000000000000 : Int64).toInt = (-9000000000000000000) := by decide
  have li1 : (1 : Int32).toInt = 1 := by decide
  have li2 : (1 : Int64).toInt = 1 := by decide
  unfold f_X1_told_O
  have t9nc := igX0_7 hI_a0
  have t9ns := igX0_8 hI_a0
  refine wp_bd (s_X2_isPerson   o_me_isles p2  hI_me_isles  ) (fun z1 hz1 => ?_)
  obtain ⟨hz1_0, hz1_1⟩ := hz1
  refine wp_if (fun c2 => ?_) (fun c2 => ?_)
  · have c2 := cv_eq (a := z1.toInt) (b := 0) rfl (by decide) c2
    refine wp_some ?_
    exact (show IvX3 o_me_machine ∧ Kp [] [] [] o_me_machine o_me_machine from ⟨hI_me_machine, Kp.rf⟩)
  · have c2z := c2
    have c2i := hz1_1 c2
    have c2 := cv_ne (a := z1.toInt) (b := 0) rfl (by decide) c2
    refine wp_bd (s_X8_isRace   p3    ) (fun z3 hz3 => ?_)
    obtain ⟨hz3_0, hz3_1⟩ := hz3
    refine wp_if (fun c4 => ?_) (fun c4 => ?_)
    · have c4 := cv_eq (a := z3.toInt) (b := 0) rfl (by decide) c4
      refine wp_some ?_
      exact (show IvX3 o_me_machine ∧ Kp [] [] [] o_me_machine o_me_machine from ⟨hI_me_machine, Kp.rf⟩)
    · have c4z := c4
      have c4i := hz3_1 c4
      have c4 := cv_ne (a := z3.toInt) (b := 0) rfl (by decide) c4
      refine wp_bd (s_X3_setLawWords_O   o_me_machine o_me_isles o_me_isles_now p2 p3 p4  hI_me_machine hI_me_isles hI_me_isles_now  ⟨by omega, by omega⟩ ⟨by omega, by omega⟩) (fun z5 hz5 => ?_)
      obtain ⟨hz5_0, hz5_1⟩ := hz5
      have hkpz5_me_machine : Kp [] [] [] o_me_machine z5 := Kp.rf.trans (hz5_1.mono (by decide) (by decide) (by decide))
      have t6 : ((gI o_a0 7) - (1 : Int32)).toInt = (gI o_a0 7).toInt - 1 := i32_sub rfl (by decide) (by omega) (by omega)
      refine wp_lt (fun x7 ex7 => ?_)
      have tx7 : x7.toInt = ((gI o_a0 7) - (1 : Int32)).toInt := by rw [ex7]
      have lp1 : ∀ (N1 : Nat) (v2_1 : Int32) (v6_1 : Int32) (o_me_machine_1 : Ob), IvX3 o_me_machine_1 → Kp [] [] [] o_me_machine o_me_machine_1 → ((-1) ≤ v6_1.toInt ∧ v6_1.toInt ≤ 11) → (v6_1.toInt ≤ (gI o_a0 7).toInt + (-1)) → (v6_1.toInt ≤ x7.toInt + 0) → (v6_1.toInt - (-1)).toNat < N1 → wp (lp_X1_told_O_51 nc_a0 ns_a0 o_me o_me_isles o_me_isles_now o_a0  N1 (v2_1, v6_1, o_me_machine_1)) (fun (y : Int64 × Ob) => IvX3 y.2 ∧ Kp [] [] [] o_me_machine y.2) := by
        intro N1
        induction N1 with
        | zero =>
          intro v2_1 v6_1 o_me_machine_1 hI_me_machine_1 hkp_me_machine_1 hh8 hh9 hh10 hN1
          exact absurd hN1 (Nat.not_lt_zero _)
        | succ N1 ihx =>
          have ih1 := ihx
          intro v2_1 v6_1 o_me_machine_1 hI_me_machine_1 hkp_me_machine_1 hh8 hh9 hh10 hN1
          show wp (lb_X1_told_O_51 nc_a0 ns_a0 o_me o_me_isles o_me_isles_now o_a0  (lp_X1_told_O_51 nc_a0 ns_a0 o_me o_me_isles o_me_isles_now o_a0  N1) v2_1 v6_1 o_me_machine_1) (fun (y : Int64 × Ob) => IvX3 y.2 ∧ Kp [] [] [] o_me_machine y.2)
          unfold lb_X1_told_O_51
          refine wp_if (fun c11 => ?_) (fun c11 => ?_)
          · have c11 := cv_lt (a := v6_1.toInt) (b := 0) rfl (by decide) c11
            refine wp_some ?_
            exact (show IvX3 o_me_machine_1 ∧ Kp [] [] [] o_me_machine o_me_machine_1 from ⟨hI_me_machine_1, hkp_me_machine_1⟩)
          · have c11 := cv_nlt (a := v6_1.toInt) (b := 0) rfl (by decide) c11
            refine wp_gd (zin_of (m := (nc_a0 : Int)) rfl (by omega) (by omega)) ?_
            have rg13 := i32_rg (gA o_a0 0 v6_1.toNatClampNeg)
            have rg14 := i32_rg v2_1
            refine wp_if (fun c12 => ?_) (fun c12 => ?_)
            · have c12 := cv_eq (a := (gA o_a0 0 v6_1.toNatClampNeg).toInt) (b := v2_1.toInt) rfl rfl c12
              refine wp_gd (zin_of (m := (nc_a0 : Int)) rfl (by omega) (by omega)) ?_
              refine wp_gd (zin_of (m := (nc_a0 : Int)) rfl (by omega) (by omega)) ?_
              refine wp_bd (s_X3_worth_O  nc_a0 ns_a0 o_me_machine_1 o_a0 (gA o_a0 3 v6_1.toNatClampNeg) (gA o_a0 4 v6_1.toNatClampNeg)  hI_me_machine_1 hI_a0  ) (fun z15 hz15 => ?_)
              obtain ⟨hz15_0, hz15_1⟩ := hz15
              have hkpz15_me_machine : Kp [] [] [] o_me_machine z15.2 := hkp_me_machine_1.trans (hz15_1.mono (by decide) (by decide) (by decide))
              refine wp_if (fun c16 => ?_) (fun c16 => ?_)
              · have c16 := cvl_eq (a := z15.1.toInt) (b := 1) rfl (by decide) c16
                refine wp_gd (zin_of (m := (nc_a0 : Int)) rfl (by omega) (by omega)) ?_
                refine wp_gd (zin_of (m := (nc_a0 : Int)) rfl (by omega) (by omega)) ?_
                refine wp_bd (s_X3_worth_O  nc_a0 ns_a0 z15.2 o_a0 (gA o_a0 2 v6_1.toNatClampNeg) (gA o_a0 3 v6_1.toNatClampNeg)  hz15_0 hI_a0  ) (fun z17 hz17 => ?_)
                obtain ⟨hz17_0, hz17_1⟩ := hz17
                have hkpz17_me_machine : Kp [] [] [] o_me_machine z17.2 := hkpz15_me_machine.trans (hz17_1.mono (by decide) (by decide) (by decide))
                refine wp_if (fun c18 => ?_) (fun c18 => ?_)
                · have c18 := cvl_eq (a := z17.1.toInt) (b := (-9000000000000000000)) rfl (by decide) c18
                  unfold bk_X1_told_O_130
                  refine wp_lt (fun x19 ex19 => ?_)
                  have tx19 : x19.toInt = v6_1.toInt + (-1) := by rw [ex19]; exact i32_add rfl (by decide) (by omega) (by omega)
                  exact ih1 v2_1 x19 z17.2 hz17_0 hkpz17_me_machine ⟨by omega, by omega⟩ (by omega) (by omega) (by omega)
                · have c18 := cvl_ne (a := z17.1.toInt) (b := (-9000000000000000000)) rfl (by decide) c18
                  refine wp_some ?_
                  exact (show IvX3 z17.2 ∧ Kp [] [] [] o_me_machine z17.2 from ⟨hz17_0, hkpz17_me_machine⟩)
              · have c16 := cvl_ne (a := z15.1.toInt) (b := 1) rfl (by decide) c16
                unfold bk_X1_told_O_130
                refine wp_lt (fun x20 ex20 => ?_)
                have tx20 : x20.toInt = v6_1.toInt + (-1) := by rw [ex20]; exact i32_add rfl (by decide) (by omega) (by omega)
                exact ih1 v2_1 x20 z15.2 hz15_0 hkpz15_me_machine ⟨by omega, by omega⟩ (by omega) (by omega) (by omega)
            · have c12 := cv_ne (a := (gA o_a0 0 v6_1.toNatClampNeg).toInt) (b := v2_1.toInt) rfl rfl c12
              unfold bk_X1_told_O_130
              refine wp_lt (fun x21 ex21 => ?_)
              have tx21 : x21.toInt = v6_1.toInt + (-1) := by rw [ex21]; exact i32_add rfl (by decide) (by omega) (by omega)
              exact ih1 v2_1 x21 o_me_machine_1 hI_me_machine_1 hkp_me_machine_1 ⟨by omega, by omega⟩ (by omega) (by omega) (by omega)
      exact lp1 zfu p1 x7 z5 hz5_0 hkpz5_me_machine ⟨by omega, by omega⟩ (by omega) (by omega) (by show _ < 100000; omega)

set_option maxHeartbeats 4000000 in
set_option maxRecDepth 100000 in
theorem s_X1_isBarred_Q (o_me : Ob) (o_me_isles : Ob) (o_me_isles_now : Ob) (o_me_machine : Ob) (o_pool : List CR) (p0 : Option Nat) (p1 : Int32) (p2 : Int32) (hI_me : IvX1 o_me) (hI_me_isles : IvX2 o_pool o_me_isles) (hI_me_isles_now : IvX4 o_me_isles_now) (hI_me_machine : IvX3 o_me_machine) (hI_pool : PLok o_pool) (po_p0 : zpo o_pool p0 = true) (q0 : 0 ≤ p1.toInt ∧ p1.toInt ≤ 6) (q1 : 0 ≤ p2.toInt ∧ p2.toInt ≤ 3) : wp (f_X1_isBarred_Q   o_me o_me_isles o_me_isles_now o_me_machine o_pool p0 p1 p2) (fun (y : Int32 × Ob) => (0 ≤ y.1.toInt ∧ y.1.toInt ≤ 1) ∧ IvX3 y.2 ∧ Kp [] [] [] o_me_machine y.2) := by
  have li0 : (-1 : Int32).toInt = (-1) := by decide
  have li1 : (-9000000000000000000 : Int64).toInt = (-9000000000000000000) := by decide
  have li2 : (0 : Int32).toInt = 0 := by decide
  have li3 : (1 : Int32).toInt = 1 := by decide
  have li4 : (3 : Int32).toInt = 3 := by decide
  unfold f_X1_isBarred_Q
  refine wp_bd (Q := fun (z9 : Int64 × Ob) => IvX3 z9.2 ∧ Kp [] [] [] o_me_machine z9.2) (wp_zop po_p0 ⟨(_, o_me_machine), rfl, hI_me_machine, Kp.rf⟩ (fun c9 hc9 => s_X1_told_O c9.2.2.2.1 c9.2.2.2.2.1 o_me o_me_isles o_me_isles_now o_me_machine c9.2.2.2.2.2 (3 : Int32) p1 p2 (-1 : Int32) hI_me hI_me_isles hI_me_isles_now hI_me_machine (hI_pool c9 hc9))) (fun z1 hz1 => ?_)
  obtain ⟨hz1_0, hz1_1⟩ := hz1
  have hkpz1 : Kp [] [] [] o_me_machine z1.2 := Kp.rf.trans (hz1_1.mono (by decide) (by decide) (by decide))
  refine wp_if (fun c2 => ?_) (fun c2 => ?_)
  · have c2 := cvl_eq (a := z1.1.toInt) (b := (-9000000000000000000)) rfl (by decide) c2
    refine wp_some ?_
    exact (show (0 ≤ (0 : Int32).toInt ∧ (0 : Int32).toInt ≤ 1) ∧ IvX3 z1.2 ∧ Kp [] [] [] o_me_machine z1.2 from ⟨⟨by decide, by decide⟩, hz1_0, hkpz1⟩)
  · have c2 := cvl_ne (a := z1.1.toInt) (b := (-9000000000000000000)) rfl (by decide) c2
    refine wp_some ?_
    exact (show (0 ≤ (1 : Int32).toInt ∧ (1 : Int32).toInt ≤ 1) ∧ IvX3 z1.2 ∧ Kp [] [] [] o_me_machine z1.2 from ⟨⟨by decide, by decide⟩, hz1_0, hkpz1⟩)

set_option maxHeartbeats 4000000 in
set_option maxRecDepth 100000 in
theorem s_X1_nearest (p0 : Int64) (p1 : Int32)  (q0 : 99 ≤ p1.toInt ∧ p1.toInt ≤ 99) : wp (f_X1_nearest   p0 p1) (fun (y : Int32) => (0 ≤ y.toInt ∧ y.toInt ≤ 99)) := by
  have li0 : (0 : Int64).toInt = 0 := by decide
  unfold f_X1_nearest
  have t1 : p1.toInt64.toInt = p1.toInt := Int32.toInt_toInt64 _
  have rg3 := i64_rg p0
  have t2 : (-9223372036854775808) ≤ (if p1.toInt64 < p0 then p1.toInt64 else p0).toInt ∧ (if p1.toInt64 < p0 then p1.toInt64 else p0).toInt ≤ 99 := z_minl (a := p0.toInt) (b := p1.toInt64.toInt) rfl rfl (by omega) (by omega)
  have t4 : 0 ≤ (if (if p1.toInt64 < p0 then p1.toInt64 else p0) < (0 : Int64) then (0 : Int64) else (if p1.toInt64 < p0 then p1.toInt64 else p0)).toInt ∧ (if (if p1.toInt64 < p0 then p1.toInt64 else p0) < (0 : Int64) then (0 : Int64) else (if p1.toInt64 < p0 then p1.toInt64 else p0)).toInt ≤ 99 := z_maxl (a := 0) (b := (if p1.toInt64 < p0 then p1.toInt64 else p0).toInt) (by decide) rfl (by omega) (by omega)
  have t5 : ((if (if p1.toInt64 < p0 then p1.toInt64 else p0) < (0 : Int64) then (0 : Int64) else (if p1.toInt64 < p0 then p1.toInt64 else p0)).toInt32).toInt = (if (if p1.toInt64 < p0 then p1.toInt64 else p0) < (0 : Int64) then (0 : Int64) else (if p1.toInt64 < p0 then p1.toInt64 else p0)).toInt := l2i_eq (by omega) (by omega)
  refine wp_some ?_
  exact (show (0 ≤ ((if (if p1.toInt64 < p0 then p1.toInt64 else p0) < (0 : Int64) then (0 : Int64) else (if p1.toInt64 < p0 then p1.toInt64 else p0)).toInt32).toInt ∧ ((if (if p1.toInt64 < p0 then p1.toInt64 else p0) < (0 : Int64) then (0 : Int64) else (if p1.toInt64 < p0 then p1.toInt64 else p0)).toInt32).toInt ≤ 99) from ⟨by omega, by omega⟩)

set_option maxHeartbeats 4000000 in
set_option maxRecDepth 100000 in
theorem s_X1_runsBy_Q (o_me : Ob) (o_me_isles : Ob) (o_me_isles_now : Ob) (o_me_machine : Ob) (o_pool : List CR) (p0 : Option Nat) (p1 : Int32) (p2 : Int32) (hI_me : IvX1 o_me) (hI_me_isles : IvX2 o_pool o_me_isles) (hI_me_isles_now : IvX4 o_me_isles_now) (hI_me_machine : IvX3 o_me_machine) (hI_pool : PLok o_pool) (po_p0 : zpo o_pool p0 = true) (q0 : 0 ≤ p1.toInt ∧ p1.toInt ≤ 6) (q1 : 0 ≤ p2.toInt ∧ p2.toInt ≤ 3) : wp (f_X1_runsBy_Q   o_me o_me_isles o_me_isles_now o_me_machine o_pool p0 p1 p2) (fun (y : Int32 × Ob) => IvX3 y.2 ∧ Kp [] [] [] o_me_machine y.2) := by
  have li0 : (-1 : Int32).toInt = (-1) := by decide
  have li1 : (-9000000000000000000 : Int64).toInt = (-9000000000000000000) := by decide
  have li2 : (0 : Int32).toInt = 0 := by decide
  have li3 : (4 : Int32).toInt = 4 := by decide
  have li4 : (99 : Int32).toInt = 99 := by decide
  unfold f_X1_runsBy_Q
  refine wp_bd (Q := fun (z9 : Int64 × Ob) => IvX3 z9.2 ∧ Kp [] [] [] o_me_machine z9.2) (wp_zop po_p0 ⟨(_, o_me_machine), rfl, hI_me_machine, Kp.rf⟩ (fun c9 hc9 => s_X1_told_O c9.2.2.2.1 c9.2.2.2.2.1 o_me o_me_isles o_me_isles_now o_me_machine c9.2.2.2.2.2 (0 : Int32) p1 p2 (-1 : Int32) hI_me hI_me_isles hI_me_isles_now hI_me_machine (hI_pool c9 hc9))) (fun z1 hz1 => ?_)
  obtain ⟨hz1_0, hz1_1⟩ := hz1
  have hkpz1 : Kp [] [] [] o_me_machine z1.2 := Kp.rf.trans (hz1_1.mono (by decide) (by decide) (by decide))
  refine wp_if (fun c2 => ?_) (fun c2 => ?_)
  · have c2 := cvl_eq (a := z1.1.toInt) (b := (-9000000000000000000)) rfl (by decide) c2
    have t3 : (p1 * (4 : Int32)).toInt = p1.toInt * 4 := i32_mul rfl (by decide) (by omega) (by omega)
    have t4 : ((p1 * (4 : Int32)) + p2).toInt = (p1 * (4 : Int32)).toInt + p2.toInt := i32_add rfl rfl (by omega) (by omega)
    refine wp_gd (zin_of (m := 28) rfl (by omega) (by omega)) ?_
    refine wp_some ?_
    exact (show IvX3 z1.2 ∧ Kp [] [] [] o_me_machine z1.2 from ⟨hz1_0, hkpz1⟩)
  · have c2 := cvl_ne (a := z1.1.toInt) (b := (-9000000000000000000)) rfl (by decide) c2
    refine wp_bd (s_X1_nearest   z1.1 (99 : Int32)    ⟨by decide, by decide⟩) (fun z5 hz5 => ?_)
    have hz5_0 := hz5
    refine wp_some ?_
    exact (show IvX3 z1.2 ∧ Kp [] [] [] o_me_machine z1.2 from ⟨hz1_0, hkpz1⟩)

set_option maxHeartbeats 4000000 in
set_option maxRecDepth 100000 in
theorem s_X7_setScores (o_me : Ob) (o_me_court : Ob) (o_me_court_isles : Ob) (o_me_court_isles_now : Ob) (o_me_court_machine : Ob) (o_pool : List CR) (p0 : Int32) (hI_me : IvX7 o_me) (hI_me_court : IvX1 o_me_court) (hI_me_court_isles : IvX2 o_pool o_me_court_isles) (hI_me_court_isles_now : IvX4 o_me_court_isles_now) (hI_me_court_machine : IvX3 o_me_court_machine) (hI_pool : PLok o_pool) (q0 : 0 ≤ p0.toInt ∧ p0.toInt ≤ 3) : wp (f_X7_setScores   o_me o_me_court o_me_court_isles o_me_court_isles_now o_me_court_machine o_pool p0) (fun (y : Ob × Ob) => IvX7 y.1 ∧ Kp [] [2, 3] [] o_me y.1 ∧ IvX3 y.2 ∧ Kp [] [] [] o_me_court_machine y.2) := by
  have li0 : (-1 : Int32).toInt = (-1) := by decide
  have li1 : (0 : Int32).toInt = 0 := by decide
  have li2 : (7 : Int32).toInt = 7 := by decide
  unfold f_X7_setScores
  refine wp_bd (s_X2_lawInForce   o_me_court_isles  hI_me_court_isles  ) (fun z1 hz1 => ?_)
  have hz1_0 := hz1
  have lp1 : ∀ (N1 : Nat) (v1_1 : Int32) (v2_1 : Option Nat) (v3_1 : Int32) (o_me_1 : Ob) (o_me_court_machine_1 : Ob), IvX7 o_me_1 → Kp [] [2, 3] [] o_me o_me_1 → IvX3 o_me_court_machine_1 → Kp [] [] [] o_me_court_machine o_me_court_machine_1 → zpo o_pool v2_1 = true → (0 ≤ v1_1.toInt ∧ v1_1.toInt ≤ 3) → (0 ≤ v3_1.toInt ∧ v3_1.toInt ≤ 7) → (v1_1.toInt ≤ p0.toInt + 0) → (p0.toInt ≤ v1_1.toInt + 0) → (7 - v3_1.toInt).toNat < N1 → wp (lp_X7_setScores_10 o_me_court o_me_court_isles o_me_court_isles_now o_pool  N1 (v1_1, v2_1, v3_1, o_me_1, o_me_court_machine_1)) (fun (y : Ob × Ob) => IvX7 y.1 ∧ Kp [] [2, 3] [] o_me y.1 ∧ IvX3 y.2 ∧ Kp [] [] [] o_me_court_machine y.2) := by
    intro N1
    induction N1 with
    | zero =>
      intro v1_1 v2_1 v3_1 o_me_1 o_me_court_machine_1 hI_me_1 hkp_me_1 hI_me_court_machine_1 hkp_me_court_machine_1 po_v2_1 hh2 hh3 hh4 hh5 hN1
      exact absurd hN1 (Nat.not_lt_zero _)
    | succ N1 ihx =>
      have ih1 := ihx
      intro v1_1 v2_1 v3_1 o_me_1 o_me_court_machine_1 hI_me_1 hkp_me_1 hI_me_court_machine_1 hkp_me_court_machine_1 po_v2_1 hh2 hh3 hh4 hh5 hN1
      show wp (lb_X7_setScores_10 o_me_court o_me_court_isles o_me_court_isles_now o_pool  (lp_X7_setScores_10 o_me_court o_me_court_isles o_me_court_isles_now o_pool  N1) v1_1 v2_1 v3_1 o_me_1 o_me_court_machine_1) (fun (y : Ob × Ob) => IvX7 y.1 ∧ Kp [] [2, 3] [] o_me y.1 ∧ IvX3 y.2 ∧ Kp [] [] [] o_me_court_machine y.2)
      unfold lb_X7_setScores_10
      have t6 := igX2_7 hI_me_court_isles
      refine wp_if (fun c7 => ?_) (fun c7 => ?_)
      · have c7 := cv_ge (a := v3_1.toInt) (b := (gI o_me_court_isles 7).toInt) rfl rfl c7
        refine wp_some ?_
        exact (show IvX7 o_me_1 ∧ Kp [] [2, 3] [] o_me o_me_1 ∧ IvX3 o_me_court_machine_1 ∧ Kp [] [] [] o_me_court_machine o_me_court_machine_1 from ⟨hI_me_1, hkp_me_1, hI_me_court_machine_1, hkp_me_court_machine_1⟩)
      · have c7 := cv_nge (a := v3_1.toInt) (b := (gI o_me_court_isles 7).toInt) rfl rfl c7
        have t8 : (v1_1 * (7 : Int32)).toInt = v1_1.toInt * 7 := i32_mul rfl (by decide) (by omega) (by omega)
        have t9 : ((v1_1 * (7 : Int32)) + v3_1).toInt = (v1_1 * (7 : Int32)).toInt + v3_1.toInt := i32_add rfl rfl (by omega) (by omega)
        refine wp_bd (s_X1_isBarred_Q   o_me_court o_me_court_isles o_me_court_isles_now o_me_court_machine_1 o_pool v2_1 v3_1 v1_1  hI_me_court hI_me_court_isles hI_me_court_isles_now hI_me_court_machine_1 hI_pool po_v2_1 ⟨by omega, by omega⟩ ⟨by omega, by omega⟩) (fun z10 hz10 => ?_)
        obtain ⟨hz10_0, hz10_1, hz10_2⟩ := hz10
        have hkpz10_me_court_machine : Kp [] [] [] o_me_court_machine z10.2 := hkp_me_court_machine_1.trans (hz10_2.mono (by decide) (by decide) (by decide))
        refine wp_if (fun c11 => ?_) (fun c11 => ?_)
        · have c11 := cv_eq (a := z10.1.toInt) (b := 0) rfl (by decide) c11
          refine wp_bd (s_X1_runsBy_Q   o_me_court o_me_court_isles o_me_court_isles_now z10.2 o_pool v2_1 v3_1 v1_1  hI_me_court hI_me_court_isles hI_me_court_isles_now hz10_1 hI_pool po_v2_1 ⟨by omega, by omega⟩ ⟨by omega, by omega⟩) (fun z12 hz12 => ?_)
          obtain ⟨hz12_0, hz12_1⟩ := hz12
          have hkpz12_me_court_machine : Kp [] [] [] o_me_court_machine z12.2 := hkpz10_me_court_machine.trans (hz12_1.mono (by decide) (by decide) (by decide))
          obtain ⟨w13, ew13⟩ : ∃ z : Int32, z = (v1_1 * (7 : Int32)) + v3_1 := ⟨_, rfl⟩
          have tw13 : w13.toInt = ((v1_1 * (7 : Int32)) + v3_1).toInt := by rw [ew13]
          rw [show bk_X7_setScores_58 o_me_court o_me_court_isles o_me_court_isles_now o_pool (lp_X7_setScores_10 o_me_court o_me_court_isles o_me_court_isles_now o_pool  N1) v1_1 v2_1 v3_1 z12.1 ((v1_1 * (7 : Int32)) + v3_1) o_me_1 z12.2 = bk_X7_setScores_58 o_me_court o_me_court_isles o_me_court_isles_now o_pool (lp_X7_setScores_10 o_me_court o_me_court_isles o_me_court_isles_now o_pool  N1) v1_1 v2_1 v3_1 z12.1 w13 o_me_1 z12.2 from by rw [ew13]]
          unfold bk_X7_setScores_58
          refine wp_gd (zin_of (m := 28) rfl (by omega) (by omega)) ?_
          refine wp_lt (fun o14 eo14 => ?_)
          have hIo14 : IvX7 o14 := by rw [eo14]; exact hI_me_1
          have ko14_v : (gA o14 5 w13.toNatClampNeg).toInt = z12.1.toInt := by rw [eo14]; exact congrArg Int32.toInt (upd_eq (g := gA o_me_1 5) (i := w13) (v := z12.1))
          have hkpo14 : Kp [] [2, 3] [] o_me o14 := hkp_me_1.trans (by rw [eo14]; exact Kp.tA (by decide) (by decide))
          refine wp_lt (fun x15 ex15 => ?_)
          have tx15 : x15.toInt = v3_1.toInt + 1 := by rw [ex15]; exact i32_add rfl (by decide) (by omega) (by omega)
          exact ih1 v1_1 v2_1 x15 o14 z12.2 hIo14 hkpo14 hz12_0 hkpz12_me_court_machine po_v2_1 ⟨by omega, by omega⟩ ⟨by omega, by omega⟩ (by omega) (by omega) (by omega)
        · have c11z := c11
          have c11 := cv_ne (a := z10.1.toInt) (b := 0) rfl (by decide) c11
          obtain ⟨w16, ew16⟩ : ∃ z : Int32, z = (-1 : Int32) := ⟨_, rfl⟩
          have tw16 : w16.toInt = (-1) := by rw [ew16]; decide
          obtain ⟨w17, ew17⟩ : ∃ z : Int32, z = (v1_1 * (7 : Int32)) + v3_1 := ⟨_, rfl⟩
          have tw17 : w17.toInt = ((v1_1 * (7 : Int32)) + v3_1).toInt := by rw [ew17]
          rw [show bk_X7_setScores_58 o_me_court o_me_court_isles o_me_court_isles_now o_pool (lp_X7_setScores_10 o_me_court o_me_court_isles o_me_court_isles_now o_pool  N1) v1_1 v2_1 v3_1 (-1 : Int32) ((v1_1 * (7 : Int32)) + v3_1) o_me_1 z10.2 = bk_X7_setScores_58 o_me_court o_me_court_isles o_me_court_isles_now o_pool (lp_X7_setScores_10 o_me_court o_me_court_isles o_me_court_isles_now o_pool  N1) v1_1 v2_1 v3_1 w16 w17 o_me_1 z10.2 from by rw [ew16, ew17]]
          unfold bk_X7_setScores_58
          refine wp_gd (zin_of (m := 28) rfl (by omega) (by omega)) ?_
          refine wp_lt (fun o18 eo18 => ?_)
          have hIo18 : IvX7 o18 := by rw [eo18]; exact hI_me_1
          have ko18_v : (gA o18 5 w17.toNatClampNeg).toInt = w16.toInt := by rw [eo18]; exact congrArg Int32.toInt (upd_eq (g := gA o_me_1 5) (i := w17) (v := w16))
          have hkpo18 : Kp [] [2, 3] [] o_me o18 := hkp_me_1.trans (by rw [eo18]; exact Kp.tA (by decide) (by decide))
          refine wp_lt (fun x19 ex19 => ?_)
          have tx19 : x19.toInt = v3_1.toInt + 1 := by rw [ex19]; exact i32_add rfl (by decide) (by omega) (by omega)
          exact ih1 v1_1 v2_1 x19 o18 z10.2 hIo18 hkpo18 hz10_1 hkpz10_me_court_machine po_v2_1 ⟨by omega, by omega⟩ ⟨by omega, by omega⟩ (by omega) (by omega) (by omega)
  exact lp1 zfu p0 z1 (0 : Int32) o_me o_me_court_machine hI_me Kp.rf hI_me_court_machine Kp.rf hz1_0 ⟨by omega, by omega⟩ ⟨by decide, by decide⟩ (by omega) (by omega) (by show _ < 100000; omega)

set_option maxHeartbeats 4000000 in
set_option maxRecDepth 100000 in
theorem s_X7_aheadOf {pl : List CR} (o_me : Ob) (o_me_court_isles : Ob) (p0 : Int32) (p1 : Int32) (hI_me : IvX7 o_me) (hI_me_court_isles : IvX2 pl o_me_court_isles) (q0 : 0 ≤ p0.toInt ∧ p0.toInt ≤ 6) (q1 : 0 ≤ p1.toInt ∧ p1.toInt ≤ 3) : wp (f_X7_aheadOf   o_me o_me_court_isles p0 p1) (fun (y : Int32) => (0 ≤ y.toInt ∧ y.toInt ≤ 127)) := by
  have li0 : (-1 : Int32).toInt = (-1) := by decide
  have li1 : (0 : Int32).toInt = 0 := by decide
  have li2 : (1 : Int32).toInt = 1 := by decide
  have li3 : (7 : Int32).toInt = 7 := by decide
  unfold f_X7_aheadOf
  have t1 : (p1 * (7 : Int32)).toInt = p1.toInt * 7 := i32_mul rfl (by decide) (by omega) (by omega)
  have t2 : ((p1 * (7 : Int32)) + p0).toInt = (p1 * (7 : Int32)).toInt + p0.toInt := i32_add rfl rfl (by omega) (by omega)
  refine wp_gd (zin_of (m := 28) rfl (by omega) (by omega)) ?_
  refine wp_lt (fun x3 ex3 => ?_)
  have tx3 : x3.toInt = (gA o_me 5 ((p1 * (7 : Int32)) + p0).toNatClampNeg).toInt := by rw [ex3]
  have lp1 : ∀ (N1 : Nat) (v1_1 : Int32) (v2_1 : Int32) (v3_1 : Int32) (v4_1 : Int32) (v5_1 : Int32), (0 ≤ v1_1.toInt ∧ v1_1.toInt ≤ 6) → (0 ≤ v2_1.toInt ∧ v2_1.toInt ≤ 3) → (0 ≤ v4_1.toInt ∧ v4_1.toInt ≤ 127) → (0 ≤ v5_1.toInt ∧ v5_1.toInt ≤ 7) → (v1_1.toInt ≤ p0.toInt + 0) → (p0.toInt ≤ v1_1.toInt + 0) → (v2_1.toInt ≤ p1.toInt + 0) → (p1.toInt ≤ v2_1.toInt + 0) → (v3_1.toInt ≤ x3.toInt + 0) → (x3.toInt ≤ v3_1.toInt + 0) → (7 - v5_1.toInt).toNat < N1 → wp (lp_X7_aheadOf_18 o_me o_me_court_isles  N1 (v1_1, v2_1, v3_1, v4_1, v5_1)) (fun (y : Int32) => (0 ≤ y.toInt ∧ y.toInt ≤ 127)) := by
    intro N1
    induction N1 with
    | zero =>
      intro v1_1 v2_1 v3_1 v4_1 v5_1 hh4 hh5 hh6 hh7 hh8 hh9 hh10 hh11 hh12 hh13 hN1
      exact absurd hN1 (Nat.not_lt_zero _)
    | succ N1 ihx =>
      have ih1 := ihx
      intro v1_1 v2_1 v3_1 v4_1 v5_1 hh4 hh5 hh6 hh7 hh8 hh9 hh10 hh11 hh12 hh13 hN1
      show wp (lb_X7_aheadOf_18 o_me o_me_court_isles  (lp_X7_aheadOf_18 o_me o_me_court_isles  N1) v1_1 v2_1 v3_1 v4_1 v5_1) (fun (y : Int32) => (0 ≤ y.toInt ∧ y.toInt ≤ 127))
      unfold lb_X7_aheadOf_18
      have t14 := igX2_7 hI_me_court_isles
      refine wp_if (fun c15 => ?_) (fun c15 => ?_)
      · have c15 := cv_ge (a := v5_1.toInt) (b := (gI o_me_court_isles 7).toInt) rfl rfl c15
        refine wp_some ?_
        exact (show (0 ≤ v4_1.toInt ∧ v4_1.toInt ≤ 127) from ⟨by omega, by omega⟩)
      · have c15 := cv_nge (a := v5_1.toInt) (b := (gI o_me_court_isles 7).toInt) rfl rfl c15
        have t16 : (v2_1 * (7 : Int32)).toInt = v2_1.toInt * 7 := i32_mul rfl (by decide) (by omega) (by omega)
        have t17 : ((v2_1 * (7 : Int32)) + v5_1).toInt = (v2_1 * (7 : Int32)).toInt + v5_1.toInt := i32_add rfl rfl (by omega) (by omega)
        refine wp_gd (zin_of (m := 28) rfl (by omega) (by omega)) ?_
        refine wp_lt (fun x18 ex18 => ?_)
        have tx18 : x18.toInt = (gA o_me 5 ((v2_1 * (7 : Int32)) + v5_1).toNatClampNeg).toInt := by rw [ex18]
        refine wp_if (fun c19 => ?_) (fun c19 => ?_)
        · have c19 := cv_eq (a := x18.toInt) (b := (-1)) rfl (by decide) c19
          unfold bk_X7_aheadOf_77
          refine wp_lt (fun x20 ex20 => ?_)
          have tx20 : x20.toInt = v5_1.toInt + 1 := by rw [ex20]; exact i32_add rfl (by decide) (by omega) (by omega)
          exact ih1 v1_1 v2_1 v3_1 v4_1 x20  ⟨by omega, by omega⟩ ⟨by omega, by omega⟩ ⟨by omega, by omega⟩ ⟨by omega, by omega⟩ (by omega) (by omega) (by omega) (by omega) (by omega) (by omega) (by omega)
        · have c19 := cv_ne (a := x18.toInt) (b := (-1)) rfl (by decide) c19
          have rg22 := i32_rg x18
          have rg23 := i32_rg v3_1
          refine wp_if (fun c21 => ?_) (fun c21 => ?_)
          · have c21 := cv_gt (a := x18.toInt) (b := v3_1.toInt) rfl rfl c21
            unfold bk_X7_aheadOf_68
            have t24 : 1 ≤ ((1 : Int32) <<< (v5_1 &&& 31)).toInt ∧ ((1 : Int32) <<< (v5_1 &&& 31)).toInt ≤ 64 := i32_shl6 (p := v5_1) (by omega) (by omega)
            have t25 := i32_or7 (x := v4_1) (y := (1 : Int32) <<< (v5_1 &&& 31)) ⟨by omega, by omega⟩ ⟨by omega, by omega⟩
            refine wp_lt (fun x26 ex26 => ?_)
            have tx26 : x26.toInt = (v4_1 ||| ((1 : Int32) <<< (v5_1 &&& 31))).toInt := by rw [ex26]
            unfold bk_X7_aheadOf_77
            refine wp_lt (fun x27 ex27 => ?_)
            have tx27 : x27.toInt = v5_1.toInt + 1 := by rw [ex27]; exact i32_add rfl (by decide) (by omega) (by omega)
            exact ih1 v1_1 v2_1 v3_1 x26 x27  ⟨by omega, by omega⟩ ⟨by omega, by omega⟩ ⟨by omega, by omega⟩ ⟨by omega, by omega⟩ (by omega) (by omega) (by omega) (by omega) (by omega) (by omega) (by omega)
          · have c21 := cv_ngt (a := x18.toInt) (b := v3_1.toInt) rfl rfl c21
            refine wp_if (fun c28 => ?_) (fun c28 => ?_)
            · have c28 := cv_eq (a := x18.toInt) (b := v3_1.toInt) rfl rfl c28
              refine wp_if (fun c29 => ?_) (fun c29 => ?_)
              · have c29 := cv_ge (a := v5_1.toInt) (b := v1_1.toInt) rfl rfl c29
                unfold bk_X7_aheadOf_77
                refine wp_lt (fun x30 ex30 => ?_)
                have tx30 : x30.toInt = v5_1.toInt + 1 := by rw [ex30]; exact i32_add rfl (by decide) (by omega) (by omega)
                exact ih1 v1_1 v2_1 v3_1 v4_1 x30  ⟨by omega, by omega⟩ ⟨by omega, by omega⟩ ⟨by omega, by omega⟩ ⟨by omega, by omega⟩ (by omega) (by omega) (by omega) (by omega) (by omega) (by omega) (by omega)
              · have c29 := cv_nge (a := v5_1.toInt) (b := v1_1.toInt) rfl rfl c29
                unfold bk_X7_aheadOf_68
                have t31 : 1 ≤ ((1 : Int32) <<< (v5_1 &&& 31)).toInt ∧ ((1 : Int32) <<< (v5_1 &&& 31)).toInt ≤ 64 := i32_shl6 (p := v5_1) (by omega) (by omega)
                have t32 := i32_or7 (x := v4_1) (y := (1 : Int32) <<< (v5_1 &&& 31)) ⟨by omega, by omega⟩ ⟨by omega, by omega⟩
                refine wp_lt (fun x33 ex33 => ?_)
                have tx33 : x33.toInt = (v4_1 ||| ((1 : Int32) <<< (v5_1 &&& 31))).toInt := by rw [ex33]
                unfold bk_X7_aheadOf_77
                refine wp_lt (fun x34 ex34 => ?_)
                have tx34 : x34.toInt = v5_1.toInt + 1 := by rw [ex34]; exact i32_add rfl (by decide) (by omega) (by omega)
                exact ih1 v1_1 v2_1 v3_1 x33 x34  ⟨by omega, by omega⟩ ⟨by omega, by omega⟩ ⟨by omega, by omega⟩ ⟨by omega, by omega⟩ (by omega) (by omega) (by omega) (by omega) (by omega) (by omega) (by omega)
            · have c28 := cv_ne (a := x18.toInt) (b := v3_1.toInt) rfl rfl c28
              unfold bk_X7_aheadOf_77
              refine wp_lt (fun x35 ex35 => ?_)
              have tx35 : x35.toInt = v5_1.toInt + 1 := by rw [ex35]; exact i32_add rfl (by decide) (by omega) (by omega)
              exact ih1 v1_1 v2_1 v3_1 v4_1 x35  ⟨by omega, by omega⟩ ⟨by omega, by omega⟩ ⟨by omega, by omega⟩ ⟨by omega, by omega⟩ (by omega) (by omega) (by omega) (by omega) (by omega) (by omega) (by omega)
  exact lp1 zfu p0 p1 x3 (0 : Int32) (0 : Int32)  ⟨by omega, by omega⟩ ⟨by omega, by omega⟩ ⟨by decide, by decide⟩ ⟨by decide, by decide⟩ (by omega) (by omega) (by omega) (by omega) (by omega) (by omega) (by show _ < 100000; omega)

set_option maxHeartbeats 4000000 in
set_option maxRecDepth 100000 in
theorem s_J6_bitCount_0f7a4 (p0 : Int32)   : wp (f_J6_bitCount_0f7a4   p0) (fun (y : Int32) => (0 ≤ y.toInt ∧ y.toInt ≤ 63)) := by
  have li0 : (1 : Int32).toInt = 1 := by decide
  have li1 : (1431655765 : Int32).toInt = 1431655765 := by decide
  have li2 : (16 : Int32).toInt = 16 := by decide
  have li3 : (2 : Int32).toInt = 2 := by decide
  have li4 : (252645135 : Int32).toInt = 252645135 := by decide
  have li5 : (4 : Int32).toInt = 4 := by decide
  have li6 : (63 : Int32).toInt = 63 := by decide
  have li7 : (8 : Int32).toInt = 8 := by decide
  have li8 : (858993459 : Int32).toInt = 858993459 := by decide
  unfold f_J6_bitCount_0f7a4
  have t1 := i32_and (x := (p0.toUInt32 >>> ((1 : Int32).toUInt32 &&& Int32.toUInt32 31)).toInt32) (y := (1431655765 : Int32)) (m := 1431655765) ⟨by decide, by decide⟩
  refine wp_lt (fun x2 ex2 => ?_)
  have tx2 : x2.toInt = (p0 - (((p0.toUInt32 >>> ((1 : Int32).toUInt32 &&& Int32.toUInt32 31)).toInt32) &&& (1431655765 : Int32))).toInt := by rw [ex2]
  have t3 := i32_and (x := x2) (y := (858993459 : Int32)) (m := 858993459) ⟨by decide, by decide⟩
  have t4 := i32_and (x := (x2.toUInt32 >>> ((2 : Int32).toUInt32 &&& Int32.toUInt32 31)).toInt32) (y := (858993459 : Int32)) (m := 858993459) ⟨by decide, by decide⟩
  have t5 : ((x2 &&& (858993459 : Int32)) + (((x2.toUInt32 >>> ((2 : Int32).toUInt32 &&& Int32.toUInt32 31)).toInt32) &&& (858993459 : Int32))).toInt = (x2 &&& (858993459 : Int32)).toInt + (((x2.toUInt32 >>> ((2 : Int32).toUInt32 &&& Int32.toUInt32 31)).toInt32) &&& (858993459 : Int32)).toInt := i32_add rfl rfl (by omega) (by omega)
  refine wp_lt (fun x6 ex6 => ?_)
  have tx6 : x6.toInt = ((x2 &&& (858993459 : Int32)) + (((x2.toUInt32 >>> ((2 : Int32).toUInt32 &&& Int32.toUInt32 31)).toInt32) &&& (858993459 : Int32))).toInt := by rw [ex6]
  have t7 := i32_and (x := x6 + ((x6.toUInt32 >>> ((4 : Int32).toUInt32 &&& Int32.toUInt32 31)).toInt32)) (y := (252645135 : Int32)) (m := 252645135) ⟨by decide, by decide⟩
  refine wp_lt (fun x8 ex8 => ?_)
  have tx8 : x8.toInt = ((x6 + ((x6.toUInt32 >>> ((4 : Int32).toUInt32 &&& Int32.toUInt32 31)).toInt32)) &&& (252645135 : Int32)).toInt := by rw [ex8]
  refine wp_lt (fun x9 ex9 => ?_)
  have tx9 : x9.toInt = (x8 + ((x8.toUInt32 >>> ((8 : Int32).toUInt32 &&& Int32.toUInt32 31)).toInt32)).toInt := by rw [ex9]
  refine wp_lt (fun x10 ex10 => ?_)
  have tx10 : x10.toInt = (x9 + ((x9.toUInt32 >>> ((16 : Int32).toUInt32 &&& Int32.toUInt32 31)).toInt32)).toInt := by rw [ex10]
  have t11 := i32_and (x := x10) (y := (63 : Int32)) (m := 63) ⟨by decide, by decide⟩
  refine wp_some ?_
  exact (show (0 ≤ (x10 &&& (63 : Int32)).toInt ∧ (x10 &&& (63 : Int32)).toInt ≤ 63) from ⟨by omega, by omega⟩)

set_option maxHeartbeats 4000000 in
set_option maxRecDepth 100000 in
theorem s_X7_lowestBits (p0 : Int32) (p1 : Int32)  (q0 : (-64) ≤ p1.toInt ∧ p1.toInt ≤ 64) : wp (f_X7_lowestBits   p0 p1) (fun (y : Int32) => True) := by
  have li0 : (-1 : Int32).toInt = (-1) := by decide
  have li1 : (0 : Int32).toInt = 0 := by decide
  have li2 : (1 : Int32).toInt = 1 := by decide
  unfold f_X7_lowestBits
  have lp1 : ∀ (N1 : Nat) (v1_1 : Int32) (v2_1 : Int32) (v3_1 : Int32) (v4_1 : Int32), ((-64) ≤ v1_1.toInt ∧ v1_1.toInt ≤ 64) → (0 ≤ v4_1.toInt ∧ v4_1.toInt ≤ 64) → (v1_1.toInt ≤ p1.toInt + 0) → (p1.toInt ≤ v1_1.toInt + 0) → (64 - v4_1.toInt).toNat < N1 → wp (lp_X7_lowestBits_7   N1 (v1_1, v2_1, v3_1, v4_1)) (fun (y : Int32) => True) := by
    intro N1
    induction N1 with
    | zero =>
      intro v1_1 v2_1 v3_1 v4_1 hh1 hh2 hh3 hh4 hN1
      exact absurd hN1 (Nat.not_lt_zero _)
    | succ N1 ihx =>
      have ih1 := ihx
      intro v1_1 v2_1 v3_1 v4_1 hh1 hh2 hh3 hh4 hN1
      show wp (lb_X7_lowestBits_7   (lp_X7_lowestBits_7   N1) v1_1 v2_1 v3_1 v4_1) (fun (y : Int32) => True)
      unfold lb_X7_lowestBits_7
      refine wp_if (fun c5 => ?_) (fun c5 => ?_)
      · have c5 := cv_ge (a := v4_1.toInt) (b := v1_1.toInt) rfl rfl c5
        refine wp_some ?_
        exact trivial
      · have c5 := cv_nge (a := v4_1.toInt) (b := v1_1.toInt) rfl rfl c5
        refine wp_if (fun c6 => ?_) (fun c6 => ?_)
        · have c6 := cv_eq (a := v3_1.toInt) (b := 0) rfl (by decide) c6
          refine wp_some ?_
          exact trivial
        · have c6z := c6
          have c6 := cv_ne (a := v3_1.toInt) (b := 0) rfl (by decide) c6
          refine wp_lt (fun x7 ex7 => ?_)
          have tx7 : x7.toInt = (v2_1 ||| (v3_1 &&& (-v3_1))).toInt := by rw [ex7]
          have t8 := i32_subw (x := v3_1) (y := (1 : Int32)) (b := 1) (by decide) (by decide)
          have rg9 := i32_rg v3_1
          refine wp_lt (fun x10 ex10 => ?_)
          have tx10 : x10.toInt = (v3_1 &&& (v3_1 - (1 : Int32))).toInt := by rw [ex10]
          refine wp_lt (fun x11 ex11 => ?_)
          have tx11 : x11.toInt = v4_1.toInt + 1 := by rw [ex11]; exact i32_add rfl (by decide) (by omega) (by omega)
          exact ih1 v1_1 x7 x10 x11  ⟨by omega, by omega⟩ ⟨by omega, by omega⟩ (by omega) (by omega) (by omega)
  exact lp1 zfu p1 (0 : Int32) p0 (0 : Int32)  ⟨by omega, by omega⟩ ⟨by decide, by decide⟩ (by omega) (by omega) (by show _ < 100000; omega)

set_option maxHeartbeats 4000000 in
set_option maxRecDepth 100000 in
theorem s_X7_changedEntries (o_me : Ob) (o_me_court : Ob) (o_me_court_isles : Ob) (o_me_court_isles_now : Ob) (o_me_court_machine : Ob) (o_pool : List CR) (p0 : Int32) (p1 : Int32) (p2 : Int32) (hI_me : IvX7 o_me) (hI_me_court : IvX1 o_me_court) (hI_me_court_isles : IvX2 o_pool o_me_court_isles) (hI_me_court_isles_now : IvX4 o_me_court_isles_now) (hI_me_court_machine : IvX3 o_me_court_machine) (hI_pool : PLok o_pool) (q0 : 0 ≤ p0.toInt ∧ p0.toInt ≤ 6) (q1 : 0 ≤ p1.toInt ∧ p1.toInt ≤ 3) (q2 : 1 ≤ p2.toInt ∧ p2.toInt ≤ 7) : wp (f_X7_changedEntries   o_me o_me_court o_me_court_isles o_me_court_isles_now o_me_court_machine o_pool p0 p1 p2) (fun (y : Int32 × Ob × Ob) => IvX7 y.2.1 ∧ Kp [] [2, 3] [] o_me y.2.1 ∧ IvX3 y.2.2 ∧ Kp [] [] [] o_me_court_machine y.2.2) := by
  have li0 : (-1 : Int32).toInt = (-1) := by decide
  have li1 : (1 : Int32).toInt = 1 := by decide
  have li2 : (7 : Int32).toInt = 7 := by decide
  unfold f_X7_changedEntries
  refine wp_bd (s_X7_setScores   o_me o_me_court o_me_court_isles o_me_court_isles_now o_me_court_machine o_pool p1  hI_me hI_me_court hI_me_court_isles hI_me_court_isles_now hI_me_court_machine hI_pool  ⟨by omega, by omega⟩) (fun z1 hz1 => ?_)
  obtain ⟨hz1_0, hz1_1, hz1_2, hz1_3⟩ := hz1
  have hkpz1_me : Kp [] [2, 3] [] o_me z1.1 := Kp.rf.trans (hz1_1.mono (by decide) (by decide) (by decide))
  have hkpz1_me_court_machine : Kp [] [] [] o_me_court_machine z1.2 := Kp.rf.trans (hz1_3.mono (by decide) (by decide) (by decide))
  have t2 : (p1 * (7 : Int32)).toInt = p1.toInt * 7 := i32_mul rfl (by decide) (by omega) (by omega)
  have t3 : ((p1 * (7 : Int32)) + p0).toInt = (p1 * (7 : Int32)).toInt + p0.toInt := i32_add rfl rfl (by omega) (by omega)
  refine wp_gd (zin_of (m := 28) rfl (by omega) (by omega)) ?_
  refine wp_if (fun c4 => ?_) (fun c4 => ?_)
  · have c4 := cv_eq (a := (gA z1.1 5 ((p1 * (7 : Int32)) + p0).toNatClampNeg).toInt) (b := (-1)) rfl (by decide) c4
    refine wp_some ?_
    exact (show IvX7 z1.1 ∧ Kp [] [2, 3] [] o_me z1.1 ∧ IvX3 z1.2 ∧ Kp [] [] [] o_me_court_machine z1.2 from ⟨hz1_0, hkpz1_me, hz1_2, hkpz1_me_court_machine⟩)
  · have c4 := cv_ne (a := (gA z1.1 5 ((p1 * (7 : Int32)) + p0).toNatClampNeg).toInt) (b := (-1)) rfl (by decide) c4
    refine wp_bd (s_X7_aheadOf   z1.1 o_me_court_isles p0 p1  hz1_0 hI_me_court_isles  ⟨by omega, by omega⟩ ⟨by omega, by omega⟩) (fun z5 hz5 => ?_)
    have hz5_0 := hz5
    refine wp_lt (fun x6 ex6 => ?_)
    have tx6 : x6.toInt = (z5 &&& (gI o_me_court_isles_now 2)).toInt := by rw [ex6]
    refine wp_bd (s_J6_bitCount_0f7a4   x6    ) (fun z7 hz7 => ?_)
    have hz7_0 := hz7
    have t8 : (p2 - (1 : Int32)).toInt = p2.toInt - 1 := i32_sub rfl (by decide) (by omega) (by omega)
    have t9 : (z7 - (p2 - (1 : Int32))).toInt = z7.toInt - (p2 - (1 : Int32)).toInt := i32_sub rfl rfl (by omega) (by omega)
    refine wp_lt (fun x10 ex10 => ?_)
    have tx10 : x10.toInt = (z7 - (p2 - (1 : Int32))).toInt := by rw [ex10]
    refine wp_if (fun c11 => ?_) (fun c11 => ?_)
    · have c11 := cv_lt (a := x10.toInt) (b := 0) rfl (by decide) c11
      have t12 : (-x10).toInt = -x10.toInt := i32_neg rfl (by omega) (by omega)
      refine wp_bd (s_X7_lowestBits   (z5 &&& ((gI o_me_court_isles_now 2) ^^^ (-1 : Int32))) (-x10)    ⟨by omega, by omega⟩) (fun z13 hz13 => ?_)
      refine wp_some ?_
      exact (show IvX7 z1.1 ∧ Kp [] [2, 3] [] o_me z1.1 ∧ IvX3 z1.2 ∧ Kp [] [] [] o_me_court_machine z1.2 from ⟨hz1_0, hkpz1_me, hz1_2, hkpz1_me_court_machine⟩)
    · have c11 := cv_nlt (a := x10.toInt) (b := 0) rfl (by decide) c11
      refine wp_bd (s_X7_lowestBits   x6 x10    ⟨by omega, by omega⟩) (fun z14 hz14 => ?_)
      refine wp_some ?_
      exact (show IvX7 z1.1 ∧ Kp [] [2, 3] [] o_me z1.1 ∧ IvX3 z1.2 ∧ Kp [] [] [] o_me_court_machine z1.2 from ⟨hz1_0, hkpz1_me, hz1_2, hkpz1_me_court_machine⟩)

set_option maxHeartbeats 4000000 in
set_option maxRecDepth 100000 in
theorem s_X8_be (o_me : Ob) (o_me_machine : Ob) (o_me_isles : Ob) (o_me_isles_now : Ob) (o_me_court : Ob) (o_me_study : Ob) (o_pool : List CR) (p0 : Int32) (p1 : Int32) (p2 : Int32) (p3 : Int32) (hI_me : IvX8 o_me) (hI_me_machine : IvX3 o_me_machine) (hI_me_isles : IvX2 o_pool o_me_isles) (hI_me_isles_now : IvX4 o_me_isles_now) (hI_me_court : IvX1 o_me_court) (hI_me_study : IvX7 o_me_study) (hI_pool : PLok o_pool)  : wp (f_X8_be   o_me o_me_machine o_me_isles o_me_isles_now o_me_court o_me_study o_pool p0 p1 p2 p3) (fun (y : Int32 × Ob × Ob) => IvX3 y.2.1 ∧ Kp [] [] [] o_me_machine y.2.1 ∧ IvX7 y.2.2 ∧ Kp [] [2, 3] [] o_me_study y.2.2) := by
  have li0 : (-1 : Int32).toInt = (-1) := by decide
  have li1 : (1 : Int32).toInt = 1 := by decide
  have li2 : (7 : Int32).toInt = 7 := by decide
  unfold f_X8_be
  refine wp_bd (s_X2_isPerson   o_me_isles p0  hI_me_isles  ) (fun z1 hz1 => ?_)
  obtain ⟨hz1_0, hz1_1⟩ := hz1
  refine wp_if (fun c2 => ?_) (fun c2 => ?_)
  · have c2 := cv_eq (a := z1.toInt) (b := 0) rfl (by decide) c2
    refine wp_some ?_
    exact (show IvX3 o_me_machine ∧ Kp [] [] [] o_me_machine o_me_machine ∧ IvX7 o_me_study ∧ Kp [] [2, 3] [] o_me_study o_me_study from ⟨hI_me_machine, Kp.rf, hI_me_study, Kp.rf⟩)
  · have c2z := c2
    have c2i := hz1_1 c2
    have c2 := cv_ne (a := z1.toInt) (b := 0) rfl (by decide) c2
    refine wp_bd (s_X8_isRace   p1    ) (fun z3 hz3 => ?_)
    obtain ⟨hz3_0, hz3_1⟩ := hz3
    refine wp_if (fun c4 => ?_) (fun c4 => ?_)
    · have c4 := cv_eq (a := z3.toInt) (b := 0) rfl (by decide) c4
      refine wp_some ?_
      exact (show IvX3 o_me_machine ∧ Kp [] [] [] o_me_machine o_me_machine ∧ IvX7 o_me_study ∧ Kp [] [2, 3] [] o_me_study o_me_study from ⟨hI_me_machine, Kp.rf, hI_me_study, Kp.rf⟩)
    · have c4z := c4
      have c4i := hz3_1 c4
      have c4 := cv_ne (a := z3.toInt) (b := 0) rfl (by decide) c4
      refine wp_if (fun c5 => ?_) (fun c5 => ?_)
      · have c5 := cv_lt (a := p2.toInt) (b := 1) rfl (by decide) c5
        refine wp_some ?_
        exact (show IvX3 o_me_machine ∧ Kp [] [] [] o_me_machine o_me_machine ∧ IvX7 o_me_study ∧ Kp [] [2, 3] [] o_me_study o_me_study from ⟨hI_me_machine, Kp.rf, hI_me_study, Kp.rf⟩)
      · have c5 := cv_nlt (a := p2.toInt) (b := 1) rfl (by decide) c5
        refine wp_if (fun c6 => ?_) (fun c6 => ?_)
        · have c6 := cv_gt (a := p2.toInt) (b := 7) rfl (by decide) c6
          refine wp_some ?_
          exact (show IvX3 o_me_machine ∧ Kp [] [] [] o_me_machine o_me_machine ∧ IvX7 o_me_study ∧ Kp [] [2, 3] [] o_me_study o_me_study from ⟨hI_me_machine, Kp.rf, hI_me_study, Kp.rf⟩)
        · have c6 := cv_ngt (a := p2.toInt) (b := 7) rfl (by decide) c6
          refine wp_if (fun c7 => ?_) (fun c7 => ?_)
          · have c7 := cv_lt (a := p3.toInt) (b := 0) rfl (by decide) c7
            refine wp_some ?_
            exact (show IvX3 o_me_machine ∧ Kp [] [] [] o_me_machine o_me_machine ∧ IvX7 o_me_study ∧ Kp [] [2, 3] [] o_me_study o_me_study from ⟨hI_me_machine, Kp.rf, hI_me_study, Kp.rf⟩)
          · have c7 := cv_nlt (a := p3.toInt) (b := 0) rfl (by decide) c7
            refine wp_if (fun c8 => ?_) (fun c8 => ?_)
            · have c8 := cv_le (a := p3.toInt) (b := 1) rfl (by decide) c8
              refine wp_bd (s_X7_changedEntries   o_me_study o_me_court o_me_isles o_me_isles_now o_me_machine o_pool p0 p1 p2  hI_me_study hI_me_court hI_me_isles hI_me_isles_now hI_me_machine hI_pool  ⟨by omega, by omega⟩ ⟨by omega, by omega⟩ ⟨by omega, by omega⟩) (fun z9 hz9 => ?_)
              obtain ⟨hz9_0, hz9_1, hz9_2, hz9_3⟩ := hz9
              have hkpz9_me_study : Kp [] [2, 3] [] o_me_study z9.2.1 := Kp.rf.trans (hz9_1.mono (by decide) (by decide) (by decide))
              have hkpz9_me_machine : Kp [] [] [] o_me_machine z9.2.2 := Kp.rf.trans (hz9_3.mono (by decide) (by decide) (by decide))
              refine wp_if (fun c10 => ?_) (fun c10 => ?_)
              · have c10 := cv_eq (a := p3.toInt) (b := 1) rfl (by decide) c10
                unfold bk_X8_be_66
                refine wp_some ?_
                exact (show IvX3 z9.2.2 ∧ Kp [] [] [] o_me_machine z9.2.2 ∧ IvX7 z9.2.1 ∧ Kp [] [2, 3] [] o_me_study z9.2.1 from ⟨hz9_2, hkpz9_me_machine, hz9_0, hkpz9_me_study⟩)
              · have c10 := cv_ne (a := p3.toInt) (b := 1) rfl (by decide) c10
                refine wp_if (fun c11 => ?_) (fun c11 => ?_)
                · have c11 := cv_eq (a := z9.1.toInt) (b := (-1)) rfl (by decide) c11
                  unfold bk_X8_be_66
                  refine wp_some ?_
                  exact (show IvX3 z9.2.2 ∧ Kp [] [] [] o_me_machine z9.2.2 ∧ IvX7 z9.2.1 ∧ Kp [] [2, 3] [] o_me_study z9.2.1 from ⟨hz9_2, hkpz9_me_machine, hz9_0, hkpz9_me_study⟩)
                · have c11 := cv_ne (a := z9.1.toInt) (b := (-1)) rfl (by decide) c11
                  refine wp_bd (s_J6_bitCount_0f7a4   z9.1    ) (fun z12 hz12 => ?_)
                  have hz12_0 := hz12
                  refine wp_some ?_
                  exact (show IvX3 z9.2.2 ∧ Kp [] [] [] o_me_machine z9.2.2 ∧ IvX7 z9.2.1 ∧ Kp [] [2, 3] [] o_me_study z9.2.1 from ⟨hz9_2, hkpz9_me_machine, hz9_0, hkpz9_me_study⟩)
            · have c8 := cv_nle (a := p3.toInt) (b := 1) rfl (by decide) c8
              refine wp_some ?_
              exact (show IvX3 o_me_machine ∧ Kp [] [] [] o_me_machine o_me_machine ∧ IvX7 o_me_study ∧ Kp [] [2, 3] [] o_me_study o_me_study from ⟨hI_me_machine, Kp.rf, hI_me_study, Kp.rf⟩)

set_option maxHeartbeats 4000000 in
set_option maxRecDepth 100000 in
theorem s_X8_refuse (o_me : Ob) (p0 : Int32) (hI_me : IvX8 o_me)  : wp (f_X8_refuse   o_me p0) (fun (y : Int32 × Ob) => IvX8 y.2 ∧ Kp [] [] [] o_me y.2) := by
  have li0 : (-6 : Int32).toInt = (-6) := by decide
  have li1 : (1 : Int32).toInt = 1 := by decide
  unfold f_X8_refuse
  refine wp_lt (fun o1 eo1 => ?_)
  have hIo1 : IvX8 o1 := by rw [eo1]; exact hI_me
  have ko1_v : (gI o1 12).toInt = p0.toInt := by rw [eo1]; rfl
  have hkpo1 : Kp [] [] [] o_me o1 := Kp.rf.trans (by rw [eo1]; exact Kp.sI (by decide))
  refine wp_if (fun c2 => ?_) (fun c2 => ?_)
  · have c2 := cv_ge (a := p0.toInt) (b := 0) rfl (by decide) c2
    refine wp_some ?_
    exact (show IvX8 o1 ∧ Kp [] [] [] o_me o1 from ⟨hIo1, hkpo1⟩)
  · have c2 := cv_nge (a := p0.toInt) (b := 0) rfl (by decide) c2
    refine wp_if (fun c3 => ?_) (fun c3 => ?_)
    · have c3 := cv_lt (a := p0.toInt) (b := (-6)) rfl (by decide) c3
      refine wp_some ?_
      exact (show IvX8 o1 ∧ Kp [] [] [] o_me o1 from ⟨hIo1, hkpo1⟩)
    · have c3 := cv_nlt (a := p0.toInt) (b := (-6)) rfl (by decide) c3
      have t4 : (-p0).toInt = -p0.toInt := i32_neg rfl (by omega) (by omega)
      refine wp_lt (fun x5 ex5 => ?_)
      have tx5 : x5.toInt = (-p0).toInt := by rw [ex5]
      refine wp_gd (zin_of (m := 7) rfl (by omega) (by omega)) ?_
      refine wp_gd (zin_of (m := 7) rfl (by omega) (by omega)) ?_
      refine wp_lt (fun o6 eo6 => ?_)
      have hIo6 : IvX8 o6 := by rw [eo6]; exact hIo1
      have ko6_k7 : (gI o6 12).toInt = (gI o1 12).toInt := by rw [eo6]; rfl
      have ko6_v : (gA o6 11 x5.toNatClampNeg).toInt = ((gA o1 11 x5.toNatClampNeg) + (1 : Int32)).toInt := by rw [eo6]; exact congrArg Int32.toInt (upd_eq (g := gA o1 11) (i := x5) (v := ((gA o1 11 x5.toNatClampNeg) + (1 : Int32))))
      have hkpo6 : Kp [] [] [] o_me o6 := hkpo1.trans (by rw [eo6]; exact Kp.tA (by decide) (by decide))
      refine wp_some ?_
      exact (show IvX8 o6 ∧ Kp [] [] [] o_me o6 from ⟨hIo6, hkpo6⟩)

set_option maxHeartbeats 4000000 in
set_option maxRecDepth 100000 in
theorem s_X8_grant (o_me : Ob) (p0 : Int32) (hI_me : IvX8 o_me)  : wp (f_X8_grant   o_me p0) (fun (y : Int32 × Ob) => IvX8 y.2 ∧ Kp [] [] [] o_me y.2) := by
  have li0 : (0 : Int32).toInt = 0 := by decide
  unfold f_X8_grant
  refine wp_lt (fun o1 eo1 => ?_)
  have hIo1 : IvX8 o1 := by rw [eo1]; exact hI_me
  have ko1_v : (gI o1 12).toInt = 0 := by rw [eo1]; exact (show ((0 : Int32)).toInt = _ from by decide)
  have hkpo1 : Kp [] [] [] o_me o1 := Kp.rf.trans (by rw [eo1]; exact Kp.sI (by decide))
  refine wp_some ?_
  exact (show IvX8 o1 ∧ Kp [] [] [] o_me o1 from ⟨hIo1, hkpo1⟩)

set_option maxHeartbeats 4000000 in
set_option maxRecDepth 100000 in
theorem s_X8_beats {pl : List CR} (o_me : Ob) (o_me_isles : Ob) (p0 : Int32) (p1 : Int32) (p2 : Int32) (hI_me : IvX8 o_me) (hI_me_isles : IvX2 pl o_me_isles)  : wp (f_X8_beats   o_me o_me_isles p0 p1 p2) (fun (y : Int32 × Ob × Ob) => IvX8 y.2.1 ∧ Kp [] [] [] o_me y.2.1 ∧ IvX2 pl y.2.2 ∧ Kp [7, 8, 9, 10] [4] [] o_me_isles y.2.2) := by
  have li0 : (-1 : Int32).toInt = (-1) := by decide
  have li1 : (-2 : Int32).toInt = (-2) := by decide
  have li2 : (1 : Int32).toInt = 1 := by decide
  unfold f_X8_beats
  have rg2 := i32_rg p0
  have rg3 := i32_rg p1
  refine wp_if (fun c1 => ?_) (fun c1 => ?_)
  · have c1 := cv_eq (a := p0.toInt) (b := p1.toInt) rfl rfl c1
    unfold bk_X8_beats_14
    refine wp_bd (s_X8_refuse   o_me (-1 : Int32)  hI_me  ) (fun z4 hz4 => ?_)
    obtain ⟨hz4_0, hz4_1⟩ := hz4
    have hkpz4_me : Kp [] [] [] o_me z4.2 := Kp.rf.trans (hz4_1.mono (by decide) (by decide) (by decide))
    refine wp_some ?_
    exact (show IvX8 z4.2 ∧ Kp [] [] [] o_me z4.2 ∧ IvX2 pl o_me_isles ∧ Kp [7, 8, 9, 10] [4] [] o_me_isles o_me_isles from ⟨hz4_0, hkpz4_me, hI_me_isles, Kp.rf⟩)
  · have c1 := cv_ne (a := p0.toInt) (b := p1.toInt) rfl rfl c1
    refine wp_if (fun c5 => ?_) (fun c5 => ?_)
    · have c5 := cv_lt (a := p2.toInt) (b := 0) rfl (by decide) c5
      unfold bk_X8_beats_14
      refine wp_bd (s_X8_refuse   o_me (-1 : Int32)  hI_me  ) (fun z6 hz6 => ?_)
      obtain ⟨hz6_0, hz6_1⟩ := hz6
      have hkpz6_me : Kp [] [] [] o_me z6.2 := Kp.rf.trans (hz6_1.mono (by decide) (by decide) (by decide))
      refine wp_some ?_
      exact (show IvX8 z6.2 ∧ Kp [] [] [] o_me z6.2 ∧ IvX2 pl o_me_isles ∧ Kp [7, 8, 9, 10] [4] [] o_me_isles o_me_isles from ⟨hz6_0, hkpz6_me, hI_me_isles, Kp.rf⟩)
    · have c5 := cv_nlt (a := p2.toInt) (b := 0) rfl (by decide) c5
      refine wp_if (fun c7 => ?_) (fun c7 => ?_)
      · have c7 := cv_le (a := p2.toInt) (b := 1) rfl (by decide) c7
        refine wp_bd (s_X2_isPerson   o_me_isles p0  hI_me_isles  ) (fun z8 hz8 => ?_)
        obtain ⟨hz8_0, hz8_1⟩ := hz8
        refine wp_if (fun c9 => ?_) (fun c9 => ?_)
        · have c9 := cv_eq (a := z8.toInt) (b := 0) rfl (by decide) c9
          unfold bk_X8_beats_42
          refine wp_bd (s_X8_refuse   o_me (-2 : Int32)  hI_me  ) (fun z10 hz10 => ?_)
          obtain ⟨hz10_0, hz10_1⟩ := hz10
          have hkpz10_me : Kp [] [] [] o_me z10.2 := Kp.rf.trans (hz10_1.mono (by decide) (by decide) (by decide))
          refine wp_some ?_
          exact (show IvX8 z10.2 ∧ Kp [] [] [] o_me z10.2 ∧ IvX2 pl o_me_isles ∧ Kp [7, 8, 9, 10] [4] [] o_me_isles o_me_isles from ⟨hz10_0, hkpz10_me, hI_me_isles, Kp.rf⟩)
        · have c9z := c9
          have c9i := hz8_1 c9
          have c9 := cv_ne (a := z8.toInt) (b := 0) rfl (by decide) c9
          refine wp_bd (s_X2_isPerson   o_me_isles p1  hI_me_isles  ) (fun z11 hz11 => ?_)
          obtain ⟨hz11_0, hz11_1⟩ := hz11
          refine wp_if (fun c12 => ?_) (fun c12 => ?_)
          · have c12 := cv_eq (a := z11.toInt) (b := 0) rfl (by decide) c12
            unfold bk_X8_beats_42
            refine wp_bd (s_X8_refuse   o_me (-2 : Int32)  hI_me  ) (fun z13 hz13 => ?_)
            obtain ⟨hz13_0, hz13_1⟩ := hz13
            have hkpz13_me : Kp [] [] [] o_me z13.2 := Kp.rf.trans (hz13_1.mono (by decide) (by decide) (by decide))
            refine wp_some ?_
            exact (show IvX8 z13.2 ∧ Kp [] [] [] o_me z13.2 ∧ IvX2 pl o_me_isles ∧ Kp [7, 8, 9, 10] [4] [] o_me_isles o_me_isles from ⟨hz13_0, hkpz13_me, hI_me_isles, Kp.rf⟩)
          · have c12z := c12
            have c12i := hz11_1 c12
            have c12 := cv_ne (a := z11.toInt) (b := 0) rfl (by decide) c12
            refine wp_gd (zin_of (m := 7) rfl (by omega) (by omega)) ?_
            have t14 := i32_and (x := (gA o_me_isles 3 p0.toNatClampNeg) >>> (p1 &&& 31)) (y := (1 : Int32)) (m := 1) ⟨by decide, by decide⟩
            refine wp_lt (fun x15 ex15 => ?_)
            have tx15 : x15.toInt = (((gA o_me_isles 3 p0.toNatClampNeg) >>> (p1 &&& 31)) &&& (1 : Int32)).toInt := by rw [ex15]
            refine wp_gd (zin_of (m := 7) rfl (by omega) (by omega)) ?_
            refine wp_gd (zin_of (m := 7) rfl (by omega) (by omega)) ?_
            refine wp_lt (fun o16 eo16 => ?_)
            have hIo16 : IvX2 pl o16 := by rw [eo16]; exact hI_me_isles
            have ko16_k17 : (gI o16 7).toInt = (gI o_me_isles 7).toInt := by rw [eo16]; rfl
            have ko16_v : (gA o16 3 p0.toNatClampNeg).toInt = ((gA o_me_isles 3 p0.toNatClampNeg) ^^^ ((x15 ^^^ p2) <<< (p1 &&& 31))).toInt := by rw [eo16]; exact congrArg Int32.toInt (upd_eq (g := gA o_me_isles 3) (i := p0) (v := ((gA o_me_isles 3 p0.toNatClampNeg) ^^^ ((x15 ^^^ p2) <<< (p1 &&& 31)))))
            have hkpo16 : Kp [7, 8, 9, 10] [4] [] o_me_isles o16 := Kp.rf.trans (by rw [eo16]; exact Kp.tA (by decide) (by decide))
            refine wp_bd (s_X8_grant   o_me x15  hI_me  ) (fun z18 hz18 => ?_)
            obtain ⟨hz18_0, hz18_1⟩ := hz18
            have hkpz18_me : Kp [] [] [] o_me z18.2 := Kp.rf.trans (hz18_1.mono (by decide) (by decide) (by decide))
            refine wp_some ?_
            exact (show IvX8 z18.2 ∧ Kp [] [] [] o_me z18.2 ∧ IvX2 pl o16 ∧ Kp [7, 8, 9, 10] [4] [] o_me_isles o16 from ⟨hz18_0, hkpz18_me, hIo16, hkpo16⟩)
      · have c7 := cv_nle (a := p2.toInt) (b := 1) rfl (by decide) c7
        unfold bk_X8_beats_14
        refine wp_bd (s_X8_refuse   o_me (-1 : Int32)  hI_me  ) (fun z19 hz19 => ?_)
        obtain ⟨hz19_0, hz19_1⟩ := hz19
        have hkpz19_me : Kp [] [] [] o_me z19.2 := Kp.rf.trans (hz19_1.mono (by decide) (by decide) (by decide))
        refine wp_some ?_
        exact (show IvX8 z19.2 ∧ Kp [] [] [] o_me z19.2 ∧ IvX2 pl o_me_isles ∧ Kp [7, 8, 9, 10] [4] [] o_me_isles o_me_isles from ⟨hz19_0, hkpz19_me, hI_me_isles, Kp.rf⟩)

set_option maxHeartbeats 4000000 in
set_option maxRecDepth 100000 in
theorem s_X8_blots (o_me : Ob) (hI_me : IvX8 o_me)  : wp (f_X8_blots   o_me) (fun (y : Int32) => True) := by
  unfold f_X8_blots
  refine wp_some ?_
  exact trivial

set_option maxHeartbeats 4000000 in
set_option maxRecDepth 100000 in
theorem s_X1_nearest_v1 (p0 : Int64) (p1 : Int32)  (q0 : 9 ≤ p1.toInt ∧ p1.toInt ≤ 9) : wp (f_X1_nearest   p0 p1) (fun (y : Int32) => (0 ≤ y.toInt ∧ y.toInt ≤ 9)) := by
  have li0 : (0 : Int64).toInt = 0 := by decide
  unfold f_X1_nearest
  have t1 : p1.toInt64.toInt = p1.toInt := Int32.toInt_toInt64 _
  have rg3 := i64_rg p0
  have t2 : (-9223372036854775808) ≤ (if p1.toInt64 < p0 then p1.toInt64 else p0).toInt ∧ (if p1.toInt64 < p0 then p1.toInt64 else p0).toInt ≤ 9 := z_minl (a := p0.toInt) (b := p1.toInt64.toInt) rfl rfl (by omega) (by omega)
  have t4 : 0 ≤ (if (if p1.toInt64 < p0 then p1.toInt64 else p0) < (0 : Int64) then (0 : Int64) else (if p1.toInt64 < p0 then p1.toInt64 else p0)).toInt ∧ (if (if p1.toInt64 < p0 then p1.toInt64 else p0) < (0 : Int64) then (0 : Int64) else (if p1.toInt64 < p0 then p1.toInt64 else p0)).toInt ≤ 9 := z_maxl (a := 0) (b := (if p1.toInt64 < p0 then p1.toInt64 else p0).toInt) (by decide) rfl (by omega) (by omega)
  have t5 : ((if (if p1.toInt64 < p0 then p1.toInt64 else p0) < (0 : Int64) then (0 : Int64) else (if p1.toInt64 < p0 then p1.toInt64 else p0)).toInt32).toInt = (if (if p1.toInt64 < p0 then p1.toInt64 else p0) < (0 : Int64) then (0 : Int64) else (if p1.toInt64 < p0 then p1.toInt64 else p0)).toInt := l2i_eq (by omega) (by omega)
  refine wp_some ?_
  exact (show (0 ≤ ((if (if p1.toInt64 < p0 then p1.toInt64 else p0) < (0 : Int64) then (0 : Int64) else (if p1.toInt64 < p0 then p1.toInt64 else p0)).toInt32).toInt ∧ ((if (if p1.toInt64 < p0 then p1.toInt64 else p0) < (0 : Int64) then (0 : Int64) else (if p1.toInt64 < p0 then p1.toInt64 else p0)).toInt32).toInt ≤ 9) from ⟨by omega, by omega⟩)

set_option maxHeartbeats 4000000 in
set_option maxRecDepth 100000 in
theorem s_X1_turnsTo_Q (o_me : Ob) (o_me_isles : Ob) (o_me_isles_now : Ob) (o_me_machine : Ob) (o_pool : List CR) (p0 : Option Nat) (p1 : Int32) (p2 : Int32) (hI_me : IvX1 o_me) (hI_me_isles : IvX2 o_pool o_me_isles) (hI_me_isles_now : IvX4 o_me_isles_now) (hI_me_machine : IvX3 o_me_machine) (hI_pool : PLok o_pool) (po_p0 : zpo o_pool p0 = true) (q0 : 0 ≤ p1.toInt ∧ p1.toInt ≤ 6) (q1 : 0 ≤ p2.toInt ∧ p2.toInt ≤ 3) : wp (f_X1_turnsTo_Q   o_me o_me_isles o_me_isles_now o_me_machine o_pool p0 p1 p2) (fun (y : Int32 × Ob) => (0 ≤ y.1.toInt ∧ y.1.toInt ≤ 9) ∧ IvX3 y.2 ∧ Kp [] [] [] o_me_machine y.2) := by
  have li0 : (-9000000000000000000 : Int64).toInt = (-9000000000000000000) := by decide
  have li1 : (1 : Int32).toInt = 1 := by decide
  have li2 : (10 : Int32).toInt = 10 := by decide
  have li3 : (2 : Int32).toInt = 2 := by decide
  have li4 : (9 : Int32).toInt = 9 := by decide
  unfold f_X1_turnsTo_Q
  refine wp_bd (Q := fun (z9 : Int64 × Ob) => IvX3 z9.2 ∧ Kp [] [] [] o_me_machine z9.2) (wp_zop po_p0 ⟨(_, o_me_machine), rfl, hI_me_machine, Kp.rf⟩ (fun c9 hc9 => s_X1_told_O c9.2.2.2.1 c9.2.2.2.2.1 o_me o_me_isles o_me_isles_now o_me_machine c9.2.2.2.2.2 (1 : Int32) p1 p2 (2 : Int32) hI_me hI_me_isles hI_me_isles_now hI_me_machine (hI_pool c9 hc9))) (fun z1 hz1 => ?_)
  obtain ⟨hz1_0, hz1_1⟩ := hz1
  have hkpz1 : Kp [] [] [] o_me_machine z1.2 := Kp.rf.trans (hz1_1.mono (by decide) (by decide) (by decide))
  refine wp_if (fun c2 => ?_) (fun c2 => ?_)
  · have c2 := cvl_eq (a := z1.1.toInt) (b := (-9000000000000000000)) rfl (by decide) c2
    refine wp_gd (zin_of (m := 7) rfl (by omega) (by omega)) ?_
    have t3 := iaX4_0_0 hI_me_isles_now (j := p1) (by omega) (by omega)
    have t4 : ((gA o_me_isles_now 0 p1.toNatClampNeg) + (1 : Int32)).toInt = (gA o_me_isles_now 0 p1.toNatClampNeg).toInt + 1 := i32_add rfl (by decide) (by omega) (by omega)
    have t5 : 0 ≤ (((gA o_me_isles_now 0 p1.toNatClampNeg) + (1 : Int32)) - ((gA o_me_isles_now 0 p1.toNatClampNeg) + (1 : Int32)) / (10 : Int32) * (10 : Int32)).toInt ∧ (((gA o_me_isles_now 0 p1.toNatClampNeg) + (1 : Int32)) - ((gA o_me_isles_now 0 p1.toNatClampNeg) + (1 : Int32)) / (10 : Int32) * (10 : Int32)).toInt ≤ 9 := i32_rem (y := (10 : Int32)) (m := 10) (by decide) (by decide) (by omega)
    refine wp_some ?_
    exact (show (0 ≤ (((gA o_me_isles_now 0 p1.toNatClampNeg) + (1 : Int32)) - ((gA o_me_isles_now 0 p1.toNatClampNeg) + (1 : Int32)) / (10 : Int32) * (10 : Int32)).toInt ∧ (((gA o_me_isles_now 0 p1.toNatClampNeg) + (1 : Int32)) - ((gA o_me_isles_now 0 p1.toNatClampNeg) + (1 : Int32)) / (10 : Int32) * (10 : Int32)).toInt ≤ 9) ∧ IvX3 z1.2 ∧ Kp [] [] [] o_me_machine z1.2 from ⟨⟨by omega, by omega⟩, hz1_0, hkpz1⟩)
  · have c2 := cvl_ne (a := z1.1.toInt) (b := (-9000000000000000000)) rfl (by decide) c2
    refine wp_bd (s_X1_nearest_v1   z1.1 (9 : Int32)    ⟨by decide, by decide⟩) (fun z6 hz6 => ?_)
    have hz6_0 := hz6
    refine wp_some ?_
    exact (show (0 ≤ z6.toInt ∧ z6.toInt ≤ 9) ∧ IvX3 z1.2 ∧ Kp [] [] [] o_me_machine z1.2 from ⟨⟨by omega, by omega⟩, hz1_0, hkpz1⟩)

set_option maxHeartbeats 4000000 in
set_option maxRecDepth 100000 in
theorem s_X7_fitsAllSeen (o_me : Ob) (o_me_court : Ob) (o_me_court_isles : Ob) (o_me_court_isles_now : Ob) (o_me_court_machine : Ob) (o_pool : List CR) (p0 : Int32) (hI_me : IvX7 o_me) (hI_me_court : IvX1 o_me_court) (hI_me_court_isles : IvX2 o_pool o_me_court_isles) (hI_me_court_isles_now : IvX4 o_me_court_isles_now) (hI_me_court_machine : IvX3 o_me_court_machine) (hI_pool : PLok o_pool) (q0 : 0 ≤ p0.toInt ∧ p0.toInt ≤ 6) : wp (f_X7_fitsAllSeen   o_me o_me_court o_me_court_isles o_me_court_isles_now o_me_court_machine o_pool p0) (fun (y : Int32 × Ob) => (0 ≤ y.1.toInt ∧ y.1.toInt ≤ 1) ∧ IvX3 y.2 ∧ Kp [] [] [] o_me_court_machine y.2) := by
  have li0 : (0 : Int32).toInt = 0 := by decide
  have li1 : (1 : Int32).toInt = 1 := by decide
  unfold f_X7_fitsAllSeen
  have lp1 : ∀ (N1 : Nat) (v1_1 : Int32) (v2_1 : Int32) (o_me_court_machine_1 : Ob), IvX3 o_me_court_machine_1 → Kp [] [] [] o_me_court_machine o_me_court_machine_1 → (0 ≤ v1_1.toInt ∧ v1_1.toInt ≤ 6) → (0 ≤ v2_1.toInt ∧ v2_1.toInt ≤ 6) → (v1_1.toInt ≤ p0.toInt + 0) → (p0.toInt ≤ v1_1.toInt + 0) → (6 - v2_1.toInt).toNat < N1 → wp (lp_X7_fitsAllSeen_2 o_me o_me_court o_me_court_isles o_me_court_isles_now o_pool  N1 (v1_1, v2_1, o_me_court_machine_1)) (fun (y : Int32 × Ob) => (0 ≤ y.1.toInt ∧ y.1.toInt ≤ 1) ∧ IvX3 y.2 ∧ Kp [] [] [] o_me_court_machine y.2) := by
    intro N1
    induction N1 with
    | zero =>
      intro v1_1 v2_1 o_me_court_machine_1 hI_me_court_machine_1 hkp_me_court_machine_1 hh1 hh2 hh3 hh4 hN1
      exact absurd hN1 (Nat.not_lt_zero _)
    | succ N1 ihx =>
      have ih1 := ihx
      intro v1_1 v2_1 o_me_court_machine_1 hI_me_court_machine_1 hkp_me_court_machine_1 hh1 hh2 hh3 hh4 hN1
      show wp (lb_X7_fitsAllSeen_2 o_me o_me_court o_me_court_isles o_me_court_isles_now o_pool  (lp_X7_fitsAllSeen_2 o_me o_me_court o_me_court_isles o_me_court_isles_now o_pool  N1) v1_1 v2_1 o_me_court_machine_1) (fun (y : Int32 × Ob) => (0 ≤ y.1.toInt ∧ y.1.toInt ≤ 1) ∧ IvX3 y.2 ∧ Kp [] [] [] o_me_court_machine y.2)
      unfold lb_X7_fitsAllSeen_2
      have t5 := igX2_8 hI_me_court_isles
      refine wp_if (fun c6 => ?_) (fun c6 => ?_)
      · have c6 := cv_ge (a := v2_1.toInt) (b := (gI o_me_court_isles 8).toInt) rfl rfl c6
        refine wp_some ?_
        exact (show (0 ≤ (1 : Int32).toInt ∧ (1 : Int32).toInt ≤ 1) ∧ IvX3 o_me_court_machine_1 ∧ Kp [] [] [] o_me_court_machine o_me_court_machine_1 from ⟨⟨by decide, by decide⟩, hI_me_court_machine_1, hkp_me_court_machine_1⟩)
      · have c6 := cv_nge (a := v2_1.toInt) (b := (gI o_me_court_isles 8).toInt) rfl rfl c6
        refine wp_bd (s_X2_lawInForce   o_me_court_isles  hI_me_court_isles  ) (fun z7 hz7 => ?_)
        have hz7_0 := hz7
        refine wp_gd (zin_of (m := 6) rfl (by omega) (by omega)) ?_
        have t8 := iaX2_4_0 hI_me_court_isles (j := v2_1) (by omega) (by omega)
        refine wp_bd (s_X1_turnsTo_Q   o_me_court o_me_court_isles o_me_court_isles_now o_me_court_machine_1 o_pool z7 v1_1 (gA o_me_court_isles 4 v2_1.toNatClampNeg)  hI_me_court hI_me_court_isles hI_me_court_isles_now hI_me_court_machine_1 hI_pool hz7_0 ⟨by omega, by omega⟩ ⟨by omega, by omega⟩) (fun z9 hz9 => ?_)
        obtain ⟨hz9_0, hz9_1, hz9_2⟩ := hz9
        have hkpz9_me_court_machine : Kp [] [] [] o_me_court_machine z9.2 := hkp_me_court_machine_1.trans (hz9_2.mono (by decide) (by decide) (by decide))
        refine wp_gd (zin_of (m := 6) rfl (by omega) (by omega)) ?_
        have rg11 := i32_rg (gA o_me_court_isles 5 v2_1.toNatClampNeg)
        refine wp_if (fun c10 => ?_) (fun c10 => ?_)
        · have c10 := cv_eq (a := z9.1.toInt) (b := (gA o_me_court_isles 5 v2_1.toNatClampNeg).toInt) rfl rfl c10
          refine wp_lt (fun x12 ex12 => ?_)
          have tx12 : x12.toInt = v2_1.toInt + 1 := by rw [ex12]; exact i32_add rfl (by decide) (by omega) (by omega)
          exact ih1 v1_1 x12 z9.2 hz9_1 hkpz9_me_court_machine ⟨by omega, by omega⟩ ⟨by omega, by omega⟩ (by omega) (by omega) (by omega)
        · have c10 := cv_ne (a := z9.1.toInt) (b := (gA o_me_court_isles 5 v2_1.toNatClampNeg).toInt) rfl rfl c10
          refine wp_some ?_
          exact (show (0 ≤ (0 : Int32).toInt ∧ (0 : Int32).toInt ≤ 1) ∧ IvX3 z9.2 ∧ Kp [] [] [] o_me_court_machine z9.2 from ⟨⟨by decide, by decide⟩, hz9_1, hkpz9_me_court_machine⟩)
  exact lp1 zfu p0 (0 : Int32) o_me_court_machine hI_me_court_machine Kp.rf ⟨by omega, by omega⟩ ⟨by decide, by decide⟩ (by omega) (by omega) (by show _ < 100000; omega)

