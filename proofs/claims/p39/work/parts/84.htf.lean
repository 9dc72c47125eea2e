set_option maxHeartbeats 200000 in
theorem ah_P {st : Ob} {R Pzz : Nat} : ahf st R Pzz Pzz = false := decide_eq_false (fun qzz => by
  rcases qzz.2 with qzz | qzz
  · exact Int32.lt_irrefl qzz
  · omega)
set_option maxHeartbeats 200000 in
theorem tb127 : ∀ qzz, qzz < 7 → (127 : Nat).testBit qzz = true := by decide
set_option maxHeartbeats 200000 in
theorem and128 {xzz yzz : Nat} (hzz : yzz < 128) : xzz &&& yzz < 128 := Nat.and_lt_two_pow (n := 7) xzz (show yzz < 2 ^ 7 by omega)
set_option maxHeartbeats 200000 in
theorem be_F {st : Ob} {R Pzz n Ezz Szz : Nat} (n7 : n ≤ 7) (hE : Ezz < 128) (hSzz : Szz < 128) : cntf (fun qzz => ahf st R Pzz qzz && (Ezz ^^^ Szz).testBit qzz) n + pc7 ((bsm (ahf st R Pzz) n &&& Ezz) &&& Szz) = pc7 (bsm (ahf st R Pzz) n &&& Ezz) + pc7 ((bsm (ahf st R Pzz) n &&& (127 ^^^ Ezz)) &&& Szz) := by
  rw [c7_cnt _ (and128 hSzz), c7_cnt _ (and128 hE), c7_cnt _ (and128 hSzz)]
  have kzz := cnt_bits (azz := fun qzz => (bsm (ahf st R Pzz) n).testBit qzz) (ezz := fun qzz => Ezz.testBit qzz) (s := fun qzz => Szz.testBit qzz) 7
  have k1zz : cntf (fun qzz => ((bsm (ahf st R Pzz) n &&& Ezz) &&& Szz).testBit qzz) 7 = cntf (fun qzz => ((bsm (ahf st R Pzz) n).testBit qzz && Ezz.testBit qzz) && Szz.testBit qzz) 7 := cnt_cg 7 (fun qzz _ => by rw [Nat.testBit_and, Nat.testBit_and])
  have k2zz : cntf (fun qzz => (bsm (ahf st R Pzz) n &&& Ezz).testBit qzz) 7 = cntf (fun qzz => (bsm (ahf st R Pzz) n).testBit qzz && Ezz.testBit qzz) 7 := cnt_cg 7 (fun qzz _ => by rw [Nat.testBit_and])
  have k3zz : cntf (fun qzz => ((bsm (ahf st R Pzz) n &&& (127 ^^^ Ezz)) &&& Szz).testBit qzz) 7 = cntf (fun qzz => ((bsm (ahf st R Pzz) n).testBit qzz && (true ^^ Ezz.testBit qzz)) && Szz.testBit qzz) 7 := cnt_cg 7 (fun qzz hq => by rw [Nat.testBit_and, Nat.testBit_and, Nat.testBit_xor, tb127 qzz hq])
  have k4zz : cntf (fun qzz => ahf st R Pzz qzz && (Ezz ^^^ Szz).testBit qzz) n = cntf (fun qzz => (bsm (ahf st R Pzz) n).testBit qzz && (Ezz.testBit qzz ^^ Szz.testBit qzz)) 7 := by
    obtain ⟨mzz, em⟩ : ∃ mzz, 7 = n + mzz := ⟨7 - n, by omega⟩
    rw [em, cnt_tail mzz (fun qzz azz b => by rw [bsm_tb, decide_eq_false (show ¬ qzz < n by omega)]; rfl)]
    exact cnt_cg n (fun qzz hq => by rw [bsm_tb, decide_eq_true hq, Nat.testBit_xor]; rfl)
  rw [k1zz, k2zz, k3zz, k4zz]
  exact kzz
set_option maxHeartbeats 200000 in
theorem dj_k1 : ∀ azz ezz s : Bool, s = (s && (azz && ezz)) → ((azz && (true ^^ ezz)) && s) = false := by decide
set_option maxHeartbeats 200000 in
theorem dj_k2 : ∀ azz ezz s : Bool, s = (s && (azz && (true ^^ ezz))) → ((azz && ezz) && s) = false := by decide
set_option maxHeartbeats 200000 in
theorem tb_big {czz qzz : Nat} (hczz : czz < 128) (hq : ¬ qzz < 7) : czz.testBit qzz = false := Nat.testBit_lt_two_pow (Nat.lt_of_lt_of_le (show czz < 2 ^ 7 by omega) (Nat.pow_le_pow_right (by decide) (by omega)))
set_option maxHeartbeats 200000 in
theorem dj1 {A Ezz czz : Nat} (hczz : czz < 128) (hzz : czz &&& (A &&& Ezz) = czz) : (A &&& (127 ^^^ Ezz)) &&& czz = 0 := by
  refine Nat.eq_of_testBit_eq (fun qzz => ?_)
  have hq : czz.testBit qzz = (czz.testBit qzz && (A.testBit qzz && Ezz.testBit qzz)) := by
    have wzz : (czz &&& (A &&& Ezz)).testBit qzz = czz.testBit qzz := by rw [hzz]
    rw [Nat.testBit_and, Nat.testBit_and] at wzz
    exact wzz.symm
  rw [Nat.testBit_and, Nat.testBit_and, Nat.testBit_xor, Nat.zero_testBit]
  by_cases c1zz : qzz < 7
  · rw [tb127 qzz c1zz]; exact dj_k1 _ _ _ hq
  · rw [tb_big hczz c1zz, Bool.and_false]
set_option maxHeartbeats 200000 in
theorem dj2 {A Ezz czz : Nat} (hczz : czz < 128) (hzz : czz &&& (A &&& (127 ^^^ Ezz)) = czz) : (A &&& Ezz) &&& czz = 0 := by
  refine Nat.eq_of_testBit_eq (fun qzz => ?_)
  rw [Nat.testBit_and, Nat.testBit_and, Nat.zero_testBit]
  by_cases c1zz : qzz < 7
  · have hq : czz.testBit qzz = (czz.testBit qzz && (A.testBit qzz && (true ^^ Ezz.testBit qzz))) := by
      have wzz : (czz &&& (A &&& (127 ^^^ Ezz))).testBit qzz = czz.testBit qzz := by rw [hzz]
      rw [Nat.testBit_and, Nat.testBit_and, Nat.testBit_xor, tb127 qzz c1zz] at wzz
      exact wzz.symm
    exact dj_k2 _ _ _ hq
  · rw [tb_big hczz c1zz, Bool.and_false]
def BeV (st : Ob) (R Pzz n Ezz : Nat) (pl : Int) (zzz : Int32) : Prop := (zzz = -1 ∧ ∀ Szz, Szz < 2 ^ n → ¬ GoodS st R Pzz n Ezz pl Szz) ∨ (∃ czz, czz < 2 ^ n ∧ GoodS st R Pzz n Ezz pl czz ∧ zzz = Int32.ofNat czz ∧ ∀ Szz, Szz < 2 ^ n → GoodS st R Pzz n Ezz pl Szz → pc7 czz < pc7 Szz ∨ (pc7 czz = pc7 Szz ∧ czz ≤ Szz))
set_option maxHeartbeats 200000 in
theorem be_set {st : Ob} {R Pzz n Ezz kzz : Nat} {xzz zzz : Int32} (n7 : n ≤ 7) (hE : Ezz < 2 ^ n) (hk : kzz ≤ 6) (exzz : xzz.toInt = (pc7 (bsm (ahf st R Pzz) n &&& Ezz) : Int) - (kzz : Int)) (hzz : (if xzz < (0 : Int32) then f_X7_lowestBits (Int32.ofNat (bsm (ahf st R Pzz) n &&& (127 ^^^ Ezz))) (-xzz) else f_X7_lowestBits (Int32.ofNat (bsm (ahf st R Pzz) n &&& Ezz)) xzz) = some zzz) : BeV st R Pzz n Ezz ((kzz : Int) + 1) zzz := by
  have p2zz := p2_le n7
  have Fzz := fun Szz (hSzz : Szz < 128) => be_F (st := st) (R := R) (Pzz := Pzz) (n := n) (Ezz := Ezz) (Szz := Szz) n7 (by omega) hSzz
  have hA := bsm_lt (ahf st R Pzz) n
  have hAP : (bsm (ahf st R Pzz) n).testBit Pzz = false := by rw [bsm_tb, ah_P, Bool.and_false]
  generalize hAg : bsm (ahf st R Pzz) n = A at *
  have hX : A &&& Ezz < 128 := and128 (by omega)
  have hXA : A &&& Ezz ≤ A := Nat.and_le_left
  have hYA : A &&& (127 ^^^ Ezz) ≤ A := Nat.and_le_left
  have hY : A &&& (127 ^^^ Ezz) < 128 := by omega
  have x7 := c7_le hX
  have y7 := c7_le hY
  have subzz : ∀ (Bzz czz : Nat), Bzz < 128 → czz &&& Bzz = czz → Bzz ≤ A → (Bzz.testBit Pzz = false) → czz < 2 ^ n ∧ czz.testBit Pzz = false := by
    intro Bzz czz hBzz hczz hBA hBP
    have qzz : czz ≤ Bzz := by rw [← hczz]; exact Nat.and_le_right
    refine ⟨by omega, ?_⟩
    rw [← hczz, Nat.testBit_and, hBP, Bool.and_false]
  have XP : (A &&& Ezz).testBit Pzz = false := by rw [Nat.testBit_and, hAP]; rfl
  have YP : (A &&& (127 ^^^ Ezz)).testBit Pzz = false := by rw [Nat.testBit_and, hAP]; rfl
  rcases z_if hzz with ⟨c0zz, hzz⟩ | ⟨c0zz, hzz⟩
  · have d0zz := cv_lt (a := (pc7 (A &&& Ezz) : Int) - (kzz : Int)) (b := 0) exzz (by decide) c0zz
    obtain ⟨d, ed⟩ : ∃ d : Nat, (kzz : Int) - (pc7 (A &&& Ezz) : Int) = (d : Int) := ⟨kzz - pc7 (A &&& Ezz), by omega⟩
    have en : (-xzz) = Int32.ofNat d := i32_of (by
      have qzz : (-xzz) = 0 - xzz := (Int32.zero_sub xzz).symm
      rw [qzz, i32_sub (by decide : (0 : Int32).toInt = 0) exzz (by omega) (by omega)]; omega) (by omega)
    rw [en, low_all _ hY d (by omega)] at hzz
    have hzz := Option.some.inj hzz
    by_cases cd : pc7 (A &&& (127 ^^^ Ezz)) < d
    · rw [if_pos cd] at hzz
      refine Or.inl ⟨hzz.symm, fun Szz hSzz hG => ?_⟩
      have fzz := Fzz Szz (by omega)
      have gzz := hG.2
      have s1zz := (ss_all _ hY Szz (by omega)).2.1
      omega
    · rw [if_neg cd] at hzz
      obtain ⟨l1, l2⟩ := lw_ok _ hY d (by omega) (by omega)
      obtain ⟨s1zz, s2zz⟩ := subzz _ _ hY l2 hYA YP
      have hczz : lwf (A &&& (127 ^^^ Ezz)) d < 128 := by omega
      refine Or.inr ⟨_, s1zz, ⟨s2zz, ?_⟩, hzz.symm, fun Szz hSzz hG => ?_⟩
      · have fzz := Fzz _ hczz
        rw [dj2 hczz l2, Nat.and_comm (A &&& (127 ^^^ Ezz)), l2, l1, (by decide : pc7 0 = 0)] at fzz
        omega
      · have fzz := Fzz Szz (by omega)
        have gzz := hG.2
        obtain ⟨t1zz, t2zz, t3zz, -⟩ := ss_all _ hY Szz (by omega)
        rw [l1]
        by_cases ce : d = pc7 Szz
        · refine Or.inr ⟨ce, ?_⟩
          have ezz := t3zz (by omega)
          rw [ce]
          exact lw_min _ hY Szz (by omega) ezz
        · exact Or.inl (by omega)
  · have d0zz := cv_nlt (a := (pc7 (A &&& Ezz) : Int) - (kzz : Int)) (b := 0) exzz (by decide) c0zz
    obtain ⟨d, ed⟩ : ∃ d : Nat, (pc7 (A &&& Ezz) : Int) - (kzz : Int) = (d : Int) := ⟨pc7 (A &&& Ezz) - kzz, by omega⟩
    have en : xzz = Int32.ofNat d := i32_of (by rw [exzz]; exact ed) (by omega)
    rw [en, low_all _ hX d (by omega)] at hzz
    have hzz := Option.some.inj hzz
    rw [if_neg (by omega)] at hzz
    obtain ⟨l1, l2⟩ := lw_ok _ hX d (by omega) (by omega)
    obtain ⟨s1zz, s2zz⟩ := subzz _ _ hX l2 hXA XP
    have hczz : lwf (A &&& Ezz) d < 128 := by omega
    refine Or.inr ⟨_, s1zz, ⟨s2zz, ?_⟩, hzz.symm, fun Szz hSzz hG => ?_⟩
    · have fzz := Fzz _ hczz
      rw [dj1 hczz l2, Nat.and_comm (A &&& Ezz), l2, l1, (by decide : pc7 0 = 0)] at fzz
      omega
    · have fzz := Fzz Szz (by omega)
      have gzz := hG.2
      obtain ⟨t1zz, t2zz, t3zz, -⟩ := ss_all _ hX Szz (by omega)
      rw [l1]
      by_cases ce : d = pc7 Szz
      · refine Or.inr ⟨ce, ?_⟩
        have ezz := t3zz (by omega)
        rw [ce]
        exact lw_min _ hX Szz (by omega) ezz
      · exact Or.inl (by omega)
set_option maxHeartbeats 200000 in
theorem be_same {st : Ob} {R Pzz n Ezz : Nat} {pl : Int} {zzz azz b : Int32} (n7 : n ≤ 7) (hz : BeV st R Pzz n Ezz pl zzz) (hBzz : Bst st R Pzz n Ezz pl (2 ^ n) azz b) : (zzz = -1 ∧ azz = -1) ∨ (∃ czz, czz < 128 ∧ zzz = Int32.ofNat czz ∧ azz = Int32.ofNat czz ∧ b = Int32.ofNat (pc7 czz)) := by
  have p2zz := p2_le n7
  rcases hz with ⟨z1, z2⟩ | ⟨czz, z1, z2, z3, z4⟩
  · rcases hBzz with ⟨b1, b2, b3⟩ | ⟨s, b1, b2, b3, b4, b5⟩
    · exact Or.inl ⟨z1, b1⟩
    · exact absurd b2 (z2 s b1)
  · rcases hBzz with ⟨b1, b2, b3⟩ | ⟨s, b1, b2, b3, b4, b5⟩
    · exact absurd z2 (b3 czz z1)
    · have q1zz := z4 s b1 b2
      have q2zz := b5 czz z1 z2
      have ezz : s = czz := by omega
      rw [ezz] at b3 b4
      exact Or.inr ⟨czz, by omega, z3, b3, b4⟩
def BeOk (p0zz p1zz p2zz p3zz : Int32) (n : Nat) : Prop := (0 ≤ p0zz.toInt ∧ p0zz.toInt < (n : Int)) ∧ (0 ≤ p1zz.toInt ∧ p1zz.toInt < 4) ∧ (1 ≤ p2zz.toInt ∧ p2zz.toInt ≤ 7) ∧ 0 ≤ p3zz.toInt ∧ p3zz.toInt ≤ 1
set_option maxHeartbeats 200000 in
theorem be9 {o : Ob} {p0zz p1zz p2zz p3zz : Int32} {n : Nat} {y' : Int32 × Ob} (en : (gA o 3 0).toInt = (n : Int)) (n7 : n ≤ 7) (hzz : f_X9_be o p0zz p1zz p2zz p3zz = some y') : (¬ BeOk p0zz p1zz p2zz p3zz n ∧ y'.1 = -1) ∨ (BeOk p0zz p1zz p2zz p3zz n ∧ ∃ w6zz, f_X9_isBarred (sI o 0 0) p0zz p1zz = some w6zz ∧ (if w6zz.1 = (0 : Int32) then ((f_X9_layRuns w6zz.2 p1zz).bind fun z7 => (f_X9_enteredBits z7).bind fun z8 => lp_X9_be_76 zfu (p0zz, p2zz, p3zz, z8, (100000000 : Int32), (-1 : Int32), (0 : Int32), z7)) else (some ((-1 : Int32), w6zz.2))) = some y') := by
  unfold f_X9_be at hzz
  obtain ⟨q1zz, g1, hzz⟩ := z_lt hzz
  rw [g1] at hzz
  obtain ⟨w2zz, l2, hzz⟩ := z_bd hzz
  rcases isP9 l2 (by show 0 ≤ (gA o 3 0).toInt ∧ (gA o 3 0).toInt ≤ 7; omega) with ⟨b1, b2⟩ | ⟨b1, b2⟩
  · exact Or.inl ⟨fun qzz => b2 (by show _ ∧ p0zz.toInt < (gA o 3 0).toInt; rw [en]; exact qzz.1), by rw [← Option.some.inj (z_t hzz b1)]⟩
  have b2 : 0 ≤ p0zz.toInt ∧ p0zz.toInt < (gA o 3 0).toInt := b2
  rw [en] at b2
  obtain ⟨w3zz, l3, hzz⟩ := z_bd (z_f hzz b1)
  rcases isR9 l3 with ⟨c1zz, c2zz⟩ | ⟨c1zz, c2zz⟩
  · exact Or.inl ⟨fun qzz => c2zz qzz.2.1, by rw [← Option.some.inj (z_t hzz c1zz)]⟩
  obtain ⟨w4zz, l4, hzz⟩ := z_bd (z_f hzz c1zz)
  rcases in9 (m := 1) (n := 7) (by decide) (by decide) l4 with ⟨d1zz, d2zz⟩ | ⟨d1zz, d2zz⟩
  · exact Or.inl ⟨fun qzz => d2zz qzz.2.2.1, by rw [← Option.some.inj (z_t hzz d1zz)]⟩
  obtain ⟨w5, l5, hzz⟩ := z_bd (z_f hzz d1zz)
  rcases in9 (m := 0) (n := 1) (by decide) (by decide) l5 with ⟨e1zz, e2zz⟩ | ⟨e1zz, e2zz⟩
  · exact Or.inl ⟨fun qzz => e2zz qzz.2.2.2, by rw [← Option.some.inj (z_t hzz e1zz)]⟩
  obtain ⟨w6zz, l6, hzz⟩ := z_bd (z_f hzz e1zz)
  exact Or.inr ⟨⟨b2, c2zz, d2zz, e2zz⟩, w6zz, l6, hzz⟩
set_option maxHeartbeats 200000 in
theorem be8 {o0zz mezz isl mv czz st : Ob} {pl : List CR} {p0zz p1zz p2zz p3zz : Int32} {n : Nat} {yzz : Int32 × Ob × Ob} (en : (gI isl 7).toInt = (n : Int)) (hzz : f_X8_be o0zz mezz isl mv czz st pl p0zz p1zz p2zz p3zz = some yzz) : (¬ BeOk p0zz p1zz p2zz p3zz n ∧ yzz.1 = -1) ∨ (BeOk p0zz p1zz p2zz p3zz n ∧ ∃ z3, f_X7_changedEntries st czz isl mv mezz pl p0zz p1zz p2zz = some z3 ∧ ((p3zz = 1 ∧ yzz.1 = z3.1) ∨ (¬ p3zz = 1 ∧ z3.1 = -1 ∧ yzz.1 = z3.1) ∨ (¬ p3zz = 1 ∧ ¬ z3.1 = -1 ∧ f_J6_bitCount_0f7a4 z3.1 = some yzz.1))) := by
  unfold f_X8_be at hzz
  obtain ⟨w2zz, l2, hzz⟩ := z_bd hzz
  have i2zz := isP2 l2
  rw [en] at i2zz
  rcases i2zz with ⟨b1, b2⟩ | ⟨b1, b2⟩
  · exact Or.inl ⟨fun qzz => b2 qzz.1, by rw [← Option.some.inj (z_t hzz b1)]⟩
  obtain ⟨w3zz, l3, hzz⟩ := z_bd (z_f hzz b1)
  rcases isR8 l3 with ⟨c1zz, c2zz⟩ | ⟨c1zz, c2zz⟩
  · exact Or.inl ⟨fun qzz => c2zz qzz.2.1, by rw [← Option.some.inj (z_t hzz c1zz)]⟩
  have hzz := z_f hzz c1zz
  by_cases d1zz : p2zz < (1 : Int32)
  · have ezz := cv_lt (a := p2zz.toInt) (b := 1) rfl (by decide) d1zz
    exact Or.inl ⟨fun qzz => by have := qzz.2.2.1; omega, by rw [← Option.some.inj (z_t hzz d1zz)]⟩
  have hzz := z_f hzz d1zz
  have d1zz := cv_nlt (a := p2zz.toInt) (b := 1) rfl (by decide) d1zz
  by_cases d2zz : (7 : Int32) < p2zz
  · have ezz := cv_lt (a := 7) (b := p2zz.toInt) (by decide) rfl d2zz
    exact Or.inl ⟨fun qzz => by have := qzz.2.2.1; omega, by rw [← Option.some.inj (z_t hzz d2zz)]⟩
  have hzz := z_f hzz d2zz
  have d2zz := cv_nlt (a := 7) (b := p2zz.toInt) (by decide) rfl d2zz
  by_cases e1zz : p3zz < (0 : Int32)
  · have ezz := cv_lt (a := p3zz.toInt) (b := 0) rfl (by decide) e1zz
    exact Or.inl ⟨fun qzz => by have := qzz.2.2.2; omega, by rw [← Option.some.inj (z_t hzz e1zz)]⟩
  have hzz := z_f hzz e1zz
  have e1zz := cv_nlt (a := p3zz.toInt) (b := 0) rfl (by decide) e1zz
  by_cases e2zz : p3zz ≤ (1 : Int32)
  · have e2' := cv_le (a := p3zz.toInt) (b := 1) rfl (by decide) e2zz
    obtain ⟨z3, k3zz, hzz⟩ := z_bd (z_t hzz e2zz)
    refine Or.inr ⟨⟨b2, c2zz, ⟨d1zz, d2zz⟩, e1zz, e2'⟩, z3, k3zz, ?_⟩
    unfold bk_X8_be_66 at hzz
    by_cases f1zz : p3zz = 1
    · exact Or.inl ⟨f1zz, by rw [← Option.some.inj (z_t hzz f1zz)]⟩
    · have hzz := z_f hzz f1zz
      by_cases f2zz : z3.1 = -1
      · exact Or.inr (Or.inl ⟨f1zz, f2zz, by rw [← Option.some.inj (z_t hzz f2zz)]⟩)
      · obtain ⟨z4, k4zz, hzz⟩ := z_bd (z_f hzz f2zz)
        exact Or.inr (Or.inr ⟨f1zz, f2zz, by rw [← Option.some.inj hzz]; exact k4zz⟩)
  · have ezz := cv_nle (a := p3zz.toInt) (b := 1) rfl (by decide) e2zz
    exact Or.inl ⟨fun qzz => by have := qzz.2.2.2; omega, by rw [← Option.some.inj (z_f hzz e2zz)]⟩
set_option maxHeartbeats 200000 in
theorem tf_be {pl : List CR} {o0zz o1 mezz o4zz o5zz czz st o8zz o6 o11 o9 : Ob} {im0 im1 : Option IR} {p0zz p1zz p2zz p3zz : Int32} {yzz : Int32 × Ob × Ob} {y' : Int32 × Ob} (ht : TF pl o0zz o1 o4zz o5zz o8zz o6 o11 o9 im0 im1) (h20 : gI o9 20 = 0) (h1 : f_X8_be o0zz mezz o4zz o5zz czz st pl p0zz p1zz p2zz p3zz = some yzz) (h2 : f_X9_be o9 p0zz p1zz p2zz p3zz = some y') : yzz.1 = y'.1 := by
  have hA := (ht.s h20).asb
  obtain ⟨-, hMzz, -, -, -, -, hZ⟩ := ht.s h20
  have n7 := hA.ppl.2
  have en := hA.2.2.2
  have en8 : (gI o4zz 7).toInt = ((gA o9 3 0).toInt.toNat : Int) := by rw [hA.ppl.1]; exact en
  rcases be9 en n7 h2 with ⟨a1zz, a2⟩ | ⟨a1zz, w6zz, l6, h2⟩
  · rcases be8 en8 h1 with ⟨b1, b2⟩ | ⟨b1, -⟩
    · rw [a2, b2]
    · exact absurd b1 a1zz
  rcases be8 en8 h1 with ⟨b1, b2⟩ | ⟨b1, z3, k3zz, h1⟩
  · exact absurd a1zz b1
  generalize hn : (gA o9 3 0).toInt.toNat = n at *
  obtain ⟨g0, g1, g2, g3zz⟩ := a1zz
  obtain ⟨Pzz, eP⟩ : ∃ Pzz : Nat, p0zz.toInt = (Pzz : Int) := ⟨p0zz.toInt.toNat, by omega⟩
  obtain ⟨R, eR⟩ : ∃ R : Nat, p1zz.toInt = (R : Int) := ⟨p1zz.toInt.toNat, by omega⟩
  obtain ⟨kzz, ek⟩ : ∃ kzz : Nat, p2zz.toInt = (kzz : Int) + 1 := ⟨p2zz.toInt.toNat - 1, by omega⟩
  have ix : ((p1zz * (7 : Int32)) + p0zz).toNatClampNeg = 7 * R + Pzz := tnc_eq (by rw [i32_add (i32_mul eR (by decide : (7 : Int32).toInt = 7) (by omega) (by omega)) eP (by omega) (by omega)]; omega)
  unfold f_X7_changedEntries at k3zz
  obtain ⟨z1, k1zz, k3zz⟩ := z_bd k3zz
  have k3zz := (z_gd k3zz).2
  rw [ix] at k3zz
  have hV := (sc_v hA eR (by omega) k1zz).1 Pzz (by omega)
  have s3zz : gA (sI o9 0 0) 3 = gA o9 3 := rfl
  by_cases cb : w6zz.1 = 0
  · obtain ⟨w7zz, l7, h2⟩ := z_bd (z_t h2 cb)
    obtain ⟨w8, l8, h2⟩ := z_bd h2
    have f6zz := fr_f_X9_isBarred l6
    have f7zz := fr_f_X9_layRuns l7
    have e3zz : gA w6zz.2 3 = gA o9 3 := f6zz.A 3 rfl
    have e20 : gI w6zz.2 20 = gI o9 20 := f6zz.I 20 rfl
    have hA6 : AsB pl o4zz o5zz w6zz.2 n := hA.eq e3zz e20
    have hSzz := scr_eq hA6 eR (by omega) k1zz l7
    have e37 : gA w7zz 3 = gA o9 3 := (f7zz.A 3 rfl).trans e3zz
    have hbzz : gA w7zz 44 Pzz = 0 := by
      rcases hSzz Pzz (by omega) with ⟨t, -⟩ | ⟨-, -, t⟩
      · exact t
      · have wzz := t (sI o9 0 0) p0zz p1zz w6zz e3zz.symm h20 eP eR l6
        rw [cb] at wzz; exact absurd wzz (by decide)
    have nb : ¬ gA z1.1 5 (7 * R + Pzz) = -1 := fun qzz => by
      rcases hSzz Pzz (by omega) with ⟨-, t, t0zz, -⟩ | ⟨t, -⟩
      · rw [← t, qzz, (by decide : (-1 : Int32).toInt = -1)] at t0zz; omega
      · rw [hbzz] at t; exact absurd t (by decide)
    have k3zz := z_f k3zz nb
    obtain ⟨z5, k5zz, k3zz⟩ := z_bd k3zz
    have za := ah_eq en8 n7 eP (by omega) eR (by omega) k5zz
    obtain ⟨x4zz, g4, k3zz⟩ := z_lt k3zz
    obtain ⟨z6, k6zz, k3zz⟩ := z_bd k3zz
    obtain ⟨x6, g6, k3zz⟩ := z_lt k3zz
    have hEb := hMzz.2.2.2.2.2
    obtain ⟨Ezz, eE⟩ : ∃ Ezz : Nat, (gI o5zz 2).toInt = (Ezz : Int) := ⟨(gI o5zz 2).toInt.toNat, by omega⟩
    have hE7 : Ezz < 128 := by omega
    have eE' : gI o5zz 2 = Int32.ofNat Ezz := i32_of eE (by omega)
    have bitzz : ∀ qzz, qzz < 7 → gA w7zz 3 (22 + qzz) = if Ezz.testBit qzz = true then 1 else 0 := fun qzz hq => by
      rw [e37]
      have b := ent_bit hMzz.2.2.2.2.1 eE hE7 hq
      rw [Nat.testBit_eq_decide_div_mod_eq]
      by_cases cq : (Ezz / 2 ^ qzz) % 2 = 1
      · rw [decide_eq_true cq, if_pos rfl]
        exact Int32.toInt_inj.mp (by rw [b, cq]; decide)
      · rw [decide_eq_false cq, if_neg (by decide)]
        exact Int32.toInt_inj.mp (by rw [b, (by omega : (Ezz / 2 ^ qzz) % 2 = 0)]; decide)
    have hE : Ezz < 2 ^ n := tb_ge hE7 n7 (fun qzz q1zz q2zz => by
      have b := bitzz qzz q2zz
      rw [e37, hZ (22 + qzz) (by omega)] at b
      cases ct : Ezz.testBit qzz with
      | false => rfl
      | true => rw [ct, if_pos rfl] at b; exact absurd b (by decide))
    have w8e : w8 = Int32.ofNat Ezz := by
      unfold f_X9_enteredBits at l8
      have qzz := en_lp (n := n) (ezz := Ezz) (by rw [e37]; exact en) n7 bitzz zfu 0 0 0 (by decide) (Nat.zero_le _) rfl l8
      rw [bsm_own hE] at qzz
      exact qzz
    have bl := bsm_lt (ahf z1.1 R Pzz) n
    have p2' := p2_le n7
    have ex4 : x4zz = Int32.ofNat (bsm (ahf z1.1 R Pzz) n &&& Ezz) := by rw [g4, za, eE']; exact and_all _ (by omega) _ hE7
    have hX : bsm (ahf z1.1 R Pzz) n &&& Ezz < 128 := and128 hE7
    rw [ex4, bc_all _ hX] at k6zz
    have k6zz := Option.some.inj k6zz
    have c7X := c7_le hX
    have tz6 : z6.toInt = (pc7 (bsm (ahf z1.1 R Pzz) n &&& Ezz) : Int) := by rw [← k6zz]; exact ofn (by show pc7 _ < _; omega)
    have t6 : x6.toInt = (pc7 (bsm (ahf z1.1 R Pzz) n &&& Ezz) : Int) - (kzz : Int) := by
      rw [g6, i32_sub tz6 (i32_sub ek (by decide : (1 : Int32).toInt = 1) (by omega) (by omega)) (by omega) (by omega)]; omega
    have hz : BeV z1.1 R Pzz n Ezz ((kzz : Int) + 1) z3.1 := by
      refine be_set n7 hE (by omega) t6 ?_
      rcases z_if k3zz with ⟨c0zz, k3zz⟩ | ⟨c0zz, k3zz⟩
      · obtain ⟨z7, k7zz, k3zz⟩ := z_bd k3zz
        rw [if_pos c0zz, ← Option.some.inj k3zz]
        rw [za, eE', andn_all _ (by omega) _ hE7] at k7zz
        exact k7zz
      · obtain ⟨z8, k8zz, k3zz⟩ := z_bd k3zz
        rw [if_neg c0zz, ← Option.some.inj k3zz, ← ex4]
        exact k8zz
    obtain ⟨azz, b, hBzz, ey⟩ := be_lp eP n7 (by omega) (by rw [e37]; exact en) hSzz hbzz w8e hE zfu 100000000 (-1) 0 0 (by decide) (Nat.zero_le _) (Or.inl ⟨rfl, rfl, fun Szz hSzz _ => absurd hSzz (Nat.not_lt_zero Szz)⟩) h2
    rw [ek] at hBzz
    rcases be_same n7 hz hBzz with ⟨s1zz, s2zz⟩ | ⟨cc, s0zz, s1zz, s2zz, s3'⟩
    · rw [s2zz, if_pos (Or.inl rfl)] at ey
      rw [ey]
      rcases h1 with ⟨-, h1⟩ | ⟨-, -, h1⟩ | ⟨-, h1, -⟩
      · rw [h1, s1zz]
      · rw [h1, s1zz]
      · exact absurd s1zz h1
    · have na : ¬ azz = -1 := fun qzz => by
        have wzz : (Int32.ofNat cc).toInt = (-1 : Int32).toInt := by rw [← s2zz, qzz]
        rw [ofn (by omega), (by decide : (-1 : Int32).toInt = -1)] at wzz
        omega
      by_cases cwzz : p3zz = 1
      · rw [if_pos (Or.inr cwzz)] at ey
        rw [ey, s2zz]
        rcases h1 with ⟨-, h1⟩ | ⟨h1, -⟩ | ⟨h1, -⟩
        · rw [h1, s1zz]
        · exact absurd cwzz h1
        · exact absurd cwzz h1
      · rw [if_neg (fun qzz => qzz.elim na cwzz)] at ey
        rw [ey, s3']
        rcases h1 with ⟨h1, -⟩ | ⟨-, h1, -⟩ | ⟨-, -, h1⟩
        · exact absurd h1 cwzz
        · rw [s1zz, ← s2zz] at h1; exact absurd h1 na
        · rw [s1zz, bc_all cc s0zz] at h1
          exact (Option.some.inj h1).symm
  · have yb : gA z1.1 5 (7 * R + Pzz) = -1 := by
      rcases hV with ⟨vzz, -⟩ | ⟨vzz, -⟩
      · exact vzz
      · exact absurd (vzz (sI o9 0 0) p0zz p1zz w6zz rfl h20 eP eR l6) cb
    have k3zz := Option.some.inj (z_t k3zz yb)
    rw [← Option.some.inj (z_f h2 cb)]
    rcases h1 with ⟨-, h1⟩ | ⟨-, -, h1⟩ | ⟨-, h1, -⟩
    · rw [h1, ← k3zz]
    · rw [h1, ← k3zz]
    · exact absurd (by rw [← k3zz]) h1
