-- be: bits
def pc7 (xzz : Nat) : Nat := pop7 xzz
set_option maxHeartbeats 200000 in
theorem cnt_tail {fzz : Nat → Bool} {n : Nat} : ∀ mzz, (∀ qzz, n ≤ qzz → qzz < n + mzz → fzz qzz = false) → cntf fzz (n + mzz) = cntf fzz n
  | 0, _ => rfl
  | mzz + 1, hzz => by
    show cntf fzz (n + mzz) + (if fzz (n + mzz) = true then 1 else 0) = cntf fzz n
    rw [cnt_tail mzz (fun qzz azz bzz => hzz qzz azz (by omega)), hzz (n + mzz) (by omega) (by omega)]
    rfl
set_option maxHeartbeats 200000 in
theorem cnt_cg {fzz gzz : Nat → Bool} : ∀ n, (∀ qzz, qzz < n → fzz qzz = gzz qzz) → cntf fzz n = cntf gzz n
  | 0, _ => rfl
  | n + 1, hzz => by
    show cntf fzz n + (if fzz n = true then 1 else 0) = cntf gzz n + (if gzz n = true then 1 else 0)
    rw [cnt_cg n (fun qzz azz => hzz qzz (by omega)), hzz n (by omega)]
set_option maxHeartbeats 200000 in
theorem cnt_bits {azz ezz s : Nat → Bool} : ∀ n, cntf (fun qzz => azz qzz && (ezz qzz ^^ s qzz)) n + cntf (fun qzz => (azz qzz && ezz qzz) && s qzz) n = cntf (fun qzz => azz qzz && ezz qzz) n + cntf (fun qzz => (azz qzz && (true ^^ ezz qzz)) && s qzz) n
  | 0 => rfl
  | n + 1 => by
    have hzz := cnt_bits (azz := azz) (ezz := ezz) (s := s) n
    show (cntf (fun qzz => azz qzz && (ezz qzz ^^ s qzz)) n + (if (azz n && (ezz n ^^ s n)) = true then 1 else 0)) + (cntf (fun qzz => (azz qzz && ezz qzz) && s qzz) n + (if ((azz n && ezz n) && s n) = true then 1 else 0)) = (cntf (fun qzz => azz qzz && ezz qzz) n + (if (azz n && ezz n) = true then 1 else 0)) + (cntf (fun qzz => (azz qzz && (true ^^ ezz qzz)) && s qzz) n + (if ((azz n && (true ^^ ezz n)) && s n) = true then 1 else 0))
    have kzz : (if (azz n && (ezz n ^^ s n)) = true then 1 else 0) + (if ((azz n && ezz n) && s n) = true then 1 else 0) = (if (azz n && ezz n) = true then 1 else 0) + (if ((azz n && (true ^^ ezz n)) && s n) = true then 1 else 0) := by
      cases azz n <;> cases ezz n <;> cases s n <;> rfl
    omega
set_option maxHeartbeats 200000 in
theorem c7_cnt : ∀ xzz, xzz < 128 → pc7 xzz = cntf (fun qzz => xzz.testBit qzz) 7 := by decide +kernel
set_option maxHeartbeats 200000 in
theorem ones_all : ∀ ezz, ezz < 128 → f_X9_ones (Int32.ofNat ezz) = some (Int32.ofNat (pc7 ezz)) := by decide +kernel
set_option maxHeartbeats 200000 in
theorem and_all : ∀ azz, azz < 128 → ∀ bzz, bzz < 128 → (Int32.ofNat azz) &&& (Int32.ofNat bzz) = Int32.ofNat (azz &&& bzz) := by decide +kernel
set_option maxHeartbeats 200000 in
theorem andn_all : ∀ azz, azz < 128 → ∀ bzz, bzz < 128 → (Int32.ofNat azz) &&& ((Int32.ofNat bzz) ^^^ (-1 : Int32)) = Int32.ofNat (azz &&& (127 ^^^ bzz)) := by decide +kernel
set_option maxHeartbeats 200000 in
theorem xor_all : ∀ azz, azz < 128 → ∀ bzz, bzz < 128 → (Int32.ofNat azz) ^^^ (Int32.ofNat bzz) = Int32.ofNat (azz ^^^ bzz) := by decide +kernel
set_option maxHeartbeats 200000 in
theorem is_all : ∀ ezz, ezz < 128 → ∀ qzz, qzz < 7 → f_X9_is (Int32.ofNat ezz) (Int32.ofNat qzz) = some (if ezz.testBit qzz = true then 1 else 0) := by decide +kernel
set_option maxHeartbeats 200000 in
theorem shl_all : ∀ n, n < 8 → (1 : Int32) <<< ((Int32.ofNat n) &&& 31) = Int32.ofNat (2 ^ n) := by decide +kernel
set_option maxHeartbeats 200000 in
theorem shl_z : ∀ n, n < 8 → (0 : Int32) <<< ((Int32.ofNat n) &&& 31) = 0 := by decide +kernel
/-- the lowest d of a set's bits -/
def lwa (Bzz : Nat) : List Nat → Nat → Nat
  | [], _ => 0
  | wzz :: wszz, d => if d = 0 then 0 else if (Bzz / wzz) % 2 = 1 then wzz + lwa Bzz wszz (d - 1) else lwa Bzz wszz d
def lwf (Bzz d : Nat) : Nat := lwa Bzz [1, 2, 4, 8, 16, 32, 64] d
set_option maxHeartbeats 200000 in
theorem low_all : ∀ Bzz, Bzz < 128 → ∀ d, d < 8 → f_X7_lowestBits (Int32.ofNat Bzz) (Int32.ofNat d) = some (if pc7 Bzz < d then -1 else Int32.ofNat (lwf Bzz d)) := by decide +kernel
set_option maxHeartbeats 200000 in
theorem lw_ok : ∀ Bzz, Bzz < 128 → ∀ d, d < 8 → d ≤ pc7 Bzz → pc7 (lwf Bzz d) = d ∧ lwf Bzz d &&& Bzz = lwf Bzz d := by decide +kernel
set_option maxHeartbeats 200000 in
theorem lw_min : ∀ Bzz, Bzz < 128 → ∀ Uzz, Uzz < 128 → Uzz &&& Bzz = Uzz → lwf Bzz (pc7 Uzz) ≤ Uzz := by decide +kernel
set_option maxHeartbeats 200000 in
theorem ss_all : ∀ Xzz, Xzz < 128 → ∀ Szz, Szz < 128 → pc7 (Xzz &&& Szz) ≤ pc7 Szz ∧ pc7 (Xzz &&& Szz) ≤ pc7 Xzz ∧ (pc7 (Xzz &&& Szz) = pc7 Szz → Szz &&& Xzz = Szz) ∧ pc7 Szz ≤ 7 := by decide +kernel
set_option maxHeartbeats 200000 in
theorem bsm_tb {fzz : Nat → Bool} : ∀ n qzz, (bsm fzz n).testBit qzz = (decide (qzz < n) && fzz qzz)
  | 0, qzz => by
    show (0 : Nat).testBit qzz = _
    rw [Nat.zero_testBit, decide_eq_false (Nat.not_lt_zero qzz)]; rfl
  | n + 1, qzz => by
    have hzz := bsm_tb (fzz := fzz) n qzz
    have hl := bsm_lt fzz n
    show (bsm fzz n + (if fzz n = true then 2 ^ n else 0)).testBit qzz = _
    by_cases czz : fzz n = true
    · rw [if_pos czz, Nat.add_comm]
      by_cases c1zz : qzz = n
      · rw [c1zz, Nat.testBit_two_pow_add_eq, Nat.testBit_lt_two_pow hl, decide_eq_true (Nat.lt_succ_self n), czz]; rfl
      · by_cases c2zz : qzz < n
        · rw [Nat.testBit_two_pow_add_gt c2zz, hzz, decide_eq_true c2zz, decide_eq_true (show qzz < n + 1 by omega)]
        · have hbzz : 2 ^ n + bsm fzz n < 2 ^ qzz := by
            have h1 : 2 ^ (n + 1) ≤ 2 ^ qzz := Nat.pow_le_pow_right (by decide) (by omega)
            rw [Nat.pow_succ] at h1
            omega
          rw [Nat.testBit_lt_two_pow hbzz, decide_eq_false (show ¬ qzz < n + 1 by omega)]; rfl
    · rw [if_neg czz, Nat.add_zero, hzz]
      by_cases c1zz : qzz = n
      · rw [c1zz, Bool.eq_false_iff.mpr czz, Bool.and_false, Bool.and_false]
      · by_cases c2zz : qzz < n
        · rw [decide_eq_true c2zz, decide_eq_true (show qzz < n + 1 by omega)]
        · rw [decide_eq_false c2zz, decide_eq_false (show ¬ qzz < n + 1 by omega)]
/-- a set of changed entries that will do -/
def GoodS (st : Ob) (R Pzz n Ezz : Nat) (pl : Int) (Szz : Nat) : Prop := Szz.testBit Pzz = false ∧ 1 + (cntf (fun qzz => ahf st R Pzz qzz && (Ezz ^^^ Szz).testBit qzz) n : Int) = pl
/-- the best of those below i -/
def Bst (st : Ob) (R Pzz n Ezz : Nat) (pl : Int) (izz : Nat) (v7 v6 : Int32) : Prop :=
  (v7 = -1 ∧ v6 = 100000000 ∧ ∀ Szz, Szz < izz → ¬ GoodS st R Pzz n Ezz pl Szz) ∨ (∃ s, s < izz ∧ GoodS st R Pzz n Ezz pl s ∧ v7 = Int32.ofNat s ∧ v6 = Int32.ofNat (pc7 s) ∧ ∀ Szz, Szz < izz → GoodS st R Pzz n Ezz pl Szz → pc7 s < pc7 Szz ∨ (pc7 s = pc7 Szz ∧ s ≤ Szz))
set_option maxHeartbeats 200000 in
theorem ofn {ezz : Nat} (hzz : ezz < 2147483648) : (Int32.ofNat ezz).toInt = (ezz : Int) := Int32.toInt_ofNat_of_lt hzz
set_option maxHeartbeats 200000 in
theorem c7_le {xzz : Nat} (hzz : xzz < 128) : pc7 xzz ≤ 7 := (ss_all 0 (by decide) xzz hzz).2.2.2
set_option maxHeartbeats 200000 in
theorem be_lp {st o : Ob} {Gzz : Nat → Int32} {pzz pl v5 : Int32} {wh : Int32} {n R Pzz Ezz : Nat} {y' : Int32 × Ob} (eP : pzz.toInt = (Pzz : Int)) (n7 : n ≤ 7) (hP : Pzz < n) (en : (gA o 3 0).toInt = (n : Int)) (hSzz : ∀ qzz, qzz < n → ScP st o Gzz R qzz) (hbzz : gA o 44 Pzz = 0) (e5zz : v5 = Int32.ofNat Ezz) (hE : Ezz < 2 ^ n) :
    ∀ (Nzz : Nat) (v6 v7 v8 : Int32) (izz : Nat), v8.toInt = (izz : Int) → izz ≤ 2 ^ n → Bst st R Pzz n Ezz pl.toInt izz v7 v6 → lp_X9_be_76 Nzz (pzz, pl, wh, v5, v6, v7, v8, o) = some y' → ∃ azz bzz : Int32, Bst st R Pzz n Ezz pl.toInt (2 ^ n) azz bzz ∧ y'.1 = if azz = -1 ∨ wh = 1 then azz else bzz := by
  have n0zz : (0 : Int32).toNatClampNeg = 0 := by decide
  have p2zz := p2_le n7
  intro Nzz
  induction Nzz with
  | zero => intro v6 v7 v8 izz _ _ _ hzz; cases hzz
  | succ Nzz ihzz =>
    intro v6 v7 v8 izz e8 hizz hBzz hzz
    have hzz : lb_X9_be_76 (lp_X9_be_76 Nzz) pzz pl wh v5 v6 v7 v8 o = some y' := hzz
    unfold lb_X9_be_76 at hzz
    rw [n0zz] at hzz
    have esh : (1 : Int32) <<< ((gA o 3 0) &&& 31) = Int32.ofNat (2 ^ n) := by rw [i32_of en (by omega)]; exact shl_all n (by omega)
    rw [esh] at hzz
    have tsh : (Int32.ofNat (2 ^ n)).toInt = ((2 ^ n : Nat) : Int) := ofn (by omega)
    by_cases c1zz : Int32.ofNat (2 ^ n) ≤ v8
    · have d := cv_le (a := ((2 ^ n : Nat) : Int)) (b := (izz : Int)) tsh e8 c1zz
      have ei : izz = 2 ^ n := by omega
      rw [ei] at hBzz
      refine ⟨v7, v6, hBzz, ?_⟩
      have hzz := z_t hzz c1zz
      unfold bk_X9_be_178 at hzz
      by_cases c2zz : v7 = -1
      · rw [← Option.some.inj (z_t hzz c2zz), if_pos (Or.inl c2zz)]
      · have hzz := z_f hzz c2zz
        by_cases c3zz : wh = 1
        · rw [← Option.some.inj (z_t hzz c3zz), if_pos (Or.inr c3zz)]
        · rw [← Option.some.inj (z_f hzz c3zz), if_neg (fun qzz => qzz.elim c2zz c3zz)]
    · have d := cv_nle (a := ((2 ^ n : Nat) : Int)) (b := (izz : Int)) tsh e8 c1zz
      have hi2 : izz < 2 ^ n := by omega
      have hzz := z_f hzz c1zz
      have e8' : v8 = Int32.ofNat izz := i32_of e8 (by omega)
      have eP' : pzz = Int32.ofNat Pzz := i32_of eP (by omega)
      have e1zz : (v8 + (1 : Int32)).toInt = ((izz + 1 : Nat) : Int) := Eq.trans (i32_add e8 (by decide : (1 : Int32).toInt = 1) (by omega) (by omega)) (by omega)
      have onzz := ones_all izz (by omega)
      rw [← e8'] at onzz
      have ti : (Int32.ofNat (pc7 izz)).toInt = (pc7 izz : Int) := ofn (by have := c7_le (show izz < 128 by omega); omega)
      -- no better
      have no : (GoodS st R Pzz n Ezz pl.toInt izz → ∃ s, s < izz ∧ GoodS st R Pzz n Ezz pl.toInt s ∧ v7 = Int32.ofNat s ∧ v6 = Int32.ofNat (pc7 s) ∧ pc7 s ≤ pc7 izz) → bk_X9_be_126 (lp_X9_be_76 Nzz) pzz pl wh v5 v6 v7 v8 o = some y' → ∃ azz bzz : Int32, Bst st R Pzz n Ezz pl.toInt (2 ^ n) azz bzz ∧ y'.1 = if azz = -1 ∨ wh = 1 then azz else bzz := by
        intro hg hzz
        unfold bk_X9_be_126 bk_X9_be_127 at hzz
        have hzz := z_t hzz rfl
        unfold bk_X9_be_141 at hzz
        have hzz := z_t hzz rfl
        unfold bk_X9_be_158 at hzz
        obtain ⟨x10, g10, hzz⟩ := z_lt hzz
        refine ihzz v6 v7 x10 (izz + 1) (by rw [g10]; exact e1zz) (by omega) ?_ hzz
        rcases hBzz with ⟨b1, b2, b3⟩ | ⟨s, b1, b2, b3, b4, b5⟩
        · refine Or.inl ⟨b1, b2, fun Szz hS' hG => ?_⟩
          by_cases cs : Szz = izz
          · rw [cs] at hG
            obtain ⟨s, s1zz, s2zz, -⟩ := hg hG
            exact b3 s s1zz s2zz
          · exact b3 Szz (by omega) hG
        · refine Or.inr ⟨s, by omega, b2, b3, b4, fun Szz hS' hG => ?_⟩
          by_cases cs : Szz = izz
          · rw [cs] at hG ⊢
            obtain ⟨s', s1zz, s2zz, s3zz, s4zz, s5⟩ := hg hG
            have es : s = s' := by
              have qzz : (Int32.ofNat s).toInt = (Int32.ofNat s').toInt := by rw [← b3, ← s3zz]
              rw [ofn (by omega), ofn (by omega)] at qzz
              omega
            rw [es]
            omega
          · exact b5 Szz (by omega) hG
      obtain ⟨w9, l9, hzz⟩ := z_bd hzz
      rw [e8', eP', is_all izz (by omega) Pzz (by omega)] at l9
      have l9 := Option.some.inj l9
      by_cases cP : izz.testBit Pzz = true
      · rw [if_pos cP] at l9
        exact no (fun hG => by have qzz := hG.1; rw [cP] at qzz; cases qzz) (z_f hzz (by rw [← l9]; decide))
      · rw [if_neg cP] at l9
        obtain ⟨w12, l12, hzz⟩ := z_bd (z_t hzz l9.symm)
        rw [onzz] at l12
        have l12 := Option.some.inj l12
        rw [← l12] at hzz
        by_cases c6zz : v6 ≤ Int32.ofNat (pc7 izz)
        · refine no (fun hG => ?_) (z_t hzz c6zz)
          rcases hBzz with ⟨b1, b2, b3⟩ | ⟨s, b1, b2, b3, b4, b5⟩
          · rw [b2] at c6zz
            have qzz := cv_le (a := 100000000) (b := (pc7 izz : Int)) (by decide) ti c6zz
            have := c7_le (show izz < 128 by omega)
            omega
          · rw [b4] at c6zz
            have qzz := cv_le (a := (pc7 s : Int)) (b := (pc7 izz : Int)) (ofn (by have := c7_le (show s < 128 by omega); omega)) ti c6zz
            exact ⟨s, b1, b2, b3, b4, by omega⟩
        · have hzz := z_f hzz c6zz
          obtain ⟨w13zz, l13, hzz⟩ := z_bd hzz
          have exzz : v5 ^^^ v8 = Int32.ofNat (Ezz ^^^ izz) := by rw [e5zz, e8']; exact xor_all Ezz (by omega) izz (by omega)
          have hx : Ezz ^^^ izz < 128 := Nat.xor_lt_two_pow (n := 7) (show Ezz < 2 ^ 7 by omega) (show izz < 2 ^ 7 by omega)
          have wp := pl_eq eP n7 hP en hSzz hbzz exzz hx l13
          have wc : cntf (fun qzz => ahf st R Pzz qzz && decide (((Ezz ^^^ izz) / 2 ^ qzz) % 2 = 1)) n = cntf (fun qzz => ahf st R Pzz qzz && (Ezz ^^^ izz).testBit qzz) n := cnt_cg n (fun qzz _ => by rw [Nat.testBit_eq_decide_div_mod_eq])
          rw [wc] at wp
          by_cases c13zz : w13zz = pl
          · -- better
            have hG : GoodS st R Pzz n Ezz pl.toInt izz := ⟨Bool.eq_false_iff.mpr cP, by rw [← wp, c13zz]⟩
            have hzz := z_t hzz c13zz
            unfold bk_X9_be_127 at hzz
            have hzz := z_f hzz (by decide)
            unfold bk_X9_be_141 at hzz
            obtain ⟨w11zz, l11, hzz⟩ := z_bd (z_f hzz (by decide))
            rw [onzz] at l11
            have l11 := Option.some.inj l11
            unfold bk_X9_be_158 at hzz
            obtain ⟨x10, g10, hzz⟩ := z_lt hzz
            refine ihzz w11zz v8 x10 (izz + 1) (by rw [g10]; exact e1zz) (by omega) ?_ hzz
            refine Or.inr ⟨izz, by omega, hG, e8', l11.symm, fun Szz hS' hGS => ?_⟩
            by_cases cs : Szz = izz
            · rw [cs]; exact Or.inr ⟨rfl, Nat.le_refl _⟩
            · rcases hBzz with ⟨b1, b2, b3⟩ | ⟨s, b1, b2, b3, b4, b5⟩
              · exact absurd hGS (b3 Szz (by omega))
              · rw [b4] at c6zz
                have qzz := cv_nle (a := (pc7 s : Int)) (b := (pc7 izz : Int)) (ofn (by have := c7_le (show s < 128 by omega); omega)) ti c6zz
                rcases b5 Szz (by omega) hGS with uzz | ⟨uzz, -⟩
                · exact Or.inl (by omega)
                · exact Or.inl (by omega)
          · refine no (fun hG => absurd (Int32.toInt_inj.mp ?_) c13zz) (z_f hzz c13zz)
            rw [wp]; exact hG.2
set_option maxHeartbeats 200000 in
theorem en_lp {o : Ob} {n ezz : Nat} {zzz : Int32} (en : (gA o 3 0).toInt = (n : Int)) (n7 : n ≤ 7) (hG : ∀ qzz, qzz < 7 → gA o 3 (22 + qzz) = if ezz.testBit qzz = true then 1 else 0) : ∀ (Nzz : Nat) (v1zz v2 : Int32) (izz : Nat), v2.toInt = (izz : Int) → izz ≤ n → v1zz = Int32.ofNat (bsm (fun qzz => ezz.testBit qzz) izz) → lp_X9_enteredBits_4 o Nzz (v1zz, v2) = some zzz → zzz = Int32.ofNat (bsm (fun qzz => ezz.testBit qzz) n) := by
  have n0zz : (0 : Int32).toNatClampNeg = 0 := by decide
  intro Nzz
  induction Nzz with
  | zero => intro v1zz v2 izz _ _ _ hzz; cases hzz
  | succ Nzz ihzz =>
    intro v1zz v2 izz e2zz hizz e1zz hzz
    have hzz : lb_X9_enteredBits_4 o (lp_X9_enteredBits_4 o Nzz) v1zz v2 = some zzz := hzz
    unfold lb_X9_enteredBits_4 at hzz
    rw [n0zz] at hzz
    by_cases c1zz : gA o 3 0 ≤ v2
    · have d := cv_le (a := (n : Int)) (b := (izz : Int)) en e2zz c1zz
      have ein : izz = n := by omega
      rw [← Option.some.inj (z_t hzz c1zz), e1zz, ein]
    · have d := cv_nle (a := (n : Int)) (b := (izz : Int)) en e2zz c1zz
      have i22 : ((22 : Int32) + v2).toNatClampNeg = 22 + izz := tnc_eq (by rw [i32_add (by decide : (22 : Int32).toInt = 22) e2zz (by omega) (by omega)]; omega)
      have hzz := (z_gd (z_f hzz c1zz)).2
      rw [i22, hG izz (by omega)] at hzz
      obtain ⟨x2zz, g2, hzz⟩ := z_lt hzz
      obtain ⟨x3, g3zz, hzz⟩ := z_lt hzz
      refine ihzz x2zz x3 (izz + 1) (by rw [g3zz]; exact Eq.trans (i32_add e2zz (by decide : (1 : Int32).toInt = 1) (by omega) (by omega)) (by omega)) (by omega) ?_ hzz
      have e2' : v2 = Int32.ofNat izz := i32_of e2zz (by omega)
      have b1 := bsm_lt (fun qzz => ezz.testBit qzz) izz
      have b2 := p2_le (show izz ≤ 7 by omega)
      show _ = Int32.ofNat (bsm (fun qzz => ezz.testBit qzz) izz + (if ezz.testBit izz = true then 2 ^ izz else 0))
      rw [g2, e1zz, e2']
      by_cases cb : ezz.testBit izz = true
      · rw [if_pos cb, if_pos cb, or_bit izz (by omega) _ (by omega) b1]
      · rw [if_neg cb, if_neg cb, shl_z izz (by omega), Int32.or_zero, Nat.add_zero]
set_option maxHeartbeats 200000 in
theorem bsm_own {ezz n : Nat} (he : ezz < 2 ^ n) : bsm (fun qzz => ezz.testBit qzz) n = ezz := by
  refine Nat.eq_of_testBit_eq (fun qzz => ?_)
  rw [bsm_tb]
  by_cases czz : qzz < n
  · rw [decide_eq_true czz]; rfl
  · rw [decide_eq_false czz, Nat.testBit_lt_two_pow (Nat.lt_of_lt_of_le he (Nat.pow_le_pow_right (by decide) (by omega)))]; rfl
set_option maxHeartbeats 200000 in
theorem tb_ge {ezz n : Nat} (he : ezz < 128) (n7 : n ≤ 7) (hzz : ∀ qzz, n ≤ qzz → qzz < 7 → ezz.testBit qzz = false) : ezz < 2 ^ n := by
  have qzz : bsm (fun qzz => ezz.testBit qzz) n = ezz := by
    refine Nat.eq_of_testBit_eq (fun qzz => ?_)
    rw [bsm_tb]
    by_cases czz : qzz < n
    · rw [decide_eq_true czz]; rfl
    · rw [decide_eq_false czz]
      by_cases c7' : qzz < 7
      · rw [hzz qzz (by omega) c7']; rfl
      · rw [Nat.testBit_lt_two_pow (Nat.lt_of_lt_of_le (show ezz < 2 ^ 7 by omega) (Nat.pow_le_pow_right (by decide) (by omega)))]; rfl
  rw [← qzz]; exact bsm_lt _ n
