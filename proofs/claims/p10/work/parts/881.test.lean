-- heads of clauses
set_option maxRecDepth 100000 in
theorem tx0_d : ∀ kzz, kzz < 4 → tx0[kzz]? = some (tx0.getD kzz []) ∧ (tx0.getD kzz []).length ≤ 10 ∧ (tx0.getD kzz []).all (fun d => decide (1 ≤ d ∧ d ≤ 26)) = true := by decide +kernel
set_option maxRecDepth 100000 in
theorem tx0_n : ∀ jzz, jzz < 4 → ∀ kzz, kzz < 4 → jzz ≠ kzz → codR (tx0.getD jzz []) ≠ codR (tx0.getD kzz []) := by decide +kernel
set_option maxHeartbeats 200000 in
theorem hd_lpL {rd o yzz : Ob} (hzz : TT rd o) (ht : ∀ kzz, kzz < 4 → (gM o 33 kzz).toInt = codR (tx0.getD kzz [])) : ∀ (Nzz : Nat) (v1zz v2 : Int32) (izz : Nat), v2.toInt = (izz : Int) → izz ≤ 4 → ((v1zz = -1 ∧ ∀ jzz, jzz < izz → ¬ IsW o (tx0.getD jzz [])) ∨ (∃ jzz : Nat, jzz < izz ∧ v1zz.toInt = (jzz : Int) ∧ IsW o (tx0.getD jzz []))) → lp_X9_readLaw_4 Nzz (v1zz, v2, o) = some yzz →
    ∃ vzz : Int32, ((vzz = -1 ∧ ∀ jzz, jzz < 4 → ¬ IsW o (tx0.getD jzz [])) ∨ (∃ jzz : Nat, jzz < 4 ∧ vzz.toInt = (jzz : Int) ∧ IsW o (tx0.getD jzz []))) ∧ (if vzz = (-1 : Int32) then (bk_X9_readLaw_53 vzz o) else (if (12 : Int32) ≤ (gI o 21) then (bk_X9_readLaw_53 vzz o) else (bk_X9_readLaw_54 vzz (1 : Int32) o))) = some yzz := by
  intro Nzz
  induction Nzz with
  | zero => intro v1zz v2 izz _ _ _ hzz; cases hzz
  | succ Nzz ihzz =>
    intro v1zz v2 izz e2zz hizz hv hz
    have hz : lb_X9_readLaw_4 (lp_X9_readLaw_4 Nzz) v1zz v2 o = some yzz := hz
    unfold lb_X9_readLaw_4 at hz
    by_cases czz : (4 : Int32) ≤ v2
    · have d := cv_le (a := 4) (b := (izz : Int)) (by decide) e2zz czz
      refine ⟨v1zz, ?_, z_t hz czz⟩
      rcases hv with ⟨q1zz, q2zz⟩ | ⟨jzz, q1zz, q2zz, q3zz⟩
      · exact Or.inl ⟨q1zz, fun jzz hj => q2zz jzz (by omega)⟩
      · exact Or.inr ⟨jzz, by omega, q2zz, q3zz⟩
    · have d := cv_nle (a := 4) (b := (izz : Int)) (by decide) e2zz czz
      obtain ⟨-, hz⟩ := z_gd (z_f hz czz)
      obtain ⟨z2, ez2, hz⟩ := z_bd hz
      have i2zz : v2.toNatClampNeg = izz := tnc_eq e2zz
      rw [i2zz] at ez2
      have hdzz := tx0_d izz (by omega)
      have hst : ∀ s0zz : Int32, bk_X9_readLaw_27 (lp_X9_readLaw_4 Nzz) v2 s0zz o = some yzz → ((s0zz = -1 ∧ ∀ jzz, jzz < izz + 1 → ¬ IsW o (tx0.getD jzz [])) ∨ (∃ jzz : Nat, jzz < izz + 1 ∧ s0zz.toInt = (jzz : Int) ∧ IsW o (tx0.getD jzz []))) → ∃ vzz : Int32, ((vzz = -1 ∧ ∀ jzz, jzz < 4 → ¬ IsW o (tx0.getD jzz [])) ∨ (∃ jzz : Nat, jzz < 4 ∧ vzz.toInt = (jzz : Int) ∧ IsW o (tx0.getD jzz []))) ∧ (if vzz = (-1 : Int32) then (bk_X9_readLaw_53 vzz o) else (if (12 : Int32) ≤ (gI o 21) then (bk_X9_readLaw_53 vzz o) else (bk_X9_readLaw_54 vzz (1 : Int32) o))) = some yzz := by
        intro s0zz kzz hs
        unfold bk_X9_readLaw_27 at kzz
        obtain ⟨x3, e3zz, kzz⟩ := z_lt kzz
        have t3zz : x3.toInt = (izz : Int) + 1 := by rw [e3zz]; exact i32_add e2zz (by decide) (by omega) (by omega)
        exact ihzz s0zz x3 (izz + 1) (by omega) (by omega) hs kzz
      rcases w9 hzz (all_dig hdzz.2.2) hdzz.2.1 (ht izz (by omega)) ez2 with ⟨g1, g2⟩ | ⟨g1, g2⟩
      · refine hst v1zz (z_t hz g1) ?_
        rcases hv with ⟨q1zz, q2zz⟩ | ⟨jzz, q1zz, q2zz, q3zz⟩
        · refine Or.inl ⟨q1zz, fun jzz hj => ?_⟩
          by_cases ezz : jzz = izz
          · rw [ezz]; exact g2
          · exact q2zz jzz (by omega)
        · exact Or.inr ⟨jzz, by omega, q2zz, q3zz⟩
      · exact hst v2 (z_f hz g1) (Or.inr ⟨izz, by omega, e2zz, g2⟩)
set_option maxHeartbeats 200000 in
theorem head_eqL {rd o yzz : Ob} {z1 : Int32} (hzz : TT rd o) (ht : ∀ kzz, kzz < 4 → (gM o 33 kzz).toInt = codR (tx0.getD kzz [])) (h1 : f_X6_wordOf rd 0 = some z1) (hy : f_X9_readLaw o = some yzz) : (z1 = -1 ∧ bk_X9_readLaw_54 (-1) 0 o = some yzz) ∨ ((0 ≤ z1.toInt ∧ z1.toInt ≤ 3) ∧ gI o 16 = 1 ∧ ((gI o 21).toInt < 12 → bk_X9_readLaw_54 z1 1 o = some yzz)) := by
  obtain ⟨vzz, bzz, hx⟩ := hd_lpL hzz ht zfu (-1) 0 0 (by decide) (by decide) (Or.inl ⟨rfl, fun jzz hj => absurd hj (Nat.not_lt_zero _)⟩) hy
  have azz := wo8 hzz (by decide) tx0_ok (by decide) h1
  have hlen : tx0.length = 4 := by decide
  have memzz : ∀ jzz, jzz < 4 → tx0.getD jzz [] ∈ tx0 := fun jzz hj => List.mem_of_getElem? (tx0_d jzz hj).1
  rcases azz with ⟨jzz, R, a1zz, a2, a3⟩ | ⟨a1zz, a2⟩ <;> rcases bzz with ⟨b1, b2⟩ | ⟨kzz, b1, b2, b3⟩
  · have hj : jzz < 4 := by
      rcases (show jzz < 4 ∨ 4 ≤ jzz by omega) with uzz | uzz
      · exact uzz
      · rw [List.getElem?_eq_none (by rw [hlen]; exact uzz)] at a1zz; cases a1zz
    have ezz : tx0.getD jzz [] = R := Option.some.inj ((tx0_d jzz hj).1.symm.trans a1zz)
    rw [← ezz] at a3
    exact absurd a3 (b2 jzz hj)
  · have hj : jzz < 4 := by
      rcases (show jzz < 4 ∨ 4 ≤ jzz by omega) with uzz | uzz
      · exact uzz
      · rw [List.getElem?_eq_none (by rw [hlen]; exact uzz)] at a1zz; cases a1zz
    have ezz : tx0.getD jzz [] = R := Option.some.inj ((tx0_d jzz hj).1.symm.trans a1zz)
    rw [← ezz] at a3
    have ejk : jzz = kzz := by
      rcases (show jzz = kzz ∨ jzz ≠ kzz by omega) with uzz | uzz
      · exact uzz
      · have dj := tx0_d jzz hj
        have dk := tx0_d kzz b1
        exact absurd b3 (IsW.ne hzz (all_dig dj.2.2) dj.2.1 (all_dig dk.2.2) dk.2.1 (tx0_n jzz hj kzz b1 uzz) a3)
    have evzz : vzz = z1 := Int32.toInt_inj.mp (by rw [b2, a2, ejk])
    rw [evzz] at hx
    refine Or.inr ⟨⟨by omega, by omega⟩, a3.1, fun qzz => ?_⟩
    have hx := z_f hx (fun czz => by have czz := cv_eq (a := z1.toInt) (b := -1) rfl (by decide) czz; omega)
    exact z_f hx (fun czz => by have czz := cv_le (a := 12) (b := (gI o 21).toInt) (by decide) rfl czz; omega)
  · refine Or.inl ⟨a1zz, ?_⟩
    have hx := z_t hx b1
    rw [b1] at hx
    exact hx
  · exact absurd b3 (a2 _ (memzz kzz b1))
set_option maxHeartbeats 200000 in
/-- a thirteenth clause: the reference fails -/
theorem too_manyL {rd o yzz : Ob} (hzz : TT rd o) (h19 : gI o 19 = 0) (ht : ∀ kzz, kzz < 4 → (gM o 33 kzz).toInt = codR (tx0.getD kzz [])) (hn : 12 ≤ (gI o 21).toInt) (hy : f_X9_readLaw o = some yzz) : gI yzz 19 = 1 ∧ gI yzz 18 = gI o 14 ∧ gA yzz 3 = gA o 3 := by
  obtain ⟨vzz, bzz, hx⟩ := hd_lpL hzz ht zfu (-1) 0 0 (by decide) (by decide) (Or.inl ⟨rfl, fun jzz hj => absurd hj (Nat.not_lt_zero _)⟩) hy
  have hx : bk_X9_readLaw_53 vzz o = some yzz := by
    by_cases czz : vzz = -1
    · exact z_t hx czz
    · exact z_t (z_f hx czz) (Int32.le_iff_toInt_le.mpr (by have : (12 : Int32).toInt = 12 := (by decide); omega))
  unfold bk_X9_readLaw_53 bk_X9_readLaw_54 at hx
  obtain ⟨zm, ezm, hx⟩ := z_bd hx
  have em := mu_no h19 ezm
  have k19 : gI zm 19 = 1 := by rw [em]; rfl
  rw [← Option.some.inj (z_f hx (by rw [k19]; decide))]
  exact ⟨k19, by rw [em]; rfl, by rw [em]; rfl⟩

set_option maxRecDepth 100000 in
theorem tx1_d : ∀ kzz, kzz < 4 → tx1[kzz]? = some (tx1.getD kzz []) ∧ (tx1.getD kzz []).length ≤ 10 ∧ (tx1.getD kzz []).all (fun d => decide (1 ≤ d ∧ d ≤ 26)) = true := by decide +kernel
set_option maxRecDepth 100000 in
theorem tx1_n : ∀ jzz, jzz < 4 → ∀ kzz, kzz < 4 → jzz ≠ kzz → codR (tx1.getD jzz []) ≠ codR (tx1.getD kzz []) := by decide +kernel
set_option maxHeartbeats 200000 in
theorem hd_lpO {rd o yzz : Ob} (hzz : TT rd o) (ht : ∀ kzz, kzz < 4 → (gM o 54 kzz).toInt = codR (tx1.getD kzz [])) : ∀ (Nzz : Nat) (v1zz v2 : Int32) (izz : Nat), v2.toInt = (izz : Int) → izz ≤ 4 → ((v1zz = -1 ∧ ∀ jzz, jzz < izz → ¬ IsW o (tx1.getD jzz [])) ∨ (∃ jzz : Nat, jzz < izz ∧ v1zz.toInt = (jzz : Int) ∧ IsW o (tx1.getD jzz []))) → lp_X9_readOrder_4 Nzz (v1zz, v2, o) = some yzz →
    ∃ vzz : Int32, ((vzz = -1 ∧ ∀ jzz, jzz < 4 → ¬ IsW o (tx1.getD jzz [])) ∨ (∃ jzz : Nat, jzz < 4 ∧ vzz.toInt = (jzz : Int) ∧ IsW o (tx1.getD jzz []))) ∧ (if vzz = (-1 : Int32) then (bk_X9_readOrder_53 vzz o) else (if (12 : Int32) ≤ (gI o 21) then (bk_X9_readOrder_53 vzz o) else (bk_X9_readOrder_54 vzz (1 : Int32) o))) = some yzz := by
  intro Nzz
  induction Nzz with
  | zero => intro v1zz v2 izz _ _ _ hzz; cases hzz
  | succ Nzz ihzz =>
    intro v1zz v2 izz e2zz hizz hv hz
    have hz : lb_X9_readOrder_4 (lp_X9_readOrder_4 Nzz) v1zz v2 o = some yzz := hz
    unfold lb_X9_readOrder_4 at hz
    by_cases czz : (4 : Int32) ≤ v2
    · have d := cv_le (a := 4) (b := (izz : Int)) (by decide) e2zz czz
      refine ⟨v1zz, ?_, z_t hz czz⟩
      rcases hv with ⟨q1zz, q2zz⟩ | ⟨jzz, q1zz, q2zz, q3zz⟩
      · exact Or.inl ⟨q1zz, fun jzz hj => q2zz jzz (by omega)⟩
      · exact Or.inr ⟨jzz, by omega, q2zz, q3zz⟩
    · have d := cv_nle (a := 4) (b := (izz : Int)) (by decide) e2zz czz
      obtain ⟨-, hz⟩ := z_gd (z_f hz czz)
      obtain ⟨z2, ez2, hz⟩ := z_bd hz
      have i2zz : v2.toNatClampNeg = izz := tnc_eq e2zz
      rw [i2zz] at ez2
      have hdzz := tx1_d izz (by omega)
      have hst : ∀ s0zz : Int32, bk_X9_readOrder_27 (lp_X9_readOrder_4 Nzz) v2 s0zz o = some yzz → ((s0zz = -1 ∧ ∀ jzz, jzz < izz + 1 → ¬ IsW o (tx1.getD jzz [])) ∨ (∃ jzz : Nat, jzz < izz + 1 ∧ s0zz.toInt = (jzz : Int) ∧ IsW o (tx1.getD jzz []))) → ∃ vzz : Int32, ((vzz = -1 ∧ ∀ jzz, jzz < 4 → ¬ IsW o (tx1.getD jzz [])) ∨ (∃ jzz : Nat, jzz < 4 ∧ vzz.toInt = (jzz : Int) ∧ IsW o (tx1.getD jzz []))) ∧ (if vzz = (-1 : Int32) then (bk_X9_readOrder_53 vzz o) else (if (12 : Int32) ≤ (gI o 21) then (bk_X9_readOrder_53 vzz o) else (bk_X9_readOrder_54 vzz (1 : Int32) o))) = some yzz := by
        intro s0zz kzz hs
        unfold bk_X9_readOrder_27 at kzz
        obtain ⟨x3, e3zz, kzz⟩ := z_lt kzz
        have t3zz : x3.toInt = (izz : Int) + 1 := by rw [e3zz]; exact i32_add e2zz (by decide) (by omega) (by omega)
        exact ihzz s0zz x3 (izz + 1) (by omega) (by omega) hs kzz
      rcases w9 hzz (all_dig hdzz.2.2) hdzz.2.1 (ht izz (by omega)) ez2 with ⟨g1, g2⟩ | ⟨g1, g2⟩
      · refine hst v1zz (z_t hz g1) ?_
        rcases hv with ⟨q1zz, q2zz⟩ | ⟨jzz, q1zz, q2zz, q3zz⟩
        · refine Or.inl ⟨q1zz, fun jzz hj => ?_⟩
          by_cases ezz : jzz = izz
          · rw [ezz]; exact g2
          · exact q2zz jzz (by omega)
        · exact Or.inr ⟨jzz, by omega, q2zz, q3zz⟩
      · exact hst v2 (z_f hz g1) (Or.inr ⟨izz, by omega, e2zz, g2⟩)
set_option maxHeartbeats 200000 in
theorem head_eqO {rd o yzz : Ob} {z1 : Int32} (hzz : TT rd o) (ht : ∀ kzz, kzz < 4 → (gM o 54 kzz).toInt = codR (tx1.getD kzz [])) (h1 : f_X6_wordOf rd 1 = some z1) (hy : f_X9_readOrder o = some yzz) : (z1 = -1 ∧ bk_X9_readOrder_54 (-1) 0 o = some yzz) ∨ ((0 ≤ z1.toInt ∧ z1.toInt ≤ 3) ∧ gI o 16 = 1 ∧ ((gI o 21).toInt < 12 → bk_X9_readOrder_54 z1 1 o = some yzz)) := by
  obtain ⟨vzz, bzz, hx⟩ := hd_lpO hzz ht zfu (-1) 0 0 (by decide) (by decide) (Or.inl ⟨rfl, fun jzz hj => absurd hj (Nat.not_lt_zero _)⟩) hy
  have azz := wo8 hzz (by decide) tx1_ok (by decide) h1
  have hlen : tx1.length = 4 := by decide
  have memzz : ∀ jzz, jzz < 4 → tx1.getD jzz [] ∈ tx1 := fun jzz hj => List.mem_of_getElem? (tx1_d jzz hj).1
  rcases azz with ⟨jzz, R, a1zz, a2, a3⟩ | ⟨a1zz, a2⟩ <;> rcases bzz with ⟨b1, b2⟩ | ⟨kzz, b1, b2, b3⟩
  · have hj : jzz < 4 := by
      rcases (show jzz < 4 ∨ 4 ≤ jzz by omega) with uzz | uzz
      · exact uzz
      · rw [List.getElem?_eq_none (by rw [hlen]; exact uzz)] at a1zz; cases a1zz
    have ezz : tx1.getD jzz [] = R := Option.some.inj ((tx1_d jzz hj).1.symm.trans a1zz)
    rw [← ezz] at a3
    exact absurd a3 (b2 jzz hj)
  · have hj : jzz < 4 := by
      rcases (show jzz < 4 ∨ 4 ≤ jzz by omega) with uzz | uzz
      · exact uzz
      · rw [List.getElem?_eq_none (by rw [hlen]; exact uzz)] at a1zz; cases a1zz
    have ezz : tx1.getD jzz [] = R := Option.some.inj ((tx1_d jzz hj).1.symm.trans a1zz)
    rw [← ezz] at a3
    have ejk : jzz = kzz := by
      rcases (show jzz = kzz ∨ jzz ≠ kzz by omega) with uzz | uzz
      · exact uzz
      · have dj := tx1_d jzz hj
        have dk := tx1_d kzz b1
        exact absurd b3 (IsW.ne hzz (all_dig dj.2.2) dj.2.1 (all_dig dk.2.2) dk.2.1 (tx1_n jzz hj kzz b1 uzz) a3)
    have evzz : vzz = z1 := Int32.toInt_inj.mp (by rw [b2, a2, ejk])
    rw [evzz] at hx
    refine Or.inr ⟨⟨by omega, by omega⟩, a3.1, fun qzz => ?_⟩
    have hx := z_f hx (fun czz => by have czz := cv_eq (a := z1.toInt) (b := -1) rfl (by decide) czz; omega)
    exact z_f hx (fun czz => by have czz := cv_le (a := 12) (b := (gI o 21).toInt) (by decide) rfl czz; omega)
  · refine Or.inl ⟨a1zz, ?_⟩
    have hx := z_t hx b1
    rw [b1] at hx
    exact hx
  · exact absurd b3 (a2 _ (memzz kzz b1))
set_option maxHeartbeats 200000 in
/-- a thirteenth clause: the reference fails -/
theorem too_manyO {rd o yzz : Ob} (hzz : TT rd o) (h19 : gI o 19 = 0) (ht : ∀ kzz, kzz < 4 → (gM o 54 kzz).toInt = codR (tx1.getD kzz [])) (hn : 12 ≤ (gI o 21).toInt) (hy : f_X9_readOrder o = some yzz) : gI yzz 19 = 1 ∧ gI yzz 18 = gI o 14 ∧ gA yzz 3 = gA o 3 := by
  obtain ⟨vzz, bzz, hx⟩ := hd_lpO hzz ht zfu (-1) 0 0 (by decide) (by decide) (Or.inl ⟨rfl, fun jzz hj => absurd hj (Nat.not_lt_zero _)⟩) hy
  have hx : bk_X9_readOrder_53 vzz o = some yzz := by
    by_cases czz : vzz = -1
    · exact z_t hx czz
    · exact z_t (z_f hx czz) (Int32.le_iff_toInt_le.mpr (by have : (12 : Int32).toInt = 12 := (by decide); omega))
  unfold bk_X9_readOrder_53 bk_X9_readOrder_54 at hx
  obtain ⟨zm, ezm, hx⟩ := z_bd hx
  have em := mu_no h19 ezm
  have k19 : gI zm 19 = 1 := by rw [em]; rfl
  rw [← Option.some.inj (z_f hx (by rw [k19]; decide))]
  exact ⟨k19, by rw [em]; rfl, by rw [em]; rfl⟩
set_option maxHeartbeats 200000 in
theorem clr_L {yzz : Ob} {v1zz v2 : Int32} {n : Nat} (e2zz : v2.toInt = 8 * (n : Int)) (hn : n < 12) : ∀ (Nzz : Nat) (v3 : Int32) (o : Ob) (izz : Nat), v3.toInt = (izz : Int) → izz ≤ 8 → lp_X9_readLaw_75 Nzz (v1zz, v2, v3, o) = some yzz →
    ∃ o7 : Ob, RW 22 (8 * n) o o7 ∧ gI o7 21 = gI o 21 + 1 ∧ gA o7 22 (8 * n) = v1zz ∧ gA o7 22 (8 * n + 3) = gI o 23 ∧ (if v1zz = (3 : Int32) then (bk_X9_readLaw_135 v2 o7) else ((f_X9_readExpression o7 (0 : Int32)).bind fun z17 => bk_X9_readLaw_135 v2 z17)) = some yzz := by
  intro Nzz
  induction Nzz with
  | zero => intro v3 o izz _ _ hzz; cases hzz
  | succ Nzz ihzz =>
    intro v3 o izz e3zz hizz hz
    have hz : lb_X9_readLaw_75 (lp_X9_readLaw_75 Nzz) v1zz v2 v3 o = some yzz := hz
    unfold lb_X9_readLaw_75 at hz
    have i0zz : v2.toNatClampNeg = 8 * n := tnc_eq (by omega)
    by_cases czz : (8 : Int32) ≤ v3
    · have d := cv_le (a := 8) (b := (izz : Int)) (by decide) e3zz czz
      obtain ⟨-, hz⟩ := z_gd (z_t hz czz)
      obtain ⟨o4zz, g4, hz⟩ := z_lt hz
      obtain ⟨o5zz, g5zz, hz⟩ := z_lt hz
      obtain ⟨-, hz⟩ := z_gd hz
      obtain ⟨o7, g7, hz⟩ := z_lt hz
      have t3zz : (v2 + (3 : Int32)).toInt = 8 * (n : Int) + 3 := i32_add e2zz (by decide) (by omega) (by omega)
      have i3zz : (v2 + (3 : Int32)).toNatClampNeg = 8 * n + 3 := tnc_eq (by omega)
      rw [i0zz] at g4
      rw [i3zz] at g7
      have w4zz : RW 22 (8 * n) o o4zz := by rw [g4]; exact RW.tA ⟨by omega, by omega⟩
      have w5 : RW 22 (8 * n) o4zz o5zz := by rw [g5zz]; exact RW.s21
      have w7zz : RW 22 (8 * n) o5zz o7 := by rw [g7]; exact RW.tA ⟨by omega, by omega⟩
      refine ⟨o7, w4zz.tr (w5.tr w7zz), ?_, ?_, ?_, hz⟩
      · have uzz : gI o7 21 = gI o5zz 21 := by rw [g7]; rfl
        have u' : gI o4zz 21 = gI o 21 := by rw [g4]; rfl
        rw [uzz, g5zz]; show gI o4zz 21 + 1 = _; rw [u']
      · rw [g7, upd_at, if_neg (by omega), g5zz]
        show gA o4zz 22 (8 * n) = v1zz
        rw [g4, upd_at, if_pos rfl]
      · rw [g7, upd_at, if_pos rfl, w5.1 23 (by decide), w4zz.1 23 (by decide)]
    · have d := cv_nle (a := 8) (b := (izz : Int)) (by decide) e3zz czz
      obtain ⟨-, hz⟩ := z_gd (z_f hz czz)
      obtain ⟨o19, g19, hz⟩ := z_lt hz
      obtain ⟨x20, gx, hz⟩ := z_lt hz
      have t3zz : (v2 + v3).toInt = 8 * (n : Int) + (izz : Int) := i32_add e2zz e3zz (by omega) (by omega)
      have i3zz : (v2 + v3).toNatClampNeg = 8 * n + izz := tnc_eq (by omega)
      have tx : x20.toInt = (izz : Int) + 1 := by rw [gx]; exact i32_add e3zz (by decide) (by omega) (by omega)
      rw [i3zz] at g19
      have w19 : RW 22 (8 * n) o o19 := by rw [g19]; exact RW.tA ⟨by omega, by omega⟩
      obtain ⟨o7, q1zz, q2zz, q3zz, q4zz, q5zz⟩ := ihzz x20 o19 (izz + 1) (by omega) (by omega) hz
      have uzz : gI o19 21 = gI o 21 := by rw [g19]; rfl
      exact ⟨o7, w19.tr q1zz, by rw [q2zz, uzz], q3zz, by rw [q4zz, w19.1 23 (by decide)], q5zz⟩
set_option maxHeartbeats 200000 in
theorem bad185 {v2 : Int32} {wzz yzz : Ob} (hzz : bk_X9_readLaw_185 v2 wzz = some yzz) : gI yzz 19 = gI wzz 19 ∧ gI yzz 18 = gI wzz 18 ∧ gA yzz 3 = gA wzz 3 := by
  unfold bk_X9_readLaw_185 at hzz
  obtain ⟨-, hzz⟩ := z_gd hzz
  obtain ⟨o13, gzz, hzz⟩ := z_lt hzz
  rw [← Option.some.inj hzz, gzz]
  exact ⟨rfl, rfl, rfl⟩
set_option maxHeartbeats 200000 in
theorem bad135 {v2 : Int32} {wzz yzz : Ob} (h19 : gI wzz 19 = 1) (hzz : bk_X9_readLaw_135 v2 wzz = some yzz) : gI yzz 19 = 1 ∧ gI yzz 18 = gI wzz 18 ∧ gA yzz 3 = gA wzz 3 := by
  unfold bk_X9_readLaw_135 at hzz
  obtain ⟨-, hzz⟩ := z_gd hzz
  obtain ⟨o9, g9, hzz⟩ := z_lt hzz
  obtain ⟨-, hzz⟩ := z_gd hzz
  obtain ⟨o11, g11, hzz⟩ := z_lt hzz
  have e19zz : gI o11 19 = 1 := by rw [g11, g9]; exact h19
  have e18zz : gI o11 18 = gI wzz 18 := by rw [g11, g9]; rfl
  have qzz := bad185 (z_f hzz (by rw [e19zz]; decide))
  exact ⟨qzz.1.trans e19zz, qzz.2.1.trans e18zz, qzz.2.2.trans (by rw [g11, g9]; rfl)⟩
