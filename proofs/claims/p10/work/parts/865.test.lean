-- which part a word is
def MD (od : Bool) (rd o : Ob) : Prop := (od = true → gI rd 4 = 0 ∧ ¬ gI o 20 = 0) ∧ (od = false → ¬ gI rd 4 = 0 ∧ gI o 20 = 0) ∧ (∀ kzz, kzz < 9 → (gM o 31 kzz).toInt = codR (tx7.getD kzz [])) ∧ (∀ kzz, kzz < 7 → (gM o 32 kzz).toInt = codR (tx8.getD kzz []))
set_option maxRecDepth 100000 in
theorem tx7_d : ∀ kzz, kzz < 9 → tx7[kzz]? = some (tx7.getD kzz []) ∧ (tx7.getD kzz []).length ≤ 10 ∧ (tx7.getD kzz []).all (fun d => decide (1 ≤ d ∧ d ≤ 26)) = true := by decide +kernel
set_option maxRecDepth 100000 in
theorem tx8_d : ∀ kzz, kzz < 7 → tx8[kzz]? = some (tx8.getD kzz []) ∧ (tx8.getD kzz []).length ≤ 10 ∧ (tx8.getD kzz []).all (fun d => decide (1 ≤ d ∧ d ≤ 26)) = true := by decide +kernel
set_option maxRecDepth 100000 in
theorem tx7_n : ∀ jzz, jzz < 9 → ∀ kzz, kzz < 9 → jzz ≠ kzz → codR (tx7.getD jzz []) ≠ codR (tx7.getD kzz []) := by decide +kernel
set_option maxRecDepth 100000 in
theorem tx8_n : ∀ jzz, jzz < 7 → ∀ kzz, kzz < 7 → jzz ≠ kzz → codR (tx8.getD jzz []) ≠ codR (tx8.getD kzz []) := by decide +kernel
set_option maxHeartbeats 200000 in
theorem p7_lp {rd o : Ob} {zzz : Int32} (hzz : TT rd o) (ht : ∀ kzz, kzz < 9 → (gM o 31 kzz).toInt = codR (tx7.getD kzz [])) : ∀ (Nzz : Nat) (v1zz v2 : Int32) (izz : Nat), v2.toInt = (izz : Int) → izz ≤ 9 → ((v1zz = -1 ∧ ∀ jzz, jzz < izz → ¬ IsW o (tx7.getD jzz [])) ∨ (∃ jzz : Nat, jzz < izz ∧ v1zz.toInt = (jzz : Int) + 1 ∧ IsW o (tx7.getD jzz []))) → lp_X9_partAt_4 o Nzz (v1zz, v2) = some zzz →
    (zzz = -1 ∧ ∀ jzz, jzz < 9 → ¬ IsW o (tx7.getD jzz [])) ∨ (∃ jzz : Nat, jzz < 9 ∧ zzz.toInt = (jzz : Int) + 1 ∧ IsW o (tx7.getD jzz [])) := by
  intro Nzz
  induction Nzz with
  | zero => intro v1zz v2 izz _ _ _ hzz; cases hzz
  | succ Nzz ihzz =>
    intro v1zz v2 izz e2zz hizz hv hz
    have hz : lb_X9_partAt_4 o (lp_X9_partAt_4 o Nzz) v1zz v2 = some zzz := hz
    unfold lb_X9_partAt_4 at hz
    by_cases czz : (9 : Int32) ≤ v2
    · have d := cv_le (a := 9) (b := (izz : Int)) (by decide) e2zz czz
      rw [← Option.some.inj (z_t hz czz)]
      rcases hv with ⟨q1zz, q2zz⟩ | ⟨jzz, q1zz, q2zz, q3zz⟩
      · exact Or.inl ⟨q1zz, fun jzz hj => q2zz jzz (by omega)⟩
      · exact Or.inr ⟨jzz, by omega, q2zz, q3zz⟩
    · have d := cv_nle (a := 9) (b := (izz : Int)) (by decide) e2zz czz
      obtain ⟨-, hz⟩ := z_gd (z_f hz czz)
      obtain ⟨z2, ez2, hz⟩ := z_bd hz
      have i2zz : v2.toNatClampNeg = izz := tnc_eq e2zz
      rw [i2zz] at ez2
      have hdzz := tx7_d izz (by omega)
      have hst : ∀ s0zz : Int32, bk_X9_partAt_30 o (lp_X9_partAt_4 o Nzz) v2 s0zz = some zzz → ((s0zz = -1 ∧ ∀ jzz, jzz < izz + 1 → ¬ IsW o (tx7.getD jzz [])) ∨ (∃ jzz : Nat, jzz < izz + 1 ∧ s0zz.toInt = (jzz : Int) + 1 ∧ IsW o (tx7.getD jzz []))) → (zzz = -1 ∧ ∀ jzz, jzz < 9 → ¬ IsW o (tx7.getD jzz [])) ∨ (∃ jzz : Nat, jzz < 9 ∧ zzz.toInt = (jzz : Int) + 1 ∧ IsW o (tx7.getD jzz [])) := by
        intro s0zz kzz hs
        unfold bk_X9_partAt_30 at kzz
        obtain ⟨x3, e3zz, kzz⟩ := z_lt kzz
        have t3zz : x3.toInt = (izz : Int) + 1 := by rw [e3zz]; exact i32_add e2zz (by decide) (by omega) (by omega)
        exact ihzz s0zz x3 (izz + 1) (by omega) (by omega) hs kzz
      rcases w9 hzz (all_dig hdzz.2.2) hdzz.2.1 (ht izz (by omega)) ez2 with ⟨g1, g2⟩ | ⟨g1, g2⟩
      · refine hst v1zz (z_t hz g1) ?_
        rcases hv with ⟨q1zz, q2zz⟩ | ⟨jzz, q1zz, q2zz, q3zz⟩
        · refine Or.inl ⟨q1zz, fun jzz hj => ?_⟩
          by_cases ezz : jzz = izz
          · rw [ezz]; exact g2
          · exact q2zz jzz (by omega)
        · exact Or.inr ⟨jzz, by omega, q2zz, q3zz⟩
      · exact hst (v2 + 1) (z_f hz g1) (Or.inr ⟨izz, by omega, i32_add e2zz (by decide) (by omega) (by omega), g2⟩)
set_option maxHeartbeats 200000 in
theorem p8_lp {rd o : Ob} {zzz : Int32} (hzz : TT rd o) (ht : ∀ kzz, kzz < 7 → (gM o 32 kzz).toInt = codR (tx8.getD kzz [])) : ∀ (Nzz : Nat) (v1zz v2 : Int32) (izz : Nat), v2.toInt = (izz : Int) → izz ≤ 7 → ((v1zz = -1 ∧ ∀ jzz, jzz < izz → ¬ IsW o (tx8.getD jzz [])) ∨ (∃ jzz : Nat, jzz < izz ∧ v1zz.toInt = (jzz : Int) + 1 ∧ IsW o (tx8.getD jzz []))) → lp_X9_orderPartAt_4 o Nzz (v1zz, v2) = some zzz →
    (zzz = -1 ∧ ∀ jzz, jzz < 7 → ¬ IsW o (tx8.getD jzz [])) ∨ (∃ jzz : Nat, jzz < 7 ∧ zzz.toInt = (jzz : Int) + 1 ∧ IsW o (tx8.getD jzz [])) := by
  intro Nzz
  induction Nzz with
  | zero => intro v1zz v2 izz _ _ _ hzz; cases hzz
  | succ Nzz ihzz =>
    intro v1zz v2 izz e2zz hizz hv hz
    have hz : lb_X9_orderPartAt_4 o (lp_X9_orderPartAt_4 o Nzz) v1zz v2 = some zzz := hz
    unfold lb_X9_orderPartAt_4 at hz
    by_cases czz : (7 : Int32) ≤ v2
    · have d := cv_le (a := 7) (b := (izz : Int)) (by decide) e2zz czz
      rw [← Option.some.inj (z_t hz czz)]
      rcases hv with ⟨q1zz, q2zz⟩ | ⟨jzz, q1zz, q2zz, q3zz⟩
      · exact Or.inl ⟨q1zz, fun jzz hj => q2zz jzz (by omega)⟩
      · exact Or.inr ⟨jzz, by omega, q2zz, q3zz⟩
    · have d := cv_nle (a := 7) (b := (izz : Int)) (by decide) e2zz czz
      obtain ⟨-, hz⟩ := z_gd (z_f hz czz)
      obtain ⟨z2, ez2, hz⟩ := z_bd hz
      have i2zz : v2.toNatClampNeg = izz := tnc_eq e2zz
      rw [i2zz] at ez2
      have hdzz := tx8_d izz (by omega)
      have hst : ∀ s0zz : Int32, bk_X9_orderPartAt_30 o (lp_X9_orderPartAt_4 o Nzz) v2 s0zz = some zzz → ((s0zz = -1 ∧ ∀ jzz, jzz < izz + 1 → ¬ IsW o (tx8.getD jzz [])) ∨ (∃ jzz : Nat, jzz < izz + 1 ∧ s0zz.toInt = (jzz : Int) + 1 ∧ IsW o (tx8.getD jzz []))) → (zzz = -1 ∧ ∀ jzz, jzz < 7 → ¬ IsW o (tx8.getD jzz [])) ∨ (∃ jzz : Nat, jzz < 7 ∧ zzz.toInt = (jzz : Int) + 1 ∧ IsW o (tx8.getD jzz [])) := by
        intro s0zz kzz hs
        unfold bk_X9_orderPartAt_30 at kzz
        obtain ⟨x3, e3zz, kzz⟩ := z_lt kzz
        have t3zz : x3.toInt = (izz : Int) + 1 := by rw [e3zz]; exact i32_add e2zz (by decide) (by omega) (by omega)
        exact ihzz s0zz x3 (izz + 1) (by omega) (by omega) hs kzz
      rcases w9 hzz (all_dig hdzz.2.2) hdzz.2.1 (ht izz (by omega)) ez2 with ⟨g1, g2⟩ | ⟨g1, g2⟩
      · refine hst v1zz (z_t hz g1) ?_
        rcases hv with ⟨q1zz, q2zz⟩ | ⟨jzz, q1zz, q2zz, q3zz⟩
        · refine Or.inl ⟨q1zz, fun jzz hj => ?_⟩
          by_cases ezz : jzz = izz
          · rw [ezz]; exact g2
          · exact q2zz jzz (by omega)
        · exact Or.inr ⟨jzz, by omega, q2zz, q3zz⟩
      · exact hst (v2 + 1) (z_f hz g1) (Or.inr ⟨izz, by omega, i32_add e2zz (by decide) (by omega) (by omega), g2⟩)
set_option maxHeartbeats 200000 in
/-- the same word on both sides: the class's number w, the reference's number w + 1 -/
theorem part7 {rd o : Ob} {z1 z2 : Int32} (hzz : TT rd o) (ht : ∀ kzz, kzz < 9 → (gM o 31 kzz).toInt = codR (tx7.getD kzz [])) (h1 : f_X6_wordOf rd 7 = some z1) (h2 : f_X9_partAt o = some z2) : (z1 = -1 ∧ z2 = -1) ∨ (∃ jzz : Nat, jzz < 9 ∧ z1.toInt = (jzz : Int) ∧ z2.toInt = (jzz : Int) + 1 ∧ gI o 16 = 1) := by
  have azz := wo8 hzz (by decide) tx7_ok (by decide) h1
  have bzz := p7_lp hzz ht zfu (-1) 0 0 (by decide) (by decide) (Or.inl ⟨rfl, fun jzz hj => absurd hj (Nat.not_lt_zero _)⟩) h2
  have hlen : tx7.length = 9 := by decide
  have memzz : ∀ jzz, jzz < 9 → tx7.getD jzz [] ∈ tx7 := fun jzz hj => List.mem_of_getElem? (tx7_d jzz hj).1
  rcases azz with ⟨jzz, R, a1zz, a2, a3⟩ | ⟨a1zz, a2⟩ <;> rcases bzz with ⟨b1, b2⟩ | ⟨kzz, b1, b2, b3⟩
  · have hj : jzz < 9 := by
      rcases (show jzz < 9 ∨ 9 ≤ jzz by omega) with uzz | uzz
      · exact uzz
      · rw [List.getElem?_eq_none (by rw [hlen]; exact uzz)] at a1zz; cases a1zz
    have ezz : tx7.getD jzz [] = R := Option.some.inj ((tx7_d jzz hj).1.symm.trans a1zz)
    rw [← ezz] at a3
    exact absurd a3 (b2 jzz hj)
  · have hj : jzz < 9 := by
      rcases (show jzz < 9 ∨ 9 ≤ jzz by omega) with uzz | uzz
      · exact uzz
      · rw [List.getElem?_eq_none (by rw [hlen]; exact uzz)] at a1zz; cases a1zz
    have ezz : tx7.getD jzz [] = R := Option.some.inj ((tx7_d jzz hj).1.symm.trans a1zz)
    rw [← ezz] at a3
    have ejk : jzz = kzz := by
      rcases (show jzz = kzz ∨ jzz ≠ kzz by omega) with uzz | uzz
      · exact uzz
      · have dj := tx7_d jzz hj
        have dk := tx7_d kzz b1
        exact absurd b3 (IsW.ne hzz (all_dig dj.2.2) dj.2.1 (all_dig dk.2.2) dk.2.1 (tx7_n jzz hj kzz b1 uzz) a3)
    exact Or.inr ⟨jzz, hj, a2, by rw [ejk]; exact b2, a3.1⟩
  · exact Or.inl ⟨a1zz, b1⟩
  · exact absurd b3 (a2 _ (memzz kzz b1))
set_option maxHeartbeats 200000 in
theorem part8 {rd o : Ob} {z1 z2 : Int32} (hzz : TT rd o) (ht : ∀ kzz, kzz < 7 → (gM o 32 kzz).toInt = codR (tx8.getD kzz [])) (h1 : f_X6_wordOf rd 8 = some z1) (h2 : f_X9_orderPartAt o = some z2) : (z1 = -1 ∧ z2 = -1) ∨ (∃ jzz : Nat, jzz < 7 ∧ z1.toInt = (jzz : Int) ∧ z2.toInt = (jzz : Int) + 1 ∧ gI o 16 = 1) := by
  have azz := wo8 hzz (by decide) tx8_ok (by decide) h1
  have bzz := p8_lp hzz ht zfu (-1) 0 0 (by decide) (by decide) (Or.inl ⟨rfl, fun jzz hj => absurd hj (Nat.not_lt_zero _)⟩) h2
  have hlen : tx8.length = 7 := by decide
  have memzz : ∀ jzz, jzz < 7 → tx8.getD jzz [] ∈ tx8 := fun jzz hj => List.mem_of_getElem? (tx8_d jzz hj).1
  rcases azz with ⟨jzz, R, a1zz, a2, a3⟩ | ⟨a1zz, a2⟩ <;> rcases bzz with ⟨b1, b2⟩ | ⟨kzz, b1, b2, b3⟩
  · have hj : jzz < 7 := by
      rcases (show jzz < 7 ∨ 7 ≤ jzz by omega) with uzz | uzz
      · exact uzz
      · rw [List.getElem?_eq_none (by rw [hlen]; exact uzz)] at a1zz; cases a1zz
    have ezz : tx8.getD jzz [] = R := Option.some.inj ((tx8_d jzz hj).1.symm.trans a1zz)
    rw [← ezz] at a3
    exact absurd a3 (b2 jzz hj)
  · have hj : jzz < 7 := by
      rcases (show jzz < 7 ∨ 7 ≤ jzz by omega) with uzz | uzz
      · exact uzz
      · rw [List.getElem?_eq_none (by rw [hlen]; exact uzz)] at a1zz; cases a1zz
    have ezz : tx8.getD jzz [] = R := Option.some.inj ((tx8_d jzz hj).1.symm.trans a1zz)
    rw [← ezz] at a3
    have ejk : jzz = kzz := by
      rcases (show jzz = kzz ∨ jzz ≠ kzz by omega) with uzz | uzz
      · exact uzz
      · have dj := tx8_d jzz hj
        have dk := tx8_d kzz b1
        exact absurd b3 (IsW.ne hzz (all_dig dj.2.2) dj.2.1 (all_dig dk.2.2) dk.2.1 (tx8_n jzz hj kzz b1 uzz) a3)
    exact Or.inr ⟨jzz, hj, a2, by rw [ejk]; exact b2, a3.1⟩
  · exact Or.inl ⟨a1zz, b1⟩
  · exact absurd b3 (a2 _ (memzz kzz b1))
