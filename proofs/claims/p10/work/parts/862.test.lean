-- words: the class's lists of words, the reference's values
def mat (gzz : Nat → Int32) (azz : Nat) : List Int → Prop
  | [] => True
  | d :: rzz => (gzz (azz + rzz.length)).toInt = 96 + d ∧ mat gzz azz rzz
def codR : List Int → Int
  | [] => 0
  | d :: rzz => codR rzz * 32 + d
def dig (R : List Int) : Prop := ∀ d ∈ R, 1 ≤ d ∧ d ≤ 26
set_option maxHeartbeats 200000 in
theorem codR_nn : ∀ (R : List Int), dig R → 0 ≤ codR R := by
  intro R
  induction R with
  | nil => intro _; exact Int.le_refl _
  | cons d rzz ihzz =>
    intro hzz
    have h1 := ihzz (fun xzz hx => hzz xzz (List.mem_cons_of_mem _ hx))
    have h2 := hzz d (List.mem_cons_self ..)
    show 0 ≤ codR rzz * 32 + d
    omega
set_option maxHeartbeats 200000 in
theorem cod_nn {gzz : Nat → Int32} {azz : Nat} : ∀ n, ltr gzz azz n → 0 ≤ cod gzz azz n := by
  intro n
  induction n with
  | zero => intro _; exact Int.le_refl _
  | succ n ihzz =>
    intro hl
    have hzz := ihzz (fun izz hizz => hl izz (by omega))
    have l := hl n (by omega)
    show 0 ≤ cod gzz azz n * 32 + ((gzz (azz + n)).toInt - 96)
    omega
set_option maxHeartbeats 200000 in
theorem cod_mat {gzz : Nat → Int32} {azz : Nat} : ∀ (R : List Int) (n : Nat), dig R → ltr gzz azz n → (cod gzz azz n = codR R ↔ n = R.length ∧ mat gzz azz R) := by
  intro R
  induction R with
  | nil =>
    intro n _ hl
    cases n with
    | zero => exact ⟨fun _ => ⟨rfl, trivial⟩, fun _ => rfl⟩
    | succ n =>
      have hzz := cod_nn (gzz := gzz) (azz := azz) n (fun izz hizz => hl izz (by omega))
      have l := hl n (by omega)
      refine ⟨fun qzz => ?_, fun qzz => ?_⟩
      · have qzz : cod gzz azz n * 32 + ((gzz (azz + n)).toInt - 96) = 0 := qzz
        omega
      · exact absurd qzz.1 (Nat.succ_ne_zero _)
  | cons d rzz ihzz =>
    intro n hdzz hl
    have h2 := hdzz d (List.mem_cons_self ..)
    have hr := codR_nn rzz (fun xzz hx => hdzz xzz (List.mem_cons_of_mem _ hx))
    cases n with
    | zero =>
      refine ⟨fun qzz => ?_, fun qzz => ?_⟩
      · have qzz : (0 : Int) = codR rzz * 32 + d := qzz
        omega
      · exact absurd qzz.1.symm (by rw [List.length_cons]; exact Nat.succ_ne_zero _)
    | succ n =>
      have hzz := ihzz n (fun xzz hx => hdzz xzz (List.mem_cons_of_mem _ hx)) (fun izz hizz => hl izz (by omega))
      have l := hl n (by omega)
      refine ⟨fun qzz => ?_, fun qzz => ?_⟩
      · have qzz : cod gzz azz n * 32 + ((gzz (azz + n)).toInt - 96) = codR rzz * 32 + d := qzz
        have q1zz : cod gzz azz n = codR rzz := by omega
        have q2zz := hzz.mp q1zz
        refine ⟨by rw [List.length_cons, q2zz.1], ?_, q2zz.2⟩
        rw [← q2zz.1]; omega
      · have ezz : n = rzz.length := by have := qzz.1; rw [List.length_cons] at this; omega
        have q1zz := hzz.mpr ⟨ezz, qzz.2.2⟩
        have q3zz : (gzz (azz + rzz.length)).toInt = 96 + d := qzz.2.1
        show cod gzz azz n * 32 + ((gzz (azz + n)).toInt - 96) = codR rzz * 32 + d
        rw [q1zz, ezz, q3zz]; omega
/-- the token is the word R (its letters, the last one first) -/
def IsW (o : Ob) (R : List Int) : Prop := gI o 16 = 1 ∧ ∃ azz : Nat, (gI o 14).toInt = (azz : Int) ∧ (gI o 15).toInt = ((azz + R.length : Nat) : Int) ∧ mat (gA o 12) azz R
set_option maxHeartbeats 200000 in
theorem IsW.cd {rd o : Ob} {R : List Int} (hzz : TT rd o) (hdzz : dig R) (hl : R.length ≤ 10) : IsW o R ↔ (gI o 16 = 1 ∧ (gL o 17).toInt = codR R) := by
  obtain ⟨-, -, -, -, azz, bzz, ea, eb, hab, hbzz, hx⟩ := hzz
  have hn := codR_nn R hdzz
  rcases hx with ⟨qzz, -⟩ | ⟨qzz, hlt, hl1, hw⟩ | ⟨qzz, -⟩ | ⟨qzz, -⟩
  · exact ⟨fun wzz => absurd (qzz.symm.trans wzz.1) (by decide), fun wzz => absurd (qzz.symm.trans wzz.1) (by decide)⟩
  · have keyzz := cod_mat R (bzz - azz) hdzz hl1
    refine ⟨fun wzz => ⟨qzz, ?_⟩, fun wzz => ⟨qzz, azz, ea, ?_, ?_⟩⟩
    · obtain ⟨-, a', ea', eb', mzz⟩ := wzz
      have ezz : a' = azz := by omega
      rw [ezz] at mzz eb'
      have e2zz : bzz - azz = R.length := by omega
      rw [hw.1 (by omega)]
      exact keyzz.mpr ⟨e2zz, mzz⟩
    · have e2zz : bzz - azz ≤ 10 := by
        rcases (show bzz - azz ≤ 10 ∨ 10 < bzz - azz by omega) with uzz | uzz
        · exact uzz
        · have := hw.2 uzz; omega
      have mzz := keyzz.mp ((hw.1 e2zz).symm.trans wzz.2)
      omega
    · have e2zz : bzz - azz ≤ 10 := by
        rcases (show bzz - azz ≤ 10 ∨ 10 < bzz - azz by omega) with uzz | uzz
        · exact uzz
        · have := hw.2 uzz; omega
      exact (keyzz.mp ((hw.1 e2zz).symm.trans wzz.2)).2
  · exact ⟨fun wzz => absurd (qzz.symm.trans wzz.1) (by decide), fun wzz => absurd (qzz.symm.trans wzz.1) (by decide)⟩
  · exact ⟨fun wzz => absurd (qzz.symm.trans wzz.1) (by decide), fun wzz => absurd (qzz.symm.trans wzz.1) (by decide)⟩
set_option maxHeartbeats 200000 in
theorem w9 {rd o : Ob} {R : List Int} {Czz : Int64} {zzz : Int32} (hzz : TT rd o) (hdzz : dig R) (hl : R.length ≤ 10) (hC : Czz.toInt = codR R) (hz : f_X9_isWord o Czz = some zzz) : (zzz = 0 ∧ ¬ IsW o R) ∨ (¬ zzz = 0 ∧ IsW o R) := by
  have keyzz := IsW.cd hzz hdzz hl
  unfold f_X9_isWord at hz
  by_cases czz : gI o 16 = 1
  · have hz := z_t hz czz
    by_cases gzz : lg_cmp (gL o 17) Czz = 0
    · have ezz := cvl_eq (a := (gL o 17).toInt) (b := codR R) rfl hC gzz
      exact Or.inr ⟨by rw [← Option.some.inj (z_t hz gzz)]; decide, keyzz.mpr ⟨czz, ezz⟩⟩
    · have ezz := cvl_ne (a := (gL o 17).toInt) (b := codR R) rfl hC gzz
      exact Or.inl ⟨(Option.some.inj (z_f hz gzz)).symm, fun wzz => ezz (keyzz.mp wzz).2⟩
  · exact Or.inl ⟨(Option.some.inj (z_f hz czz)).symm, fun wzz => czz wzz.1⟩
set_option maxHeartbeats 200000 in
theorem IsW.ne {rd o : Ob} {R R' : List Int} (hzz : TT rd o) (hdzz : dig R) (hl : R.length ≤ 10) (hd' : dig R') (hl' : R'.length ≤ 10) (hne : codR R ≠ codR R') (wzz : IsW o R) : ¬ IsW o R' := fun w' => hne (((IsW.cd hzz hdzz hl).mp wzz).2.symm.trans ((IsW.cd hzz hd' hl').mp w').2)
-- the class's texts
def chT (t kzz : Nat) : Int32 := (btS.getD t []).getD kzz 0
def mcb (t fzz : Nat) : List Int → Bool
  | [] => true
  | d :: rzz => decide ((chT t (fzz + rzz.length)).toInt = 96 + d) && mcb t fzz rzz
set_option maxHeartbeats 200000 in
theorem mcb_mat {gzz : Nat → Int32} {t fzz azz : Nat} : ∀ (R : List Int), mcb t fzz R = true → ((∀ izz, izz < R.length → gzz (azz + izz) = chT t (fzz + izz)) ↔ mat gzz azz R) := by
  intro R
  induction R with
  | nil => intro _; exact ⟨fun _ => trivial, fun _ izz hizz => absurd hizz (Nat.not_lt_zero _)⟩
  | cons d rzz ihzz =>
    intro hzz
    have hzz : (decide ((chT t (fzz + rzz.length)).toInt = 96 + d) && mcb t fzz rzz) = true := hzz
    obtain ⟨h1, h2⟩ := Bool.and_eq_true_iff.mp hzz
    have h1 := of_decide_eq_true h1
    have h2 := ihzz h2
    refine ⟨fun qzz => ⟨?_, h2.mp (fun izz hizz => qzz izz (by rw [List.length_cons]; omega))⟩, fun qzz izz hizz => ?_⟩
    · rw [qzz rzz.length (by rw [List.length_cons]; omega)]; exact h1
    · rw [List.length_cons] at hizz
      by_cases ezz : izz = rzz.length
      · rw [ezz]; exact Int32.toInt_inj.mp (qzz.1.trans h1.symm)
      · exact h2.mpr qzz.2 izz (by omega)
set_option maxHeartbeats 200000 in
theorem sm_lp {rd : Ob} {t fzz azz L : Nat} {v2 v4zz zzz : Int32} (ht : t < 9) (ea : (gI rd 7).toInt = (azz : Int)) (hL : azz + L ≤ 400) (e2zz : v2.toInt = (fzz : Int)) (hf : fzz + L ≤ lnS.getD t 0) (e4zz : v4zz.toInt = (L : Int)) : ∀ (Nzz : Nat) (v5 : Int32) (izz : Nat), v5.toInt = (izz : Int) → izz ≤ L → lp_X6_isSame_53 rd Nzz (t, v2, v4zz, v5) = some zzz →
    (zzz = 0 ∧ ∃ jzz, izz ≤ jzz ∧ jzz < L ∧ ¬ gA rd 0 (azz + jzz) = chT t (fzz + jzz)) ∨ (zzz = 1 ∧ ∀ jzz, izz ≤ jzz → jzz < L → gA rd 0 (azz + jzz) = chT t (fzz + jzz)) := by
  have hl := ln_le t ht
  intro Nzz
  induction Nzz with
  | zero => intro v5 izz _ _ hzz; cases hzz
  | succ Nzz ihzz =>
    intro v5 izz e5zz hizz hzz
    have hzz : lb_X6_isSame_53 rd (lp_X6_isSame_53 rd Nzz) t v2 v4zz v5 = some zzz := hzz
    unfold lb_X6_isSame_53 at hzz
    by_cases czz : v4zz ≤ v5
    · have d := cv_le (a := (L : Int)) (b := (izz : Int)) e4zz e5zz czz
      exact Or.inr ⟨(Option.some.inj (z_t hzz czz)).symm, fun jzz q1zz q2zz => by omega⟩
    · have d := cv_nle (a := (L : Int)) (b := (izz : Int)) e4zz e5zz czz
      obtain ⟨-, hzz⟩ := z_gd (z_f hzz czz)
      obtain ⟨-, hzz⟩ := z_gd hzz
      obtain ⟨z5, ez, hzz⟩ := z_bd hzz
      have t1zz : ((gI rd 7) + v5).toInt = (azz : Int) + (izz : Int) := i32_add ea e5zz (by omega) (by omega)
      have i1zz : ((gI rd 7) + v5).toNatClampNeg = azz + izz := tnc_eq (by omega)
      have t2zz : (v2 + v5).toInt = (fzz : Int) + (izz : Int) := i32_add e2zz e5zz (by omega) (by omega)
      have ek : v2 + v5 = Int32.ofNat (fzz + izz) := by
        refine Int32.toInt_inj.mp ?_
        rw [Int32.toInt_ofNat_of_lt (by omega), t2zz]
        omega
      rw [ek, tx_chr t ht (fzz + izz) (by omega)] at ez
      have ez : chT t (fzz + izz) = z5 := Option.some.inj ez
      rw [i1zz, ← ez] at hzz
      by_cases gzz : gA rd 0 (azz + izz) = chT t (fzz + izz)
      · obtain ⟨x7, e7zz, hzz⟩ := z_lt (z_t hzz gzz)
        have t7 : x7.toInt = (izz : Int) + 1 := by rw [e7zz]; exact i32_add e5zz (by decide) (by omega) (by omega)
        rcases ihzz x7 (izz + 1) (by omega) (by omega) hzz with ⟨q1zz, jzz, q2zz, q3zz, q4zz⟩ | ⟨q1zz, q2zz⟩
        · exact Or.inl ⟨q1zz, jzz, by omega, q3zz, q4zz⟩
        · refine Or.inr ⟨q1zz, fun jzz u1zz u2zz => ?_⟩
          by_cases wzz : jzz = izz
          · rw [wzz]; exact gzz
          · exact q2zz jzz (by omega) u2zz
      · exact Or.inl ⟨(Option.some.inj (z_f hzz gzz)).symm, izz, Nat.le_refl _, by omega, gzz⟩
set_option maxHeartbeats 200000 in
theorem same8 {rd o : Ob} {t fzz : Nat} {R : List Int} {p1zz p2zz zzz : Int32} (hzz : TT rd o) (h1 : gI o 16 = 1) (ht : t < 9) (e1zz : p1zz.toInt = (fzz : Int)) (e2zz : p2zz.toInt = ((fzz + R.length : Nat) : Int)) (hf : fzz + R.length ≤ lnS.getD t 0) (hmzz : mcb t fzz R = true) (hz : f_X6_isSame rd t p1zz p2zz = some zzz) : (zzz = 0 ∧ ¬ IsW o R) ∨ (¬ zzz = 0 ∧ IsW o R) := by
  obtain ⟨hz0, e6zz, e7zz, e8, azz, bzz, ea, eb, hab, hbzz, -⟩ := hzz
  have h400 := hz0.2.2.2
  have hl := ln_le t ht
  unfold f_X6_isSame at hz
  obtain ⟨x1zz, exzz, hz⟩ := z_lt hz
  have tx : x1zz.toInt = ((fzz + R.length : Nat) : Int) - (fzz : Int) := by rw [exzz]; exact i32_sub e2zz e1zz (by omega) (by omega)
  have hz := z_f hz (fun czz => by have czz := cv_lt (a := (fzz : Int)) (b := 0) e1zz (by decide) czz; omega)
  obtain ⟨-, hz⟩ := z_gd hz
  obtain ⟨z2, ez2, hz⟩ := z_bd hz
  rw [tx_len t ht] at ez2
  have t2zz : z2.toInt = (lnS.getD t 0 : Int) := by rw [← Option.some.inj ez2]; exact Int32.toInt_ofNat_of_lt (by omega)
  have hz := z_f hz (fun czz => by have czz := cv_lt (a := (lnS.getD t 0 : Int)) (b := ((fzz + R.length : Nat) : Int)) t2zz e2zz czz; omega)
  rw [e7zz, e8] at hz
  have td : (gI o 15 - gI o 14).toInt = (bzz : Int) - (azz : Int) := i32_sub eb ea (by omega) (by omega)
  by_cases czz : x1zz = gI o 15 - gI o 14
  · have d := cv_eq (a := ((fzz + R.length : Nat) : Int) - (fzz : Int)) (b := (bzz : Int) - (azz : Int)) tx td czz
    have hz := z_f (z_t hz czz) (fun czz => by have czz := cv_lt (a := (azz : Int)) (b := 0) ea (by decide) czz; omega)
    have hz := z_t hz (Int32.le_iff_toInt_le.mpr (by have : (400 : Int32).toInt = 400 := (by decide); omega))
    have keyzz := mcb_mat (gzz := gA o 12) (azz := azz) R hmzz
    rcases sm_lp (azz := azz) (fzz := fzz) (L := R.length) ht (by rw [e7zz]; exact ea) (by omega) e1zz hf (by omega) _ _ 0 (by decide) (Nat.zero_le _) hz with ⟨q1zz, jzz, -, q2zz, q3zz⟩ | ⟨q1zz, q2zz⟩
    · refine Or.inl ⟨q1zz, fun wzz => ?_⟩
      obtain ⟨-, a', ea', -, mzz⟩ := wzz
      have ezz : a' = azz := by omega
      rw [ezz] at mzz
      rw [hz0.2.1] at q3zz
      exact q3zz (keyzz.mpr mzz jzz q2zz)
    · refine Or.inr ⟨by rw [q1zz]; decide, h1, azz, ea, by omega, keyzz.mp (fun izz hizz => ?_)⟩
      rw [← hz0.2.1]; exact q2zz izz (Nat.zero_le _) hizz
  · have d := cv_ne (a := ((fzz + R.length : Nat) : Int) - (fzz : Int)) (b := (bzz : Int) - (azz : Int)) tx td czz
    refine Or.inl ⟨(Option.some.inj (z_f hz czz)).symm, fun wzz => ?_⟩
    obtain ⟨-, a', ea', eb', -⟩ := wzz
    omega
/-- a text is these words, with a space between two -/
def chnT (t fzz : Nat) : List (List Int) → Bool
  | [] => false
  | [R] => mcb t fzz R && decide (fzz + R.length = lnS.getD t 0) && R.all (fun d => decide (1 ≤ d ∧ d ≤ 26)) && decide (R.length ≤ 10)
  | R :: R' :: wszz => mcb t fzz R && decide (fzz + R.length < lnS.getD t 0) && decide (chT t (fzz + R.length) = 32) && R.all (fun d => decide (1 ≤ d ∧ d ≤ 26)) && decide (R.length ≤ 10) && chnT t (fzz + R.length + 1) (R' :: wszz)
set_option maxHeartbeats 200000 in
theorem mcb_ns {t fzz : Nat} : ∀ (R : List Int), mcb t fzz R = true → dig R → ∀ izz, izz < R.length → ¬ chT t (fzz + izz) = 32 := by
  intro R
  induction R with
  | nil => intro _ _ izz hizz; exact absurd hizz (Nat.not_lt_zero _)
  | cons d rzz ihzz =>
    intro hzz hdzz izz hizz
    have hzz : (decide ((chT t (fzz + rzz.length)).toInt = 96 + d) && mcb t fzz rzz) = true := hzz
    obtain ⟨h1, h2⟩ := Bool.and_eq_true_iff.mp hzz
    have h1 := of_decide_eq_true h1
    rw [List.length_cons] at hizz
    by_cases ezz : izz = rzz.length
    · intro qzz
      rw [ezz] at qzz
      rw [qzz] at h1
      have := hdzz d (List.mem_cons_self ..)
      have e32 : (32 : Int32).toInt = 32 := by decide
      omega
    · exact ihzz h2 (fun xzz hx => hdzz xzz (List.mem_cons_of_mem _ hx)) izz (by omega)
set_option maxHeartbeats 200000 in
theorem wo_to {rd : Ob} {t fzz L : Nat} {v2 v3 zzz : Int32} (ht : t < 9) (hf : fzz + L ≤ lnS.getD t 0) (hns : ∀ izz, izz < L → ¬ chT t (fzz + izz) = 32) (hend : fzz + L = lnS.getD t 0 ∨ chT t (fzz + L) = 32) : ∀ (Nzz : Nat) (v4zz : Int32) (izz : Nat), v4zz.toInt = ((fzz + izz : Nat) : Int) → izz ≤ L → lp_X6_wordOf_17 rd Nzz (t, v2, v3, v4zz) = some zzz → ∃ (N' : Nat) (xzz : Int32), xzz.toInt = ((fzz + L : Nat) : Int) ∧ bk_X6_wordOf_46 rd (lp_X6_wordOf_17 rd N') t v2 v3 xzz = some zzz := by
  have hl := ln_le t ht
  intro Nzz
  induction Nzz with
  | zero => intro v4zz izz _ _ hzz; cases hzz
  | succ Nzz ihzz =>
    intro v4zz izz e4zz hizz hzz
    have hzz : lb_X6_wordOf_17 rd (lp_X6_wordOf_17 rd Nzz) t v2 v3 v4zz = some zzz := hzz
    unfold lb_X6_wordOf_17 at hzz
    obtain ⟨-, hzz⟩ := z_gd hzz
    obtain ⟨z1, ez1, hzz⟩ := z_bd hzz
    rw [tx_len t ht] at ez1
    have t1zz : z1.toInt = (lnS.getD t 0 : Int) := by rw [← Option.some.inj ez1]; exact Int32.toInt_ofNat_of_lt (by omega)
    have hzz := z_f hzz (fun czz => by have czz := cv_lt (a := (lnS.getD t 0 : Int)) (b := ((fzz + izz : Nat) : Int)) t1zz e4zz czz; omega)
    obtain ⟨-, hzz⟩ := z_gd hzz
    obtain ⟨z3, ez3, hzz⟩ := z_bd hzz
    rw [tx_len t ht] at ez3
    have t3zz : z3.toInt = (lnS.getD t 0 : Int) := by rw [← Option.some.inj ez3]; exact Int32.toInt_ofNat_of_lt (by omega)
    by_cases czz : v4zz = z3
    · have d := cv_eq (a := ((fzz + izz : Nat) : Int)) (b := (lnS.getD t 0 : Int)) e4zz t3zz czz
      have ezz : izz = L := by omega
      rw [ezz] at e4zz
      exact ⟨Nzz, v4zz, e4zz, z_t hzz czz⟩
    · have d := cv_ne (a := ((fzz + izz : Nat) : Int)) (b := (lnS.getD t 0 : Int)) e4zz t3zz czz
      obtain ⟨-, hzz⟩ := z_gd (z_f hzz czz)
      obtain ⟨z9, ez9, hzz⟩ := z_bd hzz
      have ek : v4zz = Int32.ofNat (fzz + izz) := by
        refine Int32.toInt_inj.mp ?_
        rw [Int32.toInt_ofNat_of_lt (by omega), e4zz]
      rw [ek, tx_chr t ht (fzz + izz) (by omega)] at ez9
      have ez9 : chT t (fzz + izz) = z9 := Option.some.inj ez9
      rw [← ez9] at hzz
      by_cases ezz : izz = L
      · rw [ezz] at hzz e4zz
        rcases hend with qzz | qzz
        · omega
        · exact ⟨Nzz, v4zz, e4zz, z_t hzz qzz⟩
      · have hzz := z_f hzz (hns izz (by omega))
        unfold bk_X6_wordOf_67 at hzz
        obtain ⟨x8, e8, hzz⟩ := z_lt hzz
        have t8 : x8.toInt = ((fzz + izz : Nat) : Int) + 1 := by rw [e8]; exact i32_add e4zz (by decide) (by omega) (by omega)
        exact ihzz x8 (izz + 1) (by omega) (by omega) hzz
set_option maxHeartbeats 200000 in
theorem all_dig {R : List Int} (hzz : R.all (fun d => decide (1 ≤ d ∧ d ≤ 26)) = true) : dig R := fun d hdzz => of_decide_eq_true (List.all_eq_true.mp hzz d hdzz)
set_option maxHeartbeats 200000 in
theorem wo_lp {rd o : Ob} {t : Nat} {zzz : Int32} (hzz : TT rd o) (h1 : gI o 16 = 1) (ht : t < 9) : ∀ (wszz : List (List Int)) (Nzz fzz wzz : Nat) (v2 v3 v4zz : Int32), chnT t fzz wszz = true → v2.toInt = (wzz : Int) → wzz + wszz.length ≤ 100 → v3.toInt = (fzz : Int) → v4zz.toInt = (fzz : Int) → lp_X6_wordOf_17 rd Nzz (t, v2, v3, v4zz) = some zzz →
    (∃ (jzz : Nat) (R : List Int), wszz[jzz]? = some R ∧ zzz.toInt = ((wzz + jzz : Nat) : Int) ∧ IsW o R) ∨ (zzz = -1 ∧ ∀ R ∈ wszz, ¬ IsW o R) := by
  have hl := ln_le t ht
  intro wszz
  induction wszz with
  | nil => intro Nzz fzz wzz v2 v3 v4zz hczz; cases hczz
  | cons R wszz ihzz =>
    intro Nzz fzz wzz v2 v3 v4zz hczz e2zz hw e3zz e4zz hz
    have hcc : mcb t fzz R = true ∧ dig R ∧ fzz + R.length ≤ lnS.getD t 0 ∧ (fzz + R.length = lnS.getD t 0 ∧ wszz = [] ∨ fzz + R.length < lnS.getD t 0 ∧ chT t (fzz + R.length) = 32 ∧ chnT t (fzz + R.length + 1) wszz = true) := by
      cases wszz with
      | nil =>
        have hczz : (mcb t fzz R && decide (fzz + R.length = lnS.getD t 0) && R.all (fun d => decide (1 ≤ d ∧ d ≤ 26)) && decide (R.length ≤ 10)) = true := hczz
        obtain ⟨hczz, -⟩ := Bool.and_eq_true_iff.mp hczz
        obtain ⟨hczz, c3zz⟩ := Bool.and_eq_true_iff.mp hczz
        obtain ⟨c1zz, c2zz⟩ := Bool.and_eq_true_iff.mp hczz
        have c2zz := of_decide_eq_true c2zz
        exact ⟨c1zz, all_dig c3zz, by omega, Or.inl ⟨c2zz, rfl⟩⟩
      | cons R' wszz =>
        have hczz : (mcb t fzz R && decide (fzz + R.length < lnS.getD t 0) && decide (chT t (fzz + R.length) = 32) && R.all (fun d => decide (1 ≤ d ∧ d ≤ 26)) && decide (R.length ≤ 10) && chnT t (fzz + R.length + 1) (R' :: wszz)) = true := hczz
        obtain ⟨hczz, c5zz⟩ := Bool.and_eq_true_iff.mp hczz
        obtain ⟨hczz, -⟩ := Bool.and_eq_true_iff.mp hczz
        obtain ⟨hczz, c4zz⟩ := Bool.and_eq_true_iff.mp hczz
        obtain ⟨hczz, c3zz⟩ := Bool.and_eq_true_iff.mp hczz
        obtain ⟨c1zz, c2zz⟩ := Bool.and_eq_true_iff.mp hczz
        have c2zz := of_decide_eq_true c2zz
        exact ⟨c1zz, all_dig c4zz, by omega, Or.inr ⟨c2zz, of_decide_eq_true c3zz, c5zz⟩⟩
    obtain ⟨hmzz, hdzz, hf, hx⟩ := hcc
    have hnx : fzz + R.length = lnS.getD t 0 ∨ chT t (fzz + R.length) = 32 := by
      rcases hx with ⟨qzz, -⟩ | ⟨-, qzz, -⟩
      · exact Or.inl qzz
      · exact Or.inr qzz
    obtain ⟨N', xzz, exzz, hz⟩ := wo_to (fzz := fzz) (L := R.length) ht hf (mcb_ns R hmzz hdzz) hnx Nzz v4zz 0 (by omega) (Nat.zero_le _) hz
    unfold bk_X6_wordOf_46 at hz
    obtain ⟨z5, ez5, hz⟩ := z_bd hz
    rcases same8 hzz h1 ht e3zz exzz hf hmzz ez5 with ⟨q1zz, q2zz⟩ | ⟨q1zz, q2zz⟩
    · obtain ⟨x6, e6zz, hz⟩ := z_lt (z_t hz q1zz)
      obtain ⟨x7, e7zz, hz⟩ := z_lt hz
      unfold bk_X6_wordOf_67 at hz
      obtain ⟨x8, e8, hz⟩ := z_lt hz
      rw [List.length_cons] at hw
      have t6 : x6.toInt = (wzz : Int) + 1 := by rw [e6zz]; exact i32_add e2zz (by decide) (by omega) (by omega)
      have t7 : x7.toInt = ((fzz + R.length : Nat) : Int) + 1 := by rw [e7zz]; exact i32_add exzz (by decide) (by omega) (by omega)
      have t8 : x8.toInt = ((fzz + R.length : Nat) : Int) + 1 := by rw [e8]; exact i32_add exzz (by decide) (by omega) (by omega)
      rcases hx with ⟨u1zz, u2zz⟩ | ⟨u1zz, u2zz, u3⟩
      · subst u2zz
        have hend : zzz = -1 := by
          cases N' with
          | zero => cases hz
          | succ N' =>
            have hz : lb_X6_wordOf_17 rd (lp_X6_wordOf_17 rd N') t x6 x7 x8 = some zzz := hz
            unfold lb_X6_wordOf_17 at hz
            obtain ⟨-, hz⟩ := z_gd hz
            obtain ⟨z1, ez1, hz⟩ := z_bd hz
            rw [tx_len t ht] at ez1
            have t1zz : z1.toInt = (lnS.getD t 0 : Int) := by rw [← Option.some.inj ez1]; exact Int32.toInt_ofNat_of_lt (by omega)
            exact (Option.some.inj (z_t hz (Int32.lt_iff_toInt_lt.mpr (by omega)))).symm
        refine Or.inr ⟨hend, fun R' hR' => ?_⟩
        rw [List.mem_singleton.mp hR']; exact q2zz
      · rcases ihzz N' (fzz + R.length + 1) (wzz + 1) x6 x7 x8 u3 (by omega) (by omega) (by omega) (by omega) hz with ⟨jzz, R', g1, g2, g3zz⟩ | ⟨g1, g2⟩
        · exact Or.inl ⟨jzz + 1, R', by rw [List.getElem?_cons_succ]; exact g1, by omega, g3zz⟩
        · refine Or.inr ⟨g1, fun R' hR' => ?_⟩
          rcases List.mem_cons.mp hR' with ezz | ezz
          · rw [ezz]; exact q2zz
          · exact g2 R' ezz
    · exact Or.inl ⟨0, R, List.getElem?_cons_zero .., by rw [← Option.some.inj (z_f hz q1zz)]; omega, q2zz⟩
set_option maxHeartbeats 200000 in
theorem wo8 {rd o : Ob} {t : Nat} {wszz : List (List Int)} {zzz : Int32} (hzz : TT rd o) (ht : t < 9) (hczz : chnT t 0 wszz = true) (hw : wszz.length ≤ 20) (hz : f_X6_wordOf rd t = some zzz) : (∃ (jzz : Nat) (R : List Int), wszz[jzz]? = some R ∧ zzz.toInt = (jzz : Int) ∧ IsW o R) ∨ (zzz = -1 ∧ ∀ R ∈ wszz, ¬ IsW o R) := by
  unfold f_X6_wordOf at hz
  rw [hzz.2.1] at hz
  by_cases czz : gI o 16 = 1
  · rcases wo_lp hzz czz ht wszz zfu 0 0 0 0 0 hczz (by decide) (by omega) (by decide) (by decide) (z_t hz czz) with ⟨jzz, R, q1zz, q2zz, q3zz⟩ | qzz
    · exact Or.inl ⟨jzz, R, q1zz, by omega, q3zz⟩
    · exact Or.inr qzz
  · exact Or.inr ⟨(Option.some.inj (z_f hz czz)).symm, fun R _ wzz => czz wzz.1⟩
-- the lists themselves (the last letter first)
def tx0 : List (List Int) := [[19, 14, 21, 18], [19, 14, 18, 21, 20], [19, 14, 9, 23], [19, 18, 1, 2]]
set_option maxRecDepth 100000 in
theorem tx0_ok : chnT 0 0 tx0 = true := by decide +kernel
def tx1 : List (List Int) := [[5, 3, 1, 18], [18, 5, 20, 14, 5], [5, 11, 1, 20], [19, 19, 1, 16]]
set_option maxRecDepth 100000 in
theorem tx1_ok : chnT 1 0 tx1 = true := by decide +kernel
def tx2 : List (List Int) := [[19, 5, 13, 9, 20]]
set_option maxRecDepth 100000 in
theorem tx2_ok : chnT 2 0 tx2 = true := by decide +kernel
def tx3 : List (List Int) := [[6, 9]]
set_option maxRecDepth 100000 in
theorem tx3_ok : chnT 3 0 tx3 = true := by decide +kernel
def tx4 : List (List Int) := [[18, 15]]
set_option maxRecDepth 100000 in
theorem tx4_ok : chnT 4 0 tx4 = true := by decide +kernel
def tx5 : List (List Int) := [[4, 14, 1]]
set_option maxRecDepth 100000 in
theorem tx5_ok : chnT 5 0 tx5 = true := by decide +kernel
def tx6 : List (List Int) := [[20, 15, 14]]
set_option maxRecDepth 100000 in
theorem tx6_ok : chnT 6 0 tx6 = true := by decide +kernel
def tx7 : List (List Int) := [[14, 15, 19, 18, 5, 16], [5, 3, 1, 18], [8, 20, 7, 14, 5, 18, 20, 19], [5, 4, 1, 18, 20], [19, 5, 26, 9, 18, 16], [5, 3, 1, 12, 16], [16, 1, 7], [18, 1, 5, 25], [4, 15, 15, 13]]
set_option maxRecDepth 100000 in
theorem tx7_ok : chnT 7 0 tx7 = true := by decide +kernel
def tx8 : List (List Int) := [[18, 1, 5, 25], [5, 14, 15, 4], [20, 19, 5, 20, 1, 12], [16, 1, 7], [4, 5, 18, 5, 20, 14, 5], [19, 5, 26, 9, 18, 16], [5, 4, 1, 18, 20]]
set_option maxRecDepth 100000 in
theorem tx8_ok : chnT 8 0 tx8 = true := by decide +kernel
