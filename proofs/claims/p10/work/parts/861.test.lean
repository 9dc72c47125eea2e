-- tokens: class and reference cut the tape alike
def cod (gzz : Nat → Int32) (azz : Nat) : Nat → Int
  | 0 => 0
  | n + 1 => cod gzz azz n * 32 + ((gzz (azz + n)).toInt - 96)
def ltr (gzz : Nat → Int32) (azz n : Nat) : Prop := ∀ izz, izz < n → 97 ≤ (gzz (azz + izz)).toInt ∧ (gzz (azz + izz)).toInt ≤ 122
def WVl (gzz : Nat → Int32) (azz n : Nat) (wzz : Int64) : Prop := (n ≤ 10 → wzz.toInt = cod gzz azz n) ∧ (10 < n → wzz.toInt = -1)
def NV (mzz : Int32) (wzz : Int64) : Prop := 0 ≤ wzz.toInt ∧ wzz.toInt ≤ 10000009 ∧ ((wzz.toInt ≤ 1000 ∧ mzz.toInt = wzz.toInt) ∨ (1000 < wzz.toInt ∧ mzz.toInt = 1001))
def TZ (rd o : Ob) : Prop := gI rd 2 = gI o 13 ∧ gA rd 0 = gA o 12 ∧ 0 ≤ (gI o 13).toInt ∧ (gI o 13).toInt ≤ 400
def TT (rd o : Ob) : Prop := TZ rd o ∧ gI rd 6 = gI o 16 ∧ gI rd 7 = gI o 14 ∧ gI rd 8 = gI o 15 ∧ ∃ azz bzz : Nat, (gI o 14).toInt = (azz : Int) ∧ (gI o 15).toInt = (bzz : Int) ∧ azz ≤ bzz ∧ (bzz : Int) ≤ (gI o 13).toInt ∧
  ((gI o 16 = 0 ∧ (azz : Int) = (gI o 13).toInt ∧ bzz = azz) ∨ (gI o 16 = 1 ∧ azz < bzz ∧ ltr (gA o 12) azz (bzz - azz) ∧ WVl (gA o 12) azz (bzz - azz) (gL o 17)) ∨ (gI o 16 = 2 ∧ azz < bzz ∧ NV (gI rd 9) (gL o 17)) ∨ (gI o 16 = 3 ∧ bzz = azz + 1 ∧ gL o 17 = (gA o 12 azz).toInt64))
def FR6 (rd rd' : Ob) : Prop := (∀ izz, izz ≠ 6 → izz ≠ 7 → izz ≠ 8 → izz ≠ 9 → gI rd' izz = gI rd izz) ∧ rd'.2 = rd.2
def FR9 (o o' : Ob) : Prop := (∀ izz, izz ≠ 14 → izz ≠ 15 → izz ≠ 16 → gI o' izz = gI o izz) ∧ (∀ izz, izz ≠ 17 → gL o' izz = gL o izz) ∧ o'.2.2 = o.2.2
set_option maxHeartbeats 200000 in
theorem FR6.rf {o : Ob} : FR6 o o := ⟨fun _ _ _ _ _ => rfl, rfl⟩
set_option maxHeartbeats 200000 in
theorem FR6.tr {o o' o'' : Ob} (hzz : FR6 o o') (h' : FR6 o' o'') : FR6 o o'' := ⟨fun izz azz bzz czz d => (h'.1 izz azz bzz czz d).trans (hzz.1 izz azz bzz czz d), h'.2.trans hzz.2⟩
set_option maxHeartbeats 200000 in
theorem FR6.sI {o : Ob} {kzz : Nat} {vzz : Int32} (hk : kzz = 6 ∨ kzz = 7 ∨ kzz = 8 ∨ kzz = 9) : FR6 o (sI o kzz vzz) := ⟨fun izz azz bzz czz d => fset_ne (by rcases hk with ezz | ezz | ezz | ezz <;> rw [ezz] <;> assumption), rfl⟩
set_option maxHeartbeats 200000 in
theorem FR9.rf {o : Ob} : FR9 o o := ⟨fun _ _ _ _ => rfl, fun _ _ => rfl, rfl⟩
set_option maxHeartbeats 200000 in
theorem FR9.tr {o o' o'' : Ob} (hzz : FR9 o o') (h' : FR9 o' o'') : FR9 o o'' := ⟨fun izz azz bzz czz => (h'.1 izz azz bzz czz).trans (hzz.1 izz azz bzz czz), fun izz azz => (h'.2.1 izz azz).trans (hzz.2.1 izz azz), h'.2.2.trans hzz.2.2⟩
set_option maxHeartbeats 200000 in
theorem FR9.sI {o : Ob} {kzz : Nat} {vzz : Int32} (hk : kzz = 14 ∨ kzz = 15 ∨ kzz = 16) : FR9 o (sI o kzz vzz) := ⟨fun izz azz bzz czz => fset_ne (by rcases hk with ezz | ezz | ezz <;> rw [ezz] <;> assumption), fun _ _ => rfl, rfl⟩
set_option maxHeartbeats 200000 in
theorem FR9.sL {o : Ob} {vzz : Int64} : FR9 o (sL o 17 vzz) := ⟨fun _ _ _ _ => rfl, fun izz azz => fset_ne azz, rfl⟩
set_option maxHeartbeats 200000 in
theorem FR9.gA {o o' : Ob} (hzz : FR9 o o') (izz : Nat) : gA o' izz = gA o izz := congrFun (congrArg Prod.fst hzz.2.2) izz
set_option maxHeartbeats 200000 in
theorem FR6.gA {o o' : Ob} (hzz : FR6 o o') (izz : Nat) : gA o' izz = gA o izz := congrFun (congrArg (fun xzz => xzz.2.1) hzz.2) izz
set_option maxHeartbeats 200000 in
theorem TZ.fr {rd o rd' o' : Ob} (hzz : TZ rd o) (f6zz : FR6 rd rd') (f9zz : FR9 o o') : TZ rd' o' := by
  have e2zz := f6zz.1 2 (by decide) (by decide) (by decide) (by decide)
  have e13zz := f9zz.1 13 (by decide) (by decide) (by decide)
  exact ⟨by rw [e2zz, e13zz]; exact hzz.1, by rw [f6zz.gA 0, f9zz.gA 12]; exact hzz.2.1, by rw [e13zz]; exact hzz.2.2.1, by rw [e13zz]; exact hzz.2.2.2⟩
set_option maxHeartbeats 200000 in
theorem byteT {rd o : Ob} (hz : TZ rd o) {pzz zzz : Int32} {kzz : Nat} (ek : pzz.toInt = (kzz : Int)) (hk : (kzz : Int) < (gI o 13).toInt) (hzz : f_X6_byteAt rd pzz = some zzz) : zzz = gA o 12 kzz := by
  rcases byte8 ek (by rw [hz.1]; exact hz.2.2) hzz with ⟨-, bzz⟩ | ⟨azz, -⟩
  · rw [bzz, hz.2.1]
  · rw [hz.1] at azz; omega
set_option maxHeartbeats 200000 in
theorem lt6 {pzz zzz : Int32} (hzz : f_X6_isLetter pzz = some zzz) : (zzz = 0 ∧ ¬ (97 ≤ pzz.toInt ∧ pzz.toInt ≤ 122)) ∨ (¬ zzz = 0 ∧ 97 ≤ pzz.toInt ∧ pzz.toInt ≤ 122) := by
  unfold f_X6_isLetter at hzz
  by_cases c1zz : pzz < (97 : Int32)
  · have czz := cv_lt (a := pzz.toInt) (b := 97) rfl (by decide) c1zz
    exact Or.inl ⟨(Option.some.inj (z_t hzz c1zz)).symm, by omega⟩
  · have hzz := z_f hzz c1zz
    have czz := cv_nlt (a := pzz.toInt) (b := 97) rfl (by decide) c1zz
    by_cases c2zz : (122 : Int32) < pzz
    · have d := cv_lt (a := 122) (b := pzz.toInt) (by decide) rfl c2zz
      exact Or.inl ⟨(Option.some.inj (z_t hzz c2zz)).symm, by omega⟩
    · have d := cv_nlt (a := 122) (b := pzz.toInt) (by decide) rfl c2zz
      exact Or.inr ⟨by rw [← Option.some.inj (z_f hzz c2zz)]; decide, by omega, by omega⟩
set_option maxHeartbeats 200000 in
theorem lt9 {pzz zzz : Int32} (hzz : f_X9_isSmall pzz = some zzz) : (zzz = 0 ∧ ¬ (97 ≤ pzz.toInt ∧ pzz.toInt ≤ 122)) ∨ (¬ zzz = 0 ∧ 97 ≤ pzz.toInt ∧ pzz.toInt ≤ 122) := lt6 hzz
set_option maxHeartbeats 200000 in
theorem dg6 {pzz zzz : Int32} (hzz : f_X6_isDigit pzz = some zzz) : (zzz = 0 ∧ ¬ (48 ≤ pzz.toInt ∧ pzz.toInt ≤ 57)) ∨ (¬ zzz = 0 ∧ 48 ≤ pzz.toInt ∧ pzz.toInt ≤ 57) := by
  unfold f_X6_isDigit at hzz
  by_cases c1zz : pzz < (48 : Int32)
  · have czz := cv_lt (a := pzz.toInt) (b := 48) rfl (by decide) c1zz
    exact Or.inl ⟨(Option.some.inj (z_t hzz c1zz)).symm, by omega⟩
  · have hzz := z_f hzz c1zz
    have czz := cv_nlt (a := pzz.toInt) (b := 48) rfl (by decide) c1zz
    by_cases c2zz : (57 : Int32) < pzz
    · have d := cv_lt (a := 57) (b := pzz.toInt) (by decide) rfl c2zz
      exact Or.inl ⟨(Option.some.inj (z_t hzz c2zz)).symm, by omega⟩
    · have d := cv_nlt (a := 57) (b := pzz.toInt) (by decide) rfl c2zz
      exact Or.inr ⟨by rw [← Option.some.inj (z_f hzz c2zz)]; decide, by omega, by omega⟩
set_option maxHeartbeats 200000 in
theorem dg9 {pzz zzz : Int32} (hzz : f_X9_isDigit pzz = some zzz) : (zzz = 0 ∧ ¬ (48 ≤ pzz.toInt ∧ pzz.toInt ≤ 57)) ∨ (¬ zzz = 0 ∧ 48 ≤ pzz.toInt ∧ pzz.toInt ≤ 57) := dg6 hzz
set_option maxHeartbeats 200000 in
theorem cod_rg {gzz : Nat → Int32} {azz : Nat} : ∀ n, n ≤ 10 → ltr gzz azz n → 0 ≤ cod gzz azz n ∧ cod gzz azz n < (32 : Int) ^ n := by
  intro n
  induction n with
  | zero => intro _ _; exact ⟨Int.le_refl _, (by decide : (0 : Int) < (32 : Int) ^ 0)⟩
  | succ n ihzz =>
    intro hn hl
    have hzz := ihzz (by omega) (fun izz hizz => hl izz (by omega))
    have l := hl n (by omega)
    have ezz : cod gzz azz (n + 1) = cod gzz azz n * 32 + ((gzz (azz + n)).toInt - 96) := rfl
    have pzz : (32 : Int) ^ (n + 1) = (32 : Int) ^ n * 32 := rfl
    rw [ezz, pzz]; omega
set_option maxHeartbeats 200000 in
theorem p32 {n : Nat} (hzz : n ≤ 10) : (32 : Int) ^ n ≤ 1125899906842624 := by
  have : ∀ n, n < 11 → (32 : Int) ^ n ≤ 1125899906842624 := by decide
  exact this n (by omega)
-- spaces
set_option maxHeartbeats 200000 in
theorem tk_sp {rd : Ob} {rd' o' : Ob} : ∀ (Nzz : Nat) (v1zz : Int32) (o : Ob) (kzz : Nat), TZ rd o → v1zz.toInt = (kzz : Int) → gI o 14 = v1zz → (kzz : Int) ≤ (gI o 13).toInt → lp_X6_step_5 Nzz (v1zz, rd) = some rd' → lp_X9_next_8 Nzz o = some o' →
    ∃ (uzz : Int32) (o2 : Ob) (mzz : Nat), bk_X6_step_29 uzz rd = some rd' ∧ bk_X9_next_46 o2 = some o' ∧ gI o2 14 = uzz ∧ uzz.toInt = (mzz : Int) ∧ (mzz : Int) ≤ (gI o 13).toInt ∧ FR9 o o2 ∧ kzz ≤ mzz := by
  intro Nzz
  induction Nzz with
  | zero => intro v1zz o kzz _ _ _ _ hzz; cases hzz
  | succ Nzz ihzz =>
    intro v1zz o kzz hz ek e14zz hk h1 h2
    have h1 : lb_X6_step_5 (lp_X6_step_5 Nzz) v1zz rd = some rd' := h1
    have h2 : lb_X9_next_8 (lp_X9_next_8 Nzz) o = some o' := h2
    unfold lb_X6_step_5 at h1
    unfold lb_X9_next_8 at h2
    rw [hz.1] at h1
    rw [e14zz] at h2
    by_cases czz : gI o 13 ≤ v1zz
    · exact ⟨v1zz, o, kzz, z_t h1 czz, z_t h2 czz, e14zz, ek, hk, FR9.rf, Nat.le_refl _⟩
    · have d := cv_nle (a := (gI o 13).toInt) (b := (kzz : Int)) rfl ek czz
      obtain ⟨z24, ez, h1⟩ := z_bd (z_f h1 czz)
      obtain ⟨-, h2⟩ := z_gd (z_f h2 czz)
      have ik : v1zz.toNatClampNeg = kzz := tnc_eq ek
      rw [ik] at h2
      rw [byteT hz ek d ez] at h1
      by_cases c2zz : gA o 12 kzz = 32
      · obtain ⟨x25, e25zz, h1⟩ := z_lt (z_t h1 c2zz)
        obtain ⟨o23, e23zz, h2⟩ := z_lt (z_t h2 c2zz)
        have t25 : x25.toInt = (kzz : Int) + 1 := by rw [e25zz]; exact i32_add ek (by decide) (by have := hz.2.2.2; omega) (by have := hz.2.2.2; omega)
        have fzz : FR9 o o23 := by rw [e23zz]; exact FR9.sI (Or.inl rfl)
        obtain ⟨uzz, o2, mzz, q1zz, q2zz, q3zz, q4zz, q5zz, q6zz, q7zz⟩ := ihzz x25 o23 (kzz + 1) (hz.fr FR6.rf fzz) (by omega) (by rw [e23zz, e25zz]; rfl) (by rw [fzz.1 13 (by decide) (by decide) (by decide)]; omega) h1 h2
        exact ⟨uzz, o2, mzz, q1zz, q2zz, q3zz, q4zz, by rw [fzz.1 13 (by decide) (by decide) (by decide)] at q5zz; exact q5zz, fzz.tr q6zz, by omega⟩
      · exact ⟨v1zz, o, kzz, z_f h1 c2zz, z_f h2 c2zz, e14zz, ek, hk, FR9.rf, Nat.le_refl _⟩
-- letters
set_option maxHeartbeats 200000 in
theorem tk_wd {rd' o' : Ob} {azz : Nat} : ∀ (N1 N2 : Nat) (rd o : Ob) (n : Nat), TZ rd o → gI rd 6 = 1 → gI o 16 = 1 → gI rd 7 = gI o 14 → gI rd 8 = gI o 15 → (gI o 14).toInt = (azz : Int) → (gI o 15).toInt = ((azz + n : Nat) : Int) → 1 ≤ n → ((azz + n : Nat) : Int) ≤ (gI o 13).toInt → ltr (gA o 12) azz n → WVl (gA o 12) azz n (gL o 17) →
    lp_X6_step_83 N1 rd = some rd' → lp_X9_next_149 N2 o = some o' → TT rd' o' ∧ FR6 rd rd' ∧ FR9 o o' ∧ gI o' 14 = gI o 14 := by
  intro N1
  induction N1 with
  | zero => intro N2 rd o n _ _ _ _ _ _ _ _ _ _ _ hzz; cases hzz
  | succ N1 ihzz =>
    intro N2 rd o n hz e6zz e16zz e7zz e8 ea eb hn hbzz hl hw h1 h2
    cases N2 with
    | zero => cases h2
    | succ N2 =>
    have h1 : lb_X6_step_83 (lp_X6_step_83 N1) rd = some rd' := h1
    have h2 : lb_X9_next_149 (lp_X9_next_149 N2) o = some o' := h2
    unfold lb_X6_step_83 at h1
    unfold lb_X9_next_149 at h2
    have h2 := z_t h2 e16zz
    rw [hz.1, e8] at h1
    have hend : some rd = some rd' → lp_X9_next_243 zfu o = some o' → TT rd' o' ∧ FR6 rd rd' ∧ FR9 o o' ∧ gI o' 14 = gI o 14 := by
      intro k1zz k2zz
      have k2zz : lb_X9_next_243 (lp_X9_next_243 99999) o = some o' := k2zz
      unfold lb_X9_next_243 at k2zz
      have k2zz := z_f k2zz (by rw [e16zz]; decide)
      rw [← Option.some.inj k1zz, ← Option.some.inj k2zz]
      refine ⟨⟨hz, by rw [e6zz, e16zz], e7zz, e8, azz, azz + n, ea, eb, by omega, hbzz, Or.inr (Or.inl ⟨e16zz, by omega, ?_, ?_⟩)⟩, FR6.rf, FR9.rf, rfl⟩
      · have ezz : azz + n - azz = n := by omega
        rw [ezz]; exact hl
      · have ezz : azz + n - azz = n := by omega
        rw [ezz]; exact hw
    by_cases czz : gI o 13 ≤ gI o 15
    · exact hend (z_t h1 czz) (z_t h2 czz)
    · have d := cv_nle (a := (gI o 13).toInt) (b := ((azz + n : Nat) : Int)) rfl eb czz
      obtain ⟨z19, ez, h1⟩ := z_bd (z_f h1 czz)
      obtain ⟨z20, ez20, h1⟩ := z_bd h1
      obtain ⟨-, h2⟩ := z_gd (z_f h2 czz)
      obtain ⟨z15, ez15, h2⟩ := z_bd h2
      have ib : (gI o 15).toNatClampNeg = azz + n := tnc_eq eb
      rw [ib] at ez15 h2
      rw [byteT hz eb d ez] at ez20
      have h400 := hz.2.2.2
      rcases lt6 ez20 with ⟨x1zz, x2zz⟩ | ⟨x1zz, x2zz⟩ <;> rcases lt9 ez15 with ⟨y1, y2⟩ | ⟨y1, y2⟩
      · exact hend (z_t h1 x1zz) (z_t h2 y1)
      · exact absurd y2 x2zz
      · exact absurd x2zz y2
      · obtain ⟨o21, e21zz, h1⟩ := z_lt (z_f h1 x1zz)
        have h2 := z_f h2 y1
        have hdiff : (gI o 15 - gI o 14).toInt = ((azz + n : Nat) : Int) - (azz : Int) := i32_sub eb ea (by omega) (by omega)
        have hl' : ltr (gA o 12) azz (n + 1) := fun izz hizz => by
          by_cases qzz : izz = n
          · rw [qzz]; exact x2zz
          · exact hl izz (by omega)
        have hgo : ∀ s0zz : Int64, WVl (gA o 12) azz (n + 1) s0zz → bk_X9_next_227 (lp_X9_next_149 N2) s0zz o = some o' → TT rd' o' ∧ FR6 rd rd' ∧ FR9 o o' ∧ gI o' 14 = gI o 14 := by
          intro s0zz hs k2zz
          unfold bk_X9_next_227 at k2zz
          obtain ⟨o16, g16, k2zz⟩ := z_lt k2zz
          obtain ⟨o17, g17, k2zz⟩ := z_lt k2zz
          have f9zz : FR9 o o17 := FR9.tr (o' := o16) (by rw [g16]; exact FR9.sL) (by rw [g17]; exact FR9.sI (Or.inr (Or.inl rfl)))
          have f6zz : FR6 rd o21 := by rw [e21zz]; exact FR6.sI (Or.inr (Or.inr (Or.inl rfl)))
          have k15 : gI o17 15 = gI o 15 + 1 := by rw [g17, g16]; rfl
          have t15 : (gI o17 15).toInt = ((azz + n : Nat) : Int) + 1 := by rw [k15]; exact i32_add eb (by decide) (by omega) (by omega)
          have k13 := f9zz.1 13 (by decide) (by decide) (by decide)
          have k14 : gI o17 14 = gI o 14 := by rw [g17, g16]; rfl
          obtain ⟨r1zz, r2, r3, r4⟩ := ihzz N2 o21 o17 (n + 1) (hz.fr f6zz f9zz) (by rw [e21zz]; exact e6zz) (by rw [g17, g16]; exact e16zz) (by rw [e21zz, k14]; exact e7zz) (by rw [e21zz, k15]; rfl) (by rw [k14]; exact ea) (by omega) (by omega) (by rw [k13]; omega) (by rw [f9zz.gA 12]; exact hl') (by rw [f9zz.gA 12, g17, g16]; exact hs) h1 k2zz
          exact ⟨r1zz, f6zz.tr r2, f9zz.tr r3, r4.trans k14⟩
        by_cases c10zz : (10 : Int32) ≤ gI o 15 - gI o 14
        · have d10zz := cv_le (a := 10) (b := ((azz + n : Nat) : Int) - (azz : Int)) (by decide) hdiff c10zz
          exact hgo (-1) ⟨fun qzz => by omega, fun _ => by decide⟩ (z_t h2 c10zz)
        · have d10zz := cv_nle (a := 10) (b := ((azz + n : Nat) : Int) - (azz : Int)) (by decide) hdiff c10zz
          obtain ⟨-, h2⟩ := z_gd (z_f h2 c10zz)
          refine hgo _ ⟨fun _ => ?_, fun qzz => by omega⟩ h2
          have rzz := cod_rg (gzz := gA o 12) (azz := azz) n (by omega) hl
          have pzz := p32 (n := n) (by omega)
          have vzz := hw.1 (by omega)
          have m1zz : ((gL o 17) * (32 : Int64)).toInt = cod (gA o 12) azz n * 32 := i64_mul vzz (by decide) (by omega) (by omega)
          have m2zz : (((gL o 17) * (32 : Int64)) + (gA o 12 (azz + n)).toInt64).toInt = cod (gA o 12) azz n * 32 + (gA o 12 (azz + n)).toInt := i64_add m1zz (Int32.toInt_toInt64 _) (by omega) (by omega)
          have m3zz := i64_sub (y := (96 : Int64)) (b := 96) m2zz (by decide) (by omega) (by omega)
          rw [m3zz]
          show _ = cod (gA o 12) azz n * 32 + ((gA o 12 (azz + n)).toInt - 96)
          omega
-- digits
set_option maxHeartbeats 200000 in
theorem tk_nb {rd' o' : Ob} {azz : Nat} : ∀ (N1 N2 : Nat) (rd o : Ob) (n : Nat), TZ rd o → gI rd 6 = 2 → gI o 16 = 2 → gI rd 7 = gI o 14 → gI rd 8 = gI o 15 → (gI o 14).toInt = (azz : Int) → (gI o 15).toInt = ((azz + n : Nat) : Int) → 1 ≤ n → ((azz + n : Nat) : Int) ≤ (gI o 13).toInt → NV (gI rd 9) (gL o 17) →
    lp_X6_step_149 N1 rd = some rd' → lp_X9_next_243 N2 o = some o' → TT rd' o' ∧ FR6 rd rd' ∧ FR9 o o' ∧ gI o' 14 = gI o 14 := by
  intro N1
  induction N1 with
  | zero => intro N2 rd o n _ _ _ _ _ _ _ _ _ _ hzz; cases hzz
  | succ N1 ihzz =>
    intro N2 rd o n hz e6zz e16zz e7zz e8 ea eb hn hbzz hv h1 h2
    cases N2 with
    | zero => cases h2
    | succ N2 =>
    have h1 : lb_X6_step_149 (lp_X6_step_149 N1) rd = some rd' := h1
    have h2 : lb_X9_next_243 (lp_X9_next_243 N2) o = some o' := h2
    unfold lb_X6_step_149 at h1
    unfold lb_X9_next_243 at h2
    have h2 := z_t h2 e16zz
    rw [hz.1, e8] at h1
    have hend : some rd = some rd' → some o = some o' → TT rd' o' ∧ FR6 rd rd' ∧ FR9 o o' ∧ gI o' 14 = gI o 14 := by
      intro k1zz k2zz
      rw [← Option.some.inj k1zz, ← Option.some.inj k2zz]
      exact ⟨⟨hz, by rw [e6zz, e16zz], e7zz, e8, azz, azz + n, ea, eb, by omega, hbzz, Or.inr (Or.inr (Or.inl ⟨e16zz, by omega, hv⟩))⟩, FR6.rf, FR9.rf, rfl⟩
    by_cases czz : gI o 13 ≤ gI o 15
    · exact hend (z_t h1 czz) (z_t h2 czz)
    · have d := cv_nle (a := (gI o 13).toInt) (b := ((azz + n : Nat) : Int)) rfl eb czz
      obtain ⟨z13zz, ez, h1⟩ := z_bd (z_f h1 czz)
      obtain ⟨z14zz, ez14, h1⟩ := z_bd h1
      obtain ⟨-, h2⟩ := z_gd (z_f h2 czz)
      obtain ⟨z10, ez10, h2⟩ := z_bd h2
      have ib : (gI o 15).toNatClampNeg = azz + n := tnc_eq eb
      rw [ib] at ez10 h2
      rw [byteT hz eb d ez] at ez14
      have h400 := hz.2.2.2
      rcases dg6 ez14 with ⟨x1zz, x2zz⟩ | ⟨x1zz, x2zz⟩ <;> rcases dg9 ez10 with ⟨y1, y2⟩ | ⟨y1, y2⟩
      · exact hend (z_t h1 x1zz) (z_t h2 y1)
      · exact absurd y2 x2zz
      · exact absurd x2zz y2
      · obtain ⟨z15, ez15, h1⟩ := z_bd (z_f h1 x1zz)
        rw [byteT hz eb d ez15] at h1
        obtain ⟨o16, e16', h1⟩ := z_lt h1
        obtain ⟨o17, e17', h1⟩ := z_lt h1
        have h2 := z_f h2 y1
        obtain ⟨v0zz, v1zz, vv⟩ := hv
        have hmzz : 0 ≤ (gI rd 9).toInt ∧ (gI rd 9).toInt ≤ 1001 := by rcases vv with ⟨q1zz, q2zz⟩ | ⟨q1zz, q2zz⟩ <;> omega
        have n1zz : ((gI rd 9) * (10 : Int32)).toInt = (gI rd 9).toInt * 10 := i32_mul rfl (by decide) (by omega) (by omega)
        have n2zz : (((gI rd 9) * (10 : Int32)) + gA o 12 (azz + n)).toInt = (gI rd 9).toInt * 10 + (gA o 12 (azz + n)).toInt := i32_add n1zz rfl (by omega) (by omega)
        have n3zz : ((((gI rd 9) * (10 : Int32)) + gA o 12 (azz + n)) - (48 : Int32)).toInt = (gI rd 9).toInt * 10 + (gA o 12 (azz + n)).toInt - 48 := i32_sub n2zz (by decide) (by omega) (by omega)
        have k9 : gI o17 9 = (if ((((gI rd 9) * (10 : Int32)) + gA o 12 (azz + n)) - (48 : Int32)) < (1001 : Int32) then ((((gI rd 9) * (10 : Int32)) + gA o 12 (azz + n)) - (48 : Int32)) else (1001 : Int32)) := by rw [e17', e16']; rfl
        have t1001 : (1001 : Int32).toInt = 1001 := by decide
        have k9t : (gI o17 9).toInt = if (gI rd 9).toInt * 10 + (gA o 12 (azz + n)).toInt - 48 < 1001 then (gI rd 9).toInt * 10 + (gA o 12 (azz + n)).toInt - 48 else 1001 := by
          rw [k9]
          by_cases qzz : ((((gI rd 9) * (10 : Int32)) + gA o 12 (azz + n)) - (48 : Int32)) < (1001 : Int32)
          · have q' := cv_lt (a := (gI rd 9).toInt * 10 + (gA o 12 (azz + n)).toInt - 48) (b := 1001) n3zz t1001 qzz
            rw [if_pos qzz, if_pos q']; exact n3zz
          · have q' := cv_nlt (a := (gI rd 9).toInt * 10 + (gA o 12 (azz + n)).toInt - 48) (b := 1001) n3zz t1001 qzz
            rw [if_neg qzz, if_neg (by omega)]; exact t1001
        have hgo : ∀ s0zz : Int64, NV (gI o17 9) s0zz → bk_X9_next_319 (lp_X9_next_243 N2) s0zz o = some o' → TT rd' o' ∧ FR6 rd rd' ∧ FR9 o o' ∧ gI o' 14 = gI o 14 := by
          intro s0zz hs k2zz
          unfold bk_X9_next_319 at k2zz
          obtain ⟨p12, g12, k2zz⟩ := z_lt k2zz
          obtain ⟨p13zz, g13, k2zz⟩ := z_lt k2zz
          have f9zz : FR9 o p13zz := FR9.tr (o' := p12) (by rw [g12]; exact FR9.sL) (by rw [g13]; exact FR9.sI (Or.inr (Or.inl rfl)))
          have f6zz : FR6 rd o17 := FR6.tr (o' := o16) (by rw [e16']; exact FR6.sI (Or.inr (Or.inr (Or.inr rfl)))) (by rw [e17']; exact FR6.sI (Or.inr (Or.inr (Or.inl rfl))))
          have k15 : gI p13zz 15 = gI o 15 + 1 := by rw [g13, g12]; rfl
          have t15 : (gI p13zz 15).toInt = ((azz + n : Nat) : Int) + 1 := by rw [k15]; exact i32_add eb (by decide) (by omega) (by omega)
          have k13 := f9zz.1 13 (by decide) (by decide) (by decide)
          have k14 : gI p13zz 14 = gI o 14 := by rw [g13, g12]; rfl
          have k8zz : gI o17 8 = gI rd 8 + 1 := by rw [e17', e16']; rfl
          obtain ⟨r1zz, r2, r3, r4⟩ := ihzz N2 o17 p13zz (n + 1) (hz.fr f6zz f9zz) (by rw [e17', e16']; exact e6zz) (by rw [g13, g12]; exact e16zz) (by rw [k14]; rw [e17', e16']; exact e7zz) (by rw [k8zz, k15, e8]) (by rw [k14]; exact ea) (by omega) (by omega) (by rw [k13]; omega) (by rw [g13, g12]; exact hs) h1 k2zz
          exact ⟨r1zz, f6zz.tr r2, f9zz.tr r3, r4.trans k14⟩
        have l6 : (1000000 : Int64).toInt = 1000000 := by decide
        by_cases c6zz : lg_cmp (gL o 17) (1000000 : Int64) ≤ 0
        · have d6zz := cvl_le (a := (gL o 17).toInt) (b := 1000000) rfl l6 c6zz
          obtain ⟨-, h2⟩ := z_gd (z_t h2 c6zz)
          refine hgo _ ?_ h2
          have m1zz : ((gL o 17) * (10 : Int64)).toInt = (gL o 17).toInt * 10 := i64_mul rfl (by decide) (by omega) (by omega)
          have m2zz : (((gL o 17) * (10 : Int64)) + (gA o 12 (azz + n)).toInt64).toInt = (gL o 17).toInt * 10 + (gA o 12 (azz + n)).toInt := i64_add m1zz (Int32.toInt_toInt64 _) (by omega) (by omega)
          have m3zz := i64_sub (y := (48 : Int64)) (b := 48) m2zz (by decide) (by omega) (by omega)
          refine ⟨by rw [m3zz]; omega, by rw [m3zz]; omega, ?_⟩
          rw [m3zz, k9t]
          rcases vv with ⟨q1zz, q2zz⟩ | ⟨q1zz, q2zz⟩
          · rw [q2zz]
            by_cases qzz : (gL o 17).toInt * 10 + (gA o 12 (azz + n)).toInt - 48 < 1001
            · rw [if_pos qzz]; exact Or.inl ⟨by omega, rfl⟩
            · rw [if_neg qzz]; exact Or.inr ⟨by omega, rfl⟩
          · rw [if_neg (by omega)]; exact Or.inr ⟨by omega, rfl⟩
        · have d6zz := cvl_nle (a := (gL o 17).toInt) (b := 1000000) rfl l6 c6zz
          refine hgo _ ⟨v0zz, v1zz, ?_⟩ (z_f h2 c6zz)
          rcases vv with ⟨q1zz, q2zz⟩ | ⟨q1zz, q2zz⟩
          · omega
          · rw [k9t, if_neg (by omega)]; exact Or.inr ⟨q1zz, rfl⟩
set_option maxHeartbeats 200000 in
/-- the next token -/
theorem tk_eq {rd o rd' o' : Ob} (hz : TZ rd o) (e8 : gI rd 8 = gI o 15) (h0 : 0 ≤ (gI o 15).toInt) (h1 : (gI o 15).toInt ≤ (gI o 13).toInt) (k1zz : f_X6_step rd = some rd') (k2zz : f_X9_next o = some o') : TT rd' o' ∧ FR6 rd rd' ∧ FR9 o o' ∧ (gI o 15).toInt ≤ (gI o' 14).toInt := by
  unfold f_X6_step at k1zz
  unfold f_X9_next at k2zz
  obtain ⟨x1zz, e1zz, k1zz⟩ := z_lt k1zz
  obtain ⟨o1, g1, k2zz⟩ := z_lt k2zz
  have f1zz : FR9 o o1 := by rw [g1]; exact FR9.sI (Or.inl rfl)
  have k13 := f1zz.1 13 (by decide) (by decide) (by decide)
  obtain ⟨kzz, ek⟩ : ∃ kzz : Nat, x1zz.toInt = (kzz : Int) := ⟨x1zz.toInt.toNat, by rw [e1zz, e8]; omega⟩
  have e14zz : gI o1 14 = x1zz := by rw [g1, e1zz, e8]; rfl
  obtain ⟨uzz, o2, mzz, q1zz, q2zz, q3zz, q4zz, q5zz, q6zz, q7zz⟩ := tk_sp zfu x1zz o1 kzz (hz.fr FR6.rf f1zz) ek e14zz (by rw [k13, ← ek, e1zz, e8]; exact h1) k1zz k2zz
  rw [k13] at q5zz
  have hk15 : (gI o 15).toInt = (kzz : Int) := by rw [← e8, ← e1zz]; exact ek
  have f2zz := f1zz.tr q6zz
  have hz2 := hz.fr (rd' := rd) FR6.rf f2zz
  have h400 := hz.2.2.2
  unfold bk_X6_step_29 at q1zz
  obtain ⟨r2, a2, q1zz⟩ := z_lt q1zz
  obtain ⟨r3, a3, q1zz⟩ := z_lt q1zz
  obtain ⟨r4, a4, q1zz⟩ := z_lt q1zz
  unfold bk_X9_next_46 at q2zz
  obtain ⟨p2zz, b2, q2zz⟩ := z_lt q2zz
  obtain ⟨p3zz, b3, q2zz⟩ := z_lt q2zz
  have f6zz : FR6 rd r4 := FR6.tr (o' := r2) (by rw [a2]; exact FR6.sI (Or.inr (Or.inl rfl))) (FR6.tr (o' := r3) (by rw [a3]; exact FR6.sI (Or.inr (Or.inr (Or.inl rfl)))) (by rw [a4]; exact FR6.sI (Or.inr (Or.inr (Or.inr rfl)))))
  have f9zz : FR9 o p3zz := f2zz.tr (FR9.tr (o' := p2zz) (by rw [b2]; exact FR9.sI (Or.inr (Or.inl rfl))) (by rw [b3]; exact FR9.sL))
  have z4 := hz.fr f6zz f9zz
  have c13zz := f9zz.1 13 (by decide) (by decide) (by decide)
  have c14zz : gI p3zz 14 = uzz := by rw [b3, b2]; exact q3zz
  have c15zz : gI p3zz 15 = uzz := by rw [b3, b2]; exact q3zz
  have c17 : gL p3zz 17 = 0 := by rw [b3]; rfl
  have s7 : gI r4 7 = uzz := by rw [a4, a3, a2]; rfl
  have s8 : gI r4 8 = uzz + 1 := by rw [a4, a3, a2]; rfl
  have iu : uzz.toNatClampNeg = mzz := tnc_eq q4zz
  rw [c14zz] at q2zz
  by_cases czz : uzz = gI p3zz 13
  · have q2zz := z_t q2zz czz
    have ce : (mzz : Int) = (gI o 13).toInt := by rw [← c13zz, ← czz]; exact q4zz.symm
    have q1zz := z_f q1zz (fun wzz => by
      have wzz := cv_lt (a := (mzz : Int)) (b := (gI r4 2).toInt) q4zz rfl wzz
      rw [z4.1, c13zz] at wzz; omega)
    obtain ⟨r22, d22zz, q1zz⟩ := z_lt q1zz
    obtain ⟨r23, d23zz, q1zz⟩ := z_lt q1zz
    unfold bk_X9_next_114 at q2zz
    obtain ⟨o8zz, g8, q2zz⟩ := z_lt q2zz
    have q2zz := z_f q2zz (by rw [g8]; exact (by decide : ¬ (0 : Int32) = 3))
    have q2zz : lb_X9_next_149 (lp_X9_next_149 99999) o8zz = some o' := q2zz
    unfold lb_X9_next_149 at q2zz
    have q2zz := z_f q2zz (by rw [g8]; exact (by decide : ¬ (0 : Int32) = 1))
    have q2zz : lb_X9_next_243 (lp_X9_next_243 99999) o8zz = some o' := q2zz
    unfold lb_X9_next_243 at q2zz
    have q2zz := z_f q2zz (by rw [g8]; exact (by decide : ¬ (0 : Int32) = 2))
    have f6' : FR6 rd r23 := f6zz.tr (FR6.tr (o' := r22) (by rw [d22zz]; exact FR6.sI (Or.inl rfl)) (by rw [d23zz]; exact FR6.sI (Or.inr (Or.inr (Or.inl rfl)))))
    have f9' : FR9 o o8zz := f9zz.tr (by rw [g8]; exact FR9.sI (Or.inr (Or.inr rfl)))
    rw [← Option.some.inj q1zz, ← Option.some.inj q2zz]
    refine ⟨⟨hz.fr f6' f9', by rw [d23zz, d22zz, g8]; rfl, ?_, ?_, mzz, mzz, ?_, ?_, Nat.le_refl _, ?_, Or.inl ⟨by rw [g8]; rfl, ?_, rfl⟩⟩, f6', f9', ?_⟩
    · rw [d23zz, d22zz, g8]; show gI r4 7 = gI p3zz 14; rw [s7, c14zz]
    · rw [d23zz, g8]; show uzz = gI p3zz 15; rw [c15zz]
    · rw [g8]; show (gI p3zz 14).toInt = _; rw [c14zz]; exact q4zz
    · rw [g8]; show (gI p3zz 15).toInt = _; rw [c15zz]; exact q4zz
    · rw [f9'.1 13 (by decide) (by decide) (by decide)]; omega
    · rw [f9'.1 13 (by decide) (by decide) (by decide)]; exact ce
    · rw [g8]; show _ ≤ (gI p3zz 14).toInt; rw [c14zz]; omega
  · have q2zz := z_f q2zz czz
    have cne : (mzz : Int) < (gI o 13).toInt := by
      have wzz := cv_ne (a := (mzz : Int)) (b := (gI p3zz 13).toInt) q4zz rfl czz
      rw [c13zz] at wzz; omega
    have q1zz := z_t q1zz (Int32.lt_iff_toInt_lt.mpr (by rw [z4.1, c13zz]; omega))
    obtain ⟨z5, ez5, q1zz⟩ := z_bd q1zz
    obtain ⟨z6, ez6, q1zz⟩ := z_bd q1zz
    obtain ⟨-, q2zz⟩ := z_gd q2zz
    obtain ⟨w5, ew5, q2zz⟩ := z_bd q2zz
    rw [iu] at ew5 q2zz
    have cm : (mzz : Int) < (gI p3zz 13).toInt := by rw [c13zz]; exact cne
    rw [byteT z4 q4zz cm ez5] at ez6
    have tu1 : (uzz + 1).toInt = (mzz : Int) + 1 := i32_add q4zz (by decide) (by omega) (by omega)
    rcases lt6 ez6 with ⟨x1', x2zz⟩ | ⟨x1', x2zz⟩ <;> rcases lt9 ew5 with ⟨y1, y2⟩ | ⟨y1, y2⟩
    · have q1zz := z_t q1zz x1'
      obtain ⟨z7, ez7, q1zz⟩ := z_bd q1zz
      obtain ⟨z8, ez8, q1zz⟩ := z_bd q1zz
      obtain ⟨-, q2zz⟩ := z_gd (z_t q2zz y1)
      obtain ⟨w7zz, ew7, q2zz⟩ := z_bd q2zz
      rw [byteT z4 q4zz cm ez7] at ez8
      rcases dg6 ez8 with ⟨u1zz, u2zz⟩ | ⟨u1zz, u2zz⟩ <;> rcases dg9 ew7 with ⟨t1zz, t2zz⟩ | ⟨t1zz, t2zz⟩
      · obtain ⟨r9, d9zz, q1zz⟩ := z_lt (z_t q1zz u1zz)
        have q2zz := z_t q2zz t1zz
        unfold bk_X9_next_114 at q2zz
        obtain ⟨o8zz, g8, q2zz⟩ := z_lt q2zz
        obtain ⟨-, q2zz⟩ := z_gd (z_t q2zz (by rw [g8]; rfl))
        obtain ⟨o20, g20, q2zz⟩ := z_lt q2zz
        obtain ⟨o21, g21, q2zz⟩ := z_lt q2zz
        have e16zz : gI o21 16 = 3 := by rw [g21, g20, g8]; rfl
        have q2zz : lb_X9_next_149 (lp_X9_next_149 99999) o21 = some o' := q2zz
        unfold lb_X9_next_149 at q2zz
        have q2zz := z_f q2zz (by rw [e16zz]; decide)
        have q2zz : lb_X9_next_243 (lp_X9_next_243 99999) o21 = some o' := q2zz
        unfold lb_X9_next_243 at q2zz
        have q2zz := z_f q2zz (by rw [e16zz]; decide)
        have f6' : FR6 rd r9 := f6zz.tr (by rw [d9zz]; exact FR6.sI (Or.inl rfl))
        have f9' : FR9 o o21 := f9zz.tr (FR9.tr (o' := o8zz) (by rw [g8]; exact FR9.sI (Or.inr (Or.inr rfl))) (FR9.tr (o' := o20) (by rw [g20]; exact FR9.sL) (by rw [g21]; exact FR9.sI (Or.inr (Or.inl rfl)))))
        have k14' : gI o21 14 = uzz := by rw [g21, g20, g8]; exact c14zz
        have k15' : gI o21 15 = uzz + 1 := by rw [g21, g20, g8]; show gI p3zz 15 + 1 = _; rw [c15zz]
        rw [← Option.some.inj q1zz, ← Option.some.inj q2zz]
        refine ⟨⟨hz.fr f6' f9', by rw [e16zz, d9zz]; rfl, by rw [k14', d9zz]; exact s7, by rw [k15', d9zz]; exact s8, mzz, mzz + 1, by rw [k14']; exact q4zz, by rw [k15']; omega, by omega, by rw [f9'.1 13 (by decide) (by decide) (by decide)]; omega, Or.inr (Or.inr (Or.inr ⟨e16zz, rfl, ?_⟩))⟩, f6', f9', by rw [k14']; omega⟩
        rw [f9'.gA 12, ← f9zz.gA 12, g21, g20, g8]
        show (gA p3zz 12 (gI p3zz 14).toNatClampNeg).toInt64 = _
        rw [c14zz, iu]
      · exact absurd t2zz u2zz
      · exact absurd u2zz t2zz
      · obtain ⟨r10, d10zz, q1zz⟩ := z_lt (z_f q1zz u1zz)
        obtain ⟨z11, ez11, q1zz⟩ := z_bd q1zz
        obtain ⟨r12, d12zz, q1zz⟩ := z_lt q1zz
        have q2zz := z_f q2zz t1zz
        have f10 : FR6 r4 r10 := by rw [d10zz]; exact FR6.sI (Or.inl rfl)
        rw [byteT (z4.fr f10 FR9.rf) q4zz cm ez11] at d12zz
        unfold bk_X9_next_114 at q2zz
        obtain ⟨o8zz, g8, q2zz⟩ := z_lt q2zz
        have e16zz : gI o8zz 16 = 2 := by rw [g8]; rfl
        have q2zz := z_f q2zz (by rw [e16zz]; decide)
        have q2zz : lb_X9_next_149 (lp_X9_next_149 99999) o8zz = some o' := q2zz
        unfold lb_X9_next_149 at q2zz
        have q2zz := z_f q2zz (by rw [e16zz]; decide)
        have q2zz : lb_X9_next_243 (lp_X9_next_243 99999) o8zz = some o' := q2zz
        unfold lb_X9_next_243 at q2zz
        have q2zz := z_t q2zz e16zz
        have f8zz : FR9 p3zz o8zz := by rw [g8]; exact FR9.sI (Or.inr (Or.inr rfl))
        have k13' := f8zz.1 13 (by decide) (by decide) (by decide)
        have k15' : gI o8zz 15 = uzz := by rw [g8]; exact c15zz
        have k17' : gL o8zz 17 = 0 := by rw [g8]; exact c17
        rw [k13', k15'] at q2zz
        have q2zz := z_f q2zz (fun wzz => by have wzz := cv_le (a := (gI p3zz 13).toInt) (b := (mzz : Int)) rfl q4zz wzz; omega)
        obtain ⟨-, q2zz⟩ := z_gd q2zz
        obtain ⟨w10zz, ew10, q2zz⟩ := z_bd q2zz
        rw [iu, f8zz.gA 12] at ew10 q2zz
        rcases dg9 ew10 with ⟨t3zz, t4zz⟩ | ⟨t3zz, t4zz⟩
        · exact absurd t2zz t4zz
        · have q2zz := z_f q2zz t3zz
          have q2zz := z_t q2zz (by rw [k17']; decide)
          obtain ⟨-, q2zz⟩ := z_gd q2zz
          unfold bk_X9_next_319 at q2zz
          obtain ⟨p12, g12, q2zz⟩ := z_lt q2zz
          obtain ⟨p13zz, g13, q2zz⟩ := z_lt q2zz
          have f9' : FR9 p3zz p13zz := f8zz.tr (FR9.tr (o' := p12) (by rw [g12]; exact FR9.sL) (by rw [g13]; exact FR9.sI (Or.inr (Or.inl rfl))))
          have f6' : FR6 r4 r12 := f10.tr (by rw [d12zz]; exact FR6.sI (Or.inr (Or.inr (Or.inr rfl))))
          have l14 : gI p13zz 14 = uzz := by rw [g13, g12, g8]; exact c14zz
          have l15 : gI p13zz 15 = uzz + 1 := by rw [g13, g12]; show gI o8zz 15 + 1 = _; rw [k15']
          have l9 : gI r12 9 = gA p3zz 12 mzz - 48 := by rw [d12zz]; rfl
          have l17 : gL p13zz 17 = ((gL o8zz 17 * (10 : Int64)) + (gA p3zz 12 mzz).toInt64) - (48 : Int64) := by rw [g13, g12]; rfl
          have m1zz : ((gL o8zz 17) * (10 : Int64)).toInt = 0 * 10 := i64_mul (by rw [k17']; decide) (by decide) (by omega) (by omega)
          have m2zz : (((gL o8zz 17) * (10 : Int64)) + (gA p3zz 12 mzz).toInt64).toInt = 0 * 10 + (gA p3zz 12 mzz).toInt := i64_add m1zz (Int32.toInt_toInt64 _) (by omega) (by omega)
          have m3zz := i64_sub (y := (48 : Int64)) (b := 48) m2zz (by decide) (by omega) (by omega)
          have m4zz : (gA p3zz 12 mzz - 48).toInt = (gA p3zz 12 mzz).toInt - 48 := i32_sub rfl (by decide) (by omega) (by omega)
          have nv : NV (gI r12 9) (gL p13zz 17) := by
            rw [l9, l17]
            exact ⟨by rw [m3zz]; omega, by rw [m3zz]; omega, Or.inl ⟨by rw [m3zz]; omega, by rw [m3zz, m4zz]; omega⟩⟩
          obtain ⟨v1zz, v2, v3, v4zz⟩ := tk_nb (azz := mzz) zfu 99999 r12 p13zz 1 (z4.fr f6' f9') (by rw [d12zz, d10zz]; rfl) (by rw [g13, g12]; exact e16zz) (by rw [l14, d12zz, d10zz]; exact s7) (by rw [l15, d12zz, d10zz]; exact s8) (by rw [l14]; exact q4zz) (by rw [l15]; omega) (by omega) (by rw [f9'.1 13 (by decide) (by decide) (by decide), c13zz]; omega) nv q1zz q2zz
          exact ⟨v1zz, f6zz.tr (f6'.tr v2), f9zz.tr (f9'.tr v3), by rw [v4zz, l14]; omega⟩
    · exact absurd y2 x2zz
    · exact absurd x2zz y2
    · obtain ⟨r18, d18zz, q1zz⟩ := z_lt (z_f q1zz x1')
      have q2zz := z_f q2zz y1
      unfold bk_X9_next_114 at q2zz
      obtain ⟨o8zz, g8, q2zz⟩ := z_lt q2zz
      have e16zz : gI o8zz 16 = 1 := by rw [g8]; rfl
      have q2zz := z_f q2zz (by rw [e16zz]; decide)
      have q2zz : lb_X9_next_149 (lp_X9_next_149 99999) o8zz = some o' := q2zz
      unfold lb_X9_next_149 at q2zz
      have q2zz := z_t q2zz e16zz
      have f8zz : FR9 p3zz o8zz := by rw [g8]; exact FR9.sI (Or.inr (Or.inr rfl))
      have k13' := f8zz.1 13 (by decide) (by decide) (by decide)
      have k14' : gI o8zz 14 = uzz := by rw [g8]; exact c14zz
      have k15' : gI o8zz 15 = uzz := by rw [g8]; exact c15zz
      have k17' : gL o8zz 17 = 0 := by rw [g8]; exact c17
      rw [k13', k15'] at q2zz
      have q2zz := z_f q2zz (fun wzz => by have wzz := cv_le (a := (gI p3zz 13).toInt) (b := (mzz : Int)) rfl q4zz wzz; omega)
      obtain ⟨-, q2zz⟩ := z_gd q2zz
      obtain ⟨w15, ew15, q2zz⟩ := z_bd q2zz
      rw [iu, f8zz.gA 12] at ew15 q2zz
      rcases lt9 ew15 with ⟨t3zz, t4zz⟩ | ⟨t3zz, t4zz⟩
      · exact absurd y2 t4zz
      · have q2zz := z_f q2zz t3zz
        have hdzz : (uzz - gI o8zz 14).toInt = (mzz : Int) - (mzz : Int) := by rw [k14']; exact i32_sub q4zz q4zz (by omega) (by omega)
        have q2zz := z_f q2zz (fun wzz => by have wzz := cv_le (a := 10) (b := (mzz : Int) - (mzz : Int)) (by decide) hdzz wzz; omega)
        obtain ⟨-, q2zz⟩ := z_gd q2zz
        unfold bk_X9_next_227 at q2zz
        obtain ⟨p12, g12, q2zz⟩ := z_lt q2zz
        obtain ⟨p13zz, g13, q2zz⟩ := z_lt q2zz
        have f9' : FR9 p3zz p13zz := f8zz.tr (FR9.tr (o' := p12) (by rw [g12]; exact FR9.sL) (by rw [g13]; exact FR9.sI (Or.inr (Or.inl rfl))))
        have f6' : FR6 r4 r18 := by rw [d18zz]; exact FR6.sI (Or.inl rfl)
        have l14 : gI p13zz 14 = uzz := by rw [g13, g12]; exact k14'
        have l15 : gI p13zz 15 = uzz + 1 := by rw [g13, g12]; show gI o8zz 15 + 1 = _; rw [k15']
        have l17 : gL p13zz 17 = ((gL o8zz 17 * (32 : Int64)) + (gA p3zz 12 mzz).toInt64) - (96 : Int64) := by rw [g13, g12]; rfl
        have m1zz : ((gL o8zz 17) * (32 : Int64)).toInt = 0 * 32 := i64_mul (by rw [k17']; decide) (by decide) (by omega) (by omega)
        have m2zz : (((gL o8zz 17) * (32 : Int64)) + (gA p3zz 12 mzz).toInt64).toInt = 0 * 32 + (gA p3zz 12 mzz).toInt := i64_add m1zz (Int32.toInt_toInt64 _) (by omega) (by omega)
        have m3zz := i64_sub (y := (96 : Int64)) (b := 96) m2zz (by decide) (by omega) (by omega)
        have lt1 : ltr (gA p13zz 12) mzz 1 := fun izz hizz => by
          have ezz : mzz + izz = mzz := by omega
          rw [ezz, f9'.gA 12]; exact y2
        have wv : WVl (gA p13zz 12) mzz 1 (gL p13zz 17) := by
          refine ⟨fun _ => ?_, fun qzz => by omega⟩
          rw [l17, m3zz, f9'.gA 12]
          show _ = (0 : Int) * 32 + ((gA p3zz 12 (mzz + 0)).toInt - 96)
          have ezz : mzz + 0 = mzz := rfl
          rw [ezz]; omega
        obtain ⟨v1zz, v2, v3, v4zz⟩ := tk_wd (azz := mzz) zfu 99999 r18 p13zz 1 (z4.fr f6' f9') (by rw [d18zz]; rfl) (by rw [g13, g12]; exact e16zz) (by rw [l14, d18zz]; exact s7) (by rw [l15, d18zz]; exact s8) (by rw [l14]; exact q4zz) (by rw [l15]; omega) (by omega) (by rw [f9'.1 13 (by decide) (by decide) (by decide), c13zz]; omega) lt1 wv q1zz q2zz
        exact ⟨v1zz, f6zz.tr (f6'.tr v2), f9zz.tr (f9'.tr v3), by rw [v4zz, l14]; omega⟩
