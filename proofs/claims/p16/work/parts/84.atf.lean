def cod (gzz : Nat → Int32) (azz : Nat) : Nat → Int
  | 0 => 0
  | n + 1 => cod gzz azz n * 32 + ((gzz (azz + n)).toInt - 96)
def ltr (gzz : Nat → Int32) (azz n : Nat) : Prop := ∀ izz, izz < n → 97 ≤ (gzz (azz + izz)).toInt ∧ (gzz (azz + izz)).toInt ≤ 122
def WVl (gzz : Nat → Int32) (azz n : Nat) (wzz : Int64) : Prop := (n ≤ 10 → wzz.toInt = cod gzz azz n) ∧ (10 < n → wzz.toInt = -1)
def NV (mzz : Int32) (wzz : Int64) : Prop := 0 ≤ wzz.toInt ∧ wzz.toInt ≤ 10000009 ∧ ((wzz.toInt ≤ 1000 ∧ mzz.toInt = wzz.toInt) ∨ (1000 < wzz.toInt ∧ mzz.toInt = 1001))
def TZ (rd o : Ob) : Prop := gI rd 2 = gI o 13 ∧ gA rd 0 = gA o 12 ∧ 0 ≤ (gI o 13).toInt ∧ (gI o 13).toInt ≤ 400
def TT (rd o : Ob) : Prop := TZ rd o ∧ gI rd 6 = gI o 16 ∧ gI rd 7 = gI o 14 ∧ gI rd 8 = gI o 15 ∧ ∃ azz bzz : Nat, (gI o 14).toInt = (azz : Int) ∧ (gI o 15).toInt = (bzz : Int) ∧ azz ≤ bzz ∧ (bzz : Int) ≤ (gI o 13).toInt ∧
  ((gI o 16 = 0 ∧ (azz : Int) = (gI o 13).toInt ∧ bzz = azz) ∨ (gI o 16 = 1 ∧ azz < bzz ∧ ltr (gA o 12) azz (bzz - azz) ∧ WVl (gA o 12) azz (bzz - azz) (gL o 17)) ∨ (gI o 16 = 2 ∧ azz < bzz ∧ NV (gI rd 9) (gL o 17)) ∨ (gI o 16 = 3 ∧ bzz = azz + 1 ∧ gL o 17 = (gA o 12 azz).toInt64))
def FR6 (rd rd' : Ob) : Prop := (∀ izz, izz ≠ 6 → izz ≠ 7 → izz ≠ 8 → izz ≠ 9 → gI rd' izz = gI rd izz) ∧ rd'.2 = rd.2
def FR9 (o o' : Ob) : Prop := (∀ izz, izz ≠ 14 → izz ≠ 15 → izz ≠ 16 → gI o' izz = gI o izz) ∧ (∀ izz, izz ≠ 17 → gL o' izz = gL o izz) ∧ o'.2.2 = o.2.2
set_option maxHeartbeats 200000 in
theorem FR6.rf {o : Ob} : FR6 o o := ⟨fun _ _ _ _ _ => rfl, rfl⟩
set_option maxHeartbeats 200000 in
theorem FR6.tr {o o' o'' : Ob} (hzz : FR6 o o') (h' : FR6 o' o'') : FR6 o o'' := ⟨fun izz azz bzz czz d => (h'.1 izz azz bzz czz d).trans (hzz.1 izz azz bzz czz d), h'.2.trans hzz.2⟩
set_option maxHeartbeats 200000 in
theorem FR6.sI {o : Ob} {kzz : Nat} {vzz : Int32} (hk : kzz = 6 ∨ kzz = 7 ∨ kzz = 8 ∨ kzz = 9) : FR6 o (sI o kzz vzz) := ⟨fun izz azz bzz czz d => fset_ne (by rcases hk with ezz | ezz | ezz | ezz <;> rw [ezz] <;> assumption), rfl⟩
set_option maxHeartbeats 200000 in
theorem FR9.rf {o : Ob} : FR9 o o := ⟨fun _ _ _ _ => rfl, fun _ _ => rfl, rfl⟩
set_option maxHeartbeats 200000 in
theorem FR9.tr {o o' o'' : Ob} (hzz : FR9 o o') (h' : FR9 o' o'') : FR9 o o'' := ⟨fun izz azz bzz czz => (h'.1 izz azz bzz czz).trans (hzz.1 izz azz bzz czz), fun izz azz => (h'.2.1 izz azz).trans (hzz.2.1 izz azz), h'.2.2.trans hzz.2.2⟩
set_option maxHeartbeats 200000 in
theorem FR9.sI {o : Ob} {kzz : Nat} {vzz : Int32} (hk : kzz = 14 ∨ kzz = 15 ∨ kzz = 16) : FR9 o (sI o kzz vzz) := ⟨fun izz azz bzz czz => fset_ne (by rcases hk with ezz | ezz | ezz <;> rw [ezz] <;> assumption), fun _ _ => rfl, rfl⟩
set_option maxHeartbeats 200000 in
theorem FR9.sL {o : Ob} {vzz : Int64} : FR9 o (sL o 17 vzz) := ⟨fun _ _ _ _ => rfl, fun izz azz => fset_ne azz, rfl⟩
set_option maxHeartbeats 200000 in
theorem FR9.gA {o o' : Ob} (hzz : FR9 o o') (izz : Nat) : gA o' izz = gA o izz := congrFun (congrArg Prod.fst hzz.2.2) izz
set_option maxHeartbeats 200000 in
theorem FR6.gA {o o' : Ob} (hzz : FR6 o o') (izz : Nat) : gA o' izz = gA o izz := congrFun (congrArg (fun xzz => xzz.2.1) hzz.2) izz
set_option maxHeartbeats 200000 in
theorem TZ.fr {rd o rd' o' : Ob} (hzz : TZ rd o) (f6zz : FR6 rd rd') (f9zz : FR9 o o') : TZ rd' o' := by
  have e2zz := f6zz.1 2 (by decide) (by decide) (by decide) (by decide)
  have e13zz := f9zz.1 13 (by decide) (by decide) (by decide)
  exact ⟨by rw [e2zz, e13zz]; exact hzz.1, by rw [f6zz.gA 0, f9zz.gA 12]; exact hzz.2.1, by rw [e13zz]; exact hzz.2.2.1, by rw [e13zz]; exact hzz.2.2.2⟩
set_option maxHeartbeats 200000 in
theorem byteT {rd o : Ob} (hz : TZ rd o) {pzz zzz : Int32} {kzz : Nat} (ek : pzz.toInt = (kzz : Int)) (hk : (kzz : Int) < (gI o 13).toInt) (hzz : f_X6_byteAt rd pzz = some zzz) : zzz = gA o 12 kzz := by
  rcases byte8 ek (by rw [hz.1]; exact hz.2.2) hzz with ⟨-, bzz⟩ | ⟨azz, -⟩
  · rw [bzz, hz.2.1]
  · rw [hz.1] at azz; omega
set_option maxHeartbeats 200000 in
theorem lt6 {pzz zzz : Int32} (hzz : f_X6_isLetter pzz = some zzz) : (zzz = 0 ∧ ¬ (97 ≤ pzz.toInt ∧ pzz.toInt ≤ 122)) ∨ (¬ zzz = 0 ∧ 97 ≤ pzz.toInt ∧ pzz.toInt ≤ 122) := by
  unfold f_X6_isLetter at hzz
  by_cases c1zz : pzz < (97 : Int32)
  · have czz := cv_lt (a := pzz.toInt) (b := 97) rfl (by decide) c1zz
    exact Or.inl ⟨(Option.some.inj (z_t hzz c1zz)).symm, by omega⟩
  · have hzz := z_f hzz c1zz
    have czz := cv_nlt (a := pzz.toInt) (b := 97) rfl (by decide) c1zz
    by_cases c2zz : (122 : Int32) < pzz
    · have d := cv_lt (a := 122) (b := pzz.toInt) (by decide) rfl c2zz
      exact Or.inl ⟨(Option.some.inj (z_t hzz c2zz)).symm, by omega⟩
    · have d := cv_nlt (a := 122) (b := pzz.toInt) (by decide) rfl c2zz
      exact Or.inr ⟨by rw [← Option.some.inj (z_f hzz c2zz)]; decide, by omega, by omega⟩
set_option maxHeartbeats 200000 in
theorem lt9 {pzz zzz : Int32} (hzz : f_X9_isSmall pzz = some zzz) : (zzz = 0 ∧ ¬ (97 ≤ pzz.toInt ∧ pzz.toInt ≤ 122)) ∨ (¬ zzz = 0 ∧ 97 ≤ pzz.toInt ∧ pzz.toInt ≤ 122) := lt6 hzz
set_option maxHeartbeats 200000 in
theorem dg6 {pzz zzz : Int32} (hzz : f_X6_isDigit pzz = some zzz) : (zzz = 0 ∧ ¬ (48 ≤ pzz.toInt ∧ pzz.toInt ≤ 57)) ∨ (¬ zzz = 0 ∧ 48 ≤ pzz.toInt ∧ pzz.toInt ≤ 57) := by
  unfold f_X6_isDigit at hzz
  by_cases c1zz : pzz < (48 : Int32)
  · have czz := cv_lt (a := pzz.toInt) (b := 48) rfl (by decide) c1zz
    exact Or.inl ⟨(Option.some.inj (z_t hzz c1zz)).symm, by omega⟩
  · have hzz := z_f hzz c1zz
    have czz := cv_nlt (a := pzz.toInt) (b := 48) rfl (by decide) c1zz
    by_cases c2zz : (57 : Int32) < pzz
    · have d := cv_lt (a := 57) (b := pzz.toInt) (by decide) rfl c2zz
      exact Or.inl ⟨(Option.some.inj (z_t hzz c2zz)).symm, by omega⟩
    · have d := cv_nlt (a := 57) (b := pzz.toInt) (by decide) rfl c2zz
      exact Or.inr ⟨by rw [← Option.some.inj (z_f hzz c2zz)]; decide, by omega, by omega⟩
set_option maxHeartbeats 200000 in
theorem dg9 {pzz zzz : Int32} (hzz : f_X9_isDigit pzz = some zzz) : (zzz = 0 ∧ ¬ (48 ≤ pzz.toInt ∧ pzz.toInt ≤ 57)) ∨ (¬ zzz = 0 ∧ 48 ≤ pzz.toInt ∧ pzz.toInt ≤ 57) := dg6 hzz
set_option maxHeartbeats 200000 in
theorem cod_rg {gzz : Nat → Int32} {azz : Nat} : ∀ n, n ≤ 10 → ltr gzz azz n → 0 ≤ cod gzz azz n ∧ cod gzz azz n < (32 : Int) ^ n := by
  intro n
  induction n with
  | zero => intro _ _; exact ⟨Int.le_refl _, (by decide : (0 : Int) < (32 : Int) ^ 0)⟩
  | succ n ihzz =>
    intro hn hl
    have hzz := ihzz (by omega) (fun izz hizz => hl izz (by omega))
    have l := hl n (by omega)
    have ezz : cod gzz azz (n + 1) = cod gzz azz n * 32 + ((gzz (azz + n)).toInt - 96) := rfl
    have pzz : (32 : Int) ^ (n + 1) = (32 : Int) ^ n * 32 := rfl
    rw [ezz, pzz]; omega
set_option maxHeartbeats 200000 in
theorem p32 {n : Nat} (hzz : n ≤ 10) : (32 : Int) ^ n ≤ 1125899906842624 := by
  have : ∀ n, n < 11 → (32 : Int) ^ n ≤ 1125899906842624 := by decide
  exact this n (by omega)
set_option maxHeartbeats 200000 in
theorem tk_sp {rd : Ob} {rd' o' : Ob} : ∀ (Nzz : Nat) (v1zz : Int32) (o : Ob) (kzz : Nat), TZ rd o → v1zz.toInt = (kzz : Int) → gI o 14 = v1zz → (kzz : Int) ≤ (gI o 13).toInt → lp_X6_step_5 Nzz (v1zz, rd) = some rd' → lp_X9_next_8 Nzz o = some o' →
    ∃ (uzz : Int32) (o2 : Ob) (mzz : Nat), bk_X6_step_29 uzz rd = some rd' ∧ bk_X9_next_46 o2 = some o' ∧ gI o2 14 = uzz ∧ uzz.toInt = (mzz : Int) ∧ (mzz : Int) ≤ (gI o 13).toInt ∧ FR9 o o2 ∧ kzz ≤ mzz := by
  intro Nzz
  induction Nzz with
  | zero => intro v1zz o kzz _ _ _ _ hzz; cases hzz
  | succ Nzz ihzz =>
    intro v1zz o kzz hz ek e14zz hk h1 h2
    have h1 : lb_X6_step_5 (lp_X6_step_5 Nzz) v1zz rd = some rd' := h1
    have h2 : lb_X9_next_8 (lp_X9_next_8 Nzz) o = some o' := h2
    unfold lb_X6_step_5 at h1
    unfold lb_X9_next_8 at h2
    rw [hz.1] at h1
    rw [e14zz] at h2
    by_cases czz : gI o 13 ≤ v1zz
    · exact ⟨v1zz, o, kzz, z_t h1 czz, z_t h2 czz, e14zz, ek, hk, FR9.rf, Nat.le_refl _⟩
    · have d := cv_nle (a := (gI o 13).toInt) (b := (kzz : Int)) rfl ek czz
      obtain ⟨z24, ez, h1⟩ := z_bd (z_f h1 czz)
      obtain ⟨-, h2⟩ := z_gd (z_f h2 czz)
      have ik : v1zz.toNatClampNeg = kzz := tnc_eq ek
      rw [ik] at h2
      rw [byteT hz ek d ez] at h1
      by_cases c2zz : gA o 12 kzz = 32
      · obtain ⟨x25, e25zz, h1⟩ := z_lt (z_t h1 c2zz)
        obtain ⟨o23, e23zz, h2⟩ := z_lt (z_t h2 c2zz)
        have t25 : x25.toInt = (kzz : Int) + 1 := by rw [e25zz]; exact i32_add ek (by decide) (by have := hz.2.2.2; omega) (by have := hz.2.2.2; omega)
        have fzz : FR9 o o23 := by rw [e23zz]; exact FR9.sI (Or.inl rfl)
        obtain ⟨uzz, o2, mzz, q1zz, q2zz, q3zz, q4zz, q5zz, q6zz, q7zz⟩ := ihzz x25 o23 (kzz + 1) (hz.fr FR6.rf fzz) (by omega) (by rw [e23zz, e25zz]; rfl) (by rw [fzz.1 13 (by decide) (by decide) (by decide)]; omega) h1 h2
        exact ⟨uzz, o2, mzz, q1zz, q2zz, q3zz, q4zz, by rw [fzz.1 13 (by decide) (by decide) (by decide)] at q5zz; exact q5zz, fzz.tr q6zz, by omega⟩
      · exact ⟨v1zz, o, kzz, z_f h1 c2zz, z_f h2 c2zz, e14zz, ek, hk, FR9.rf, Nat.le_refl _⟩
set_option maxHeartbeats 200000 in
theorem tk_wd {rd' o' : Ob} {azz : Nat} : ∀ (N1 N2 : Nat) (rd o : Ob) (n : Nat), TZ rd o → gI rd 6 = 1 → gI o 16 = 1 → gI rd 7 = gI o 14 → gI rd 8 = gI o 15 → (gI o 14).toInt = (azz : Int) → (gI o 15).toInt = ((azz + n : Nat) : Int) → 1 ≤ n → ((azz + n : Nat) : Int) ≤ (gI o 13).toInt → ltr (gA o 12) azz n → WVl (gA o 12) azz n (gL o 17) →
    lp_X6_step_83 N1 rd = some rd' → lp_X9_next_149 N2 o = some o' → TT rd' o' ∧ FR6 rd rd' ∧ FR9 o o' ∧ gI o' 14 = gI o 14 := by
  intro N1
  induction N1 with
  | zero => intro N2 rd o n _ _ _ _ _ _ _ _ _ _ _ hzz; cases hzz
  | succ N1 ihzz =>
    intro N2 rd o n hz e6zz e16zz e7zz e8 ea eb hn hbzz hl hw h1 h2
    cases N2 with
    | zero => cases h2
    | succ N2 =>
    have h1 : lb_X6_step_83 (lp_X6_step_83 N1) rd = some rd' := h1
    have h2 : lb_X9_next_149 (lp_X9_next_149 N2) o = some o' := h2
    unfold lb_X6_step_83 at h1
    unfold lb_X9_next_149 at h2
    have h2 := z_t h2 e16zz
    rw [hz.1, e8] at h1
    have hend : some rd = some rd' → lp_X9_next_243 zfu o = some o' → TT rd' o' ∧ FR6 rd rd' ∧ FR9 o o' ∧ gI o' 14 = gI o 14 := by
      intro k1zz k2zz
      have k2zz : lb_X9_next_243 (lp_X9_next_243 99999) o = some o' := k2zz
      unfold lb_X9_next_243 at k2zz
      have k2zz := z_f k2zz (by rw [e16zz]; decide)
      rw [← Option.some.inj k1zz, ← Option.some.inj k2zz]
      refine ⟨⟨hz, by rw [e6zz, e16zz], e7zz, e8, azz, azz + n, ea, eb, by omega, hbzz, Or.inr (Or.inl ⟨e16zz, by omega, ?_, ?_⟩)⟩, FR6.rf, FR9.rf, rfl⟩
      · have ezz : azz + n - azz = n := by omega
        rw [ezz]; exact hl
      · have ezz : azz + n - azz = n := by omega
        rw [ezz]; exact hw
    by_cases czz : gI o 13 ≤ gI o 15
    · exact hend (z_t h1 czz) (z_t h2 czz)
    · have d := cv_nle (a := (gI o 13).toInt) (b := ((azz + n : Nat) : Int)) rfl eb czz
      obtain ⟨z19, ez, h1⟩ := z_bd (z_f h1 czz)
      obtain ⟨z20, ez20, h1⟩ := z_bd h1
      obtain ⟨-, h2⟩ := z_gd (z_f h2 czz)
      obtain ⟨z15, ez15, h2⟩ := z_bd h2
      have ib : (gI o 15).toNatClampNeg = azz + n := tnc_eq eb
      rw [ib] at ez15 h2
      rw [byteT hz eb d ez] at ez20
      have h400 := hz.2.2.2
      rcases lt6 ez20 with ⟨x1zz, x2zz⟩ | ⟨x1zz, x2zz⟩ <;> rcases lt9 ez15 with ⟨y1, y2⟩ | ⟨y1, y2⟩
      · exact hend (z_t h1 x1zz) (z_t h2 y1)
      · exact absurd y2 x2zz
      · exact absurd x2zz y2
      · obtain ⟨o21, e21zz, h1⟩ := z_lt (z_f h1 x1zz)
        have h2 := z_f h2 y1
        have hdiff : (gI o 15 - gI o 14).toInt = ((azz + n : Nat) : Int) - (azz : Int) := i32_sub eb ea (by omega) (by omega)
        have hl' : ltr (gA o 12) azz (n + 1) := fun izz hizz => by
          by_cases qzz : izz = n
          · rw [qzz]; exact x2zz
          · exact hl izz (by omega)
        have hgo : ∀ s0zz : Int64, WVl (gA o 12) azz (n + 1) s0zz → bk_X9_next_227 (lp_X9_next_149 N2) s0zz o = some o' → TT rd' o' ∧ FR6 rd rd' ∧ FR9 o o' ∧ gI o' 14 = gI o 14 := by
          intro s0zz hs k2zz
          unfold bk_X9_next_227 at k2zz
          obtain ⟨o16, g16, k2zz⟩ := z_lt k2zz
          obtain ⟨o17, g17, k2zz⟩ := z_lt k2zz
          have f9zz : FR9 o o17 := FR9.tr (o' := o16) (by rw [g16]; exact FR9.sL) (by rw [g17]; exact FR9.sI (Or.inr (Or.inl rfl)))
          have f6zz : FR6 rd o21 := by rw [e21zz]; exact FR6.sI (Or.inr (Or.inr (Or.inl rfl)))
          have k15 : gI o17 15 = gI o 15 + 1 := by rw [g17, g16]; rfl
          have t15 : (gI o17 15).toInt = ((azz + n : Nat) : Int) + 1 := by rw [k15]; exact i32_add eb (by decide) (by omega) (by omega)
          have k13 := f9zz.1 13 (by decide) (by decide) (by decide)
          have k14 : gI o17 14 = gI o 14 := by rw [g17, g16]; rfl
          obtain ⟨r1zz, r2, r3, r4⟩ := ihzz N2 o21 o17 (n + 1) (hz.fr f6zz f9zz) (by rw [e21zz]; exact e6zz) (by rw [g17, g16]; exact e16zz) (by rw [e21zz, k14]; exact e7zz) (by rw [e21zz, k15]; rfl) (by rw [k14]; exact ea) (by omega) (by omega) (by rw [k13]; omega) (by rw [f9zz.gA 12]; exact hl') (by rw [f9zz.gA 12, g17, g16]; exact hs) h1 k2zz
          exact ⟨r1zz, f6zz.tr r2, f9zz.tr r3, r4.trans k14⟩
        by_cases c10zz : (10 : Int32) ≤ gI o 15 - gI o 14
        · have d10zz := cv_le (a := 10) (b := ((azz + n : Nat) : Int) - (azz : Int)) (by decide) hdiff c10zz
          exact hgo (-1) ⟨fun qzz => by omega, fun _ => by decide⟩ (z_t h2 c10zz)
        · have d10zz := cv_nle (a := 10) (b := ((azz + n : Nat) : Int) - (azz : Int)) (by decide) hdiff c10zz
          obtain ⟨-, h2⟩ := z_gd (z_f h2 c10zz)
          refine hgo _ ⟨fun _ => ?_, fun qzz => by omega⟩ h2
          have rzz := cod_rg (gzz := gA o 12) (azz := azz) n (by omega) hl
          have pzz := p32 (n := n) (by omega)
          have vzz := hw.1 (by omega)
          have m1zz : ((gL o 17) * (32 : Int64)).toInt = cod (gA o 12) azz n * 32 := i64_mul vzz (by decide) (by omega) (by omega)
          have m2zz : (((gL o 17) * (32 : Int64)) + (gA o 12 (azz + n)).toInt64).toInt = cod (gA o 12) azz n * 32 + (gA o 12 (azz + n)).toInt := i64_add m1zz (Int32.toInt_toInt64 _) (by omega) (by omega)
          have m3zz := i64_sub (y := (96 : Int64)) (b := 96) m2zz (by decide) (by omega) (by omega)
          rw [m3zz]
          show _ = cod (gA o 12) azz n * 32 + ((gA o 12 (azz + n)).toInt - 96)
          omega
set_option maxHeartbeats 200000 in
theorem tk_nb {rd' o' : Ob} {azz : Nat} : ∀ (N1 N2 : Nat) (rd o : Ob) (n : Nat), TZ rd o → gI rd 6 = 2 → gI o 16 = 2 → gI rd 7 = gI o 14 → gI rd 8 = gI o 15 → (gI o 14).toInt = (azz : Int) → (gI o 15).toInt = ((azz + n : Nat) : Int) → 1 ≤ n → ((azz + n : Nat) : Int) ≤ (gI o 13).toInt → NV (gI rd 9) (gL o 17) →
    lp_X6_step_149 N1 rd = some rd' → lp_X9_next_243 N2 o = some o' → TT rd' o' ∧ FR6 rd rd' ∧ FR9 o o' ∧ gI o' 14 = gI o 14 := by
  intro N1
  induction N1 with
  | zero => intro N2 rd o n _ _ _ _ _ _ _ _ _ _ hzz; cases hzz
  | succ N1 ihzz =>
    intro N2 rd o n hz e6zz e16zz e7zz e8 ea eb hn hbzz hv h1 h2
    cases N2 with
    | zero => cases h2
    | succ N2 =>
    have h1 : lb_X6_step_149 (lp_X6_step_149 N1) rd = some rd' := h1
    have h2 : lb_X9_next_243 (lp_X9_next_243 N2) o = some o' := h2
    unfold lb_X6_step_149 at h1
    unfold lb_X9_next_243 at h2
    have h2 := z_t h2 e16zz
    rw [hz.1, e8] at h1
    have hend : some rd = some rd' → some o = some o' → TT rd' o' ∧ FR6 rd rd' ∧ FR9 o o' ∧ gI o' 14 = gI o 14 := by
      intro k1zz k2zz
      rw [← Option.some.inj k1zz, ← Option.some.inj k2zz]
      exact ⟨⟨hz, by rw [e6zz, e16zz], e7zz, e8, azz, azz + n, ea, eb, by omega, hbzz, Or.inr (Or.inr (Or.inl ⟨e16zz, by omega, hv⟩))⟩, FR6.rf, FR9.rf, rfl⟩
    by_cases czz : gI o 13 ≤ gI o 15
    · exact hend (z_t h1 czz) (z_t h2 czz)
    · have d := cv_nle (a := (gI o 13).toInt) (b := ((azz + n : Nat) : Int)) rfl eb czz
      obtain ⟨z13zz, ez, h1⟩ := z_bd (z_f h1 czz)
      obtain ⟨z14zz, ez14, h1⟩ := z_bd h1
      obtain ⟨-, h2⟩ := z_gd (z_f h2 czz)
      obtain ⟨z10, ez10, h2⟩ := z_bd h2
      have ib : (gI o 15).toNatClampNeg = azz + n := tnc_eq eb
      rw [ib] at ez10 h2
      rw [byteT hz eb d ez] at ez14
      have h400 := hz.2.2.2
      rcases dg6 ez14 with ⟨x1zz, x2zz⟩ | ⟨x1zz, x2zz⟩ <;> rcases dg9 ez10 with ⟨y1, y2⟩ | ⟨y1, y2⟩
      · exact hend (z_t h1 x1zz) (z_t h2 y1)
      · exact absurd y2 x2zz
      · exact absurd x2zz y2
      · obtain ⟨z15, ez15, h1⟩ := z_bd (z_f h1 x1zz)
        rw [byteT hz eb d ez15] at h1
        obtain ⟨o16, e16', h1⟩ := z_lt h1
        obtain ⟨o17, e17', h1⟩ := z_lt h1
        have h2 := z_f h2 y1
        obtain ⟨v0zz, v1zz, vv⟩ := hv
        have hmzz : 0 ≤ (gI rd 9).toInt ∧ (gI rd 9).toInt ≤ 1001 := by rcases vv with ⟨q1zz, q2zz⟩ | ⟨q1zz, q2zz⟩ <;> omega
        have n1zz : ((gI rd 9) * (10 : Int32)).toInt = (gI rd 9).toInt * 10 := i32_mul rfl (by decide) (by omega) (by omega)
        have n2zz : (((gI rd 9) * (10 : Int32)) + gA o 12 (azz + n)).toInt = (gI rd 9).toInt * 10 + (gA o 12 (azz + n)).toInt := i32_add n1zz rfl (by omega) (by omega)
        have n3zz : ((((gI rd 9) * (10 : Int32)) + gA o 12 (azz + n)) - (48 : Int32)).toInt = (gI rd 9).toInt * 10 + (gA o 12 (azz + n)).toInt - 48 := i32_sub n2zz (by decide) (by omega) (by omega)
        have k9 : gI o17 9 = (if ((((gI rd 9) * (10 : Int32)) + gA o 12 (azz + n)) - (48 : Int32)) < (1001 : Int32) then ((((gI rd 9) * (10 : Int32)) + gA o 12 (azz + n)) - (48 : Int32)) else (1001 : Int32)) := by rw [e17', e16']; rfl
        have t1001 : (1001 : Int32).toInt = 1001 := by decide
        have k9t : (gI o17 9).toInt = if (gI rd 9).toInt * 10 + (gA o 12 (azz + n)).toInt - 48 < 1001 then (gI rd 9).toInt * 10 + (gA o 12 (azz + n)).toInt - 48 else 1001 := by
          rw [k9]
          by_cases qzz : ((((gI rd 9) * (10 : Int32)) + gA o 12 (azz + n)) - (48 : Int32)) < (1001 : Int32)
          · have q' := cv_lt (a := (gI rd 9).toInt * 10 + (gA o 12 (azz + n)).toInt - 48) (b := 1001) n3zz t1001 qzz
            rw [if_pos qzz, if_pos q']; exact n3zz
          · have q' := cv_nlt (a := (gI rd 9).toInt * 10 + (gA o 12 (azz + n)).toInt - 48) (b := 1001) n3zz t1001 qzz
            rw [if_neg qzz, if_neg (by omega)]; exact t1001
        have hgo : ∀ s0zz : Int64, NV (gI o17 9) s0zz → bk_X9_next_319 (lp_X9_next_243 N2) s0zz o = some o' → TT rd' o' ∧ FR6 rd rd' ∧ FR9 o o' ∧ gI o' 14 = gI o 14 := by
          intro s0zz hs k2zz
          unfold bk_X9_next_319 at k2zz
          obtain ⟨p12, g12, k2zz⟩ := z_lt k2zz
          obtain ⟨p13zz, g13, k2zz⟩ := z_lt k2zz
          have f9zz : FR9 o p13zz := FR9.tr (o' := p12) (by rw [g12]; exact FR9.sL) (by rw [g13]; exact FR9.sI (Or.inr (Or.inl rfl)))
          have f6zz : FR6 rd o17 := FR6.tr (o' := o16) (by rw [e16']; exact FR6.sI (Or.inr (Or.inr (Or.inr rfl)))) (by rw [e17']; exact FR6.sI (Or.inr (Or.inr (Or.inl rfl))))
          have k15 : gI p13zz 15 = gI o 15 + 1 := by rw [g13, g12]; rfl
          have t15 : (gI p13zz 15).toInt = ((azz + n : Nat) : Int) + 1 := by rw [k15]; exact i32_add eb (by decide) (by omega) (by omega)
          have k13 := f9zz.1 13 (by decide) (by decide) (by decide)
          have k14 : gI p13zz 14 = gI o 14 := by rw [g13, g12]; rfl
          have k8zz : gI o17 8 = gI rd 8 + 1 := by rw [e17', e16']; rfl
          obtain ⟨r1zz, r2, r3, r4⟩ := ihzz N2 o17 p13zz (n + 1) (hz.fr f6zz f9zz) (by rw [e17', e16']; exact e6zz) (by rw [g13, g12]; exact e16zz) (by rw [k14]; rw [e17', e16']; exact e7zz) (by rw [k8zz, k15, e8]) (by rw [k14]; exact ea) (by omega) (by omega) (by rw [k13]; omega) (by rw [g13, g12]; exact hs) h1 k2zz
          exact ⟨r1zz, f6zz.tr r2, f9zz.tr r3, r4.trans k14⟩
        have l6 : (1000000 : Int64).toInt = 1000000 := by decide
        by_cases c6zz : lg_cmp (gL o 17) (1000000 : Int64) ≤ 0
        · have d6zz := cvl_le (a := (gL o 17).toInt) (b := 1000000) rfl l6 c6zz
          obtain ⟨-, h2⟩ := z_gd (z_t h2 c6zz)
          refine hgo _ ?_ h2
          have m1zz : ((gL o 17) * (10 : Int64)).toInt = (gL o 17).toInt * 10 := i64_mul rfl (by decide) (by omega) (by omega)
          have m2zz : (((gL o 17) * (10 : Int64)) + (gA o 12 (azz + n)).toInt64).toInt = (gL o 17).toInt * 10 + (gA o 12 (azz + n)).toInt := i64_add m1zz (Int32.toInt_toInt64 _) (by omega) (by omega)
          have m3zz := i64_sub (y := (48 : Int64)) (b := 48) m2zz (by decide) (by omega) (by omega)
          refine ⟨by rw [m3zz]; omega, by rw [m3zz]; omega, ?_⟩
          rw [m3zz, k9t]
          rcases vv with ⟨q1zz, q2zz⟩ | ⟨q1zz, q2zz⟩
          · rw [q2zz]
            by_cases qzz : (gL o 17).toInt * 10 + (gA o 12 (azz + n)).toInt - 48 < 1001
            · rw [if_pos qzz]; exact Or.inl ⟨by omega, rfl⟩
            · rw [if_neg qzz]; exact Or.inr ⟨by omega, rfl⟩
          · rw [if_neg (by omega)]; exact Or.inr ⟨by omega, rfl⟩
        · have d6zz := cvl_nle (a := (gL o 17).toInt) (b := 1000000) rfl l6 c6zz
          refine hgo _ ⟨v0zz, v1zz, ?_⟩ (z_f h2 c6zz)
          rcases vv with ⟨q1zz, q2zz⟩ | ⟨q1zz, q2zz⟩
          · omega
          · rw [k9t, if_neg (by omega)]; exact Or.inr ⟨q1zz, rfl⟩
set_option maxHeartbeats 200000 in
theorem tk_eq {rd o rd' o' : Ob} (hz : TZ rd o) (e8 : gI rd 8 = gI o 15) (h0 : 0 ≤ (gI o 15).toInt) (h1 : (gI o 15).toInt ≤ (gI o 13).toInt) (k1zz : f_X6_step rd = some rd') (k2zz : f_X9_next o = some o') : TT rd' o' ∧ FR6 rd rd' ∧ FR9 o o' ∧ (gI o 15).toInt ≤ (gI o' 14).toInt := by
  unfold f_X6_step at k1zz
  unfold f_X9_next at k2zz
  obtain ⟨x1zz, e1zz, k1zz⟩ := z_lt k1zz
  obtain ⟨o1, g1, k2zz⟩ := z_lt k2zz
  have f1zz : FR9 o o1 := by rw [g1]; exact FR9.sI (Or.inl rfl)
  have k13 := f1zz.1 13 (by decide) (by decide) (by decide)
  obtain ⟨kzz, ek⟩ : ∃ kzz : Nat, x1zz.toInt = (kzz : Int) := ⟨x1zz.toInt.toNat, by rw [e1zz, e8]; omega⟩
  have e14zz : gI o1 14 = x1zz := by rw [g1, e1zz, e8]; rfl
  obtain ⟨uzz, o2, mzz, q1zz, q2zz, q3zz, q4zz, q5zz, q6zz, q7zz⟩ := tk_sp zfu x1zz o1 kzz (hz.fr FR6.rf f1zz) ek e14zz (by rw [k13, ← ek, e1zz, e8]; exact h1) k1zz k2zz
  rw [k13] at q5zz
  have hk15 : (gI o 15).toInt = (kzz : Int) := by rw [← e8, ← e1zz]; exact ek
  have f2zz := f1zz.tr q6zz
  have hz2 := hz.fr (rd' := rd) FR6.rf f2zz
  have h400 := hz.2.2.2
  unfold bk_X6_step_29 at q1zz
  obtain ⟨r2, a2, q1zz⟩ := z_lt q1zz
  obtain ⟨r3, a3, q1zz⟩ := z_lt q1zz
  obtain ⟨r4, a4, q1zz⟩ := z_lt q1zz
  unfold bk_X9_next_46 at q2zz
  obtain ⟨p2zz, b2, q2zz⟩ := z_lt q2zz
  obtain ⟨p3zz, b3, q2zz⟩ := z_lt q2zz
  have f6zz : FR6 rd r4 := FR6.tr (o' := r2) (by rw [a2]; exact FR6.sI (Or.inr (Or.inl rfl))) (FR6.tr (o' := r3) (by rw [a3]; exact FR6.sI (Or.inr (Or.inr (Or.inl rfl)))) (by rw [a4]; exact FR6.sI (Or.inr (Or.inr (Or.inr rfl)))))
  have f9zz : FR9 o p3zz := f2zz.tr (FR9.tr (o' := p2zz) (by rw [b2]; exact FR9.sI (Or.inr (Or.inl rfl))) (by rw [b3]; exact FR9.sL))
  have z4 := hz.fr f6zz f9zz
  have c13zz := f9zz.1 13 (by decide) (by decide) (by decide)
  have c14zz : gI p3zz 14 = uzz := by rw [b3, b2]; exact q3zz
  have c15zz : gI p3zz 15 = uzz := by rw [b3, b2]; exact q3zz
  have c17 : gL p3zz 17 = 0 := by rw [b3]; rfl
  have s7 : gI r4 7 = uzz := by rw [a4, a3, a2]; rfl
  have s8 : gI r4 8 = uzz + 1 := by rw [a4, a3, a2]; rfl
  have iu : uzz.toNatClampNeg = mzz := tnc_eq q4zz
  rw [c14zz] at q2zz
  by_cases czz : uzz = gI p3zz 13
  · have q2zz := z_t q2zz czz
    have ce : (mzz : Int) = (gI o 13).toInt := by rw [← c13zz, ← czz]; exact q4zz.symm
    have q1zz := z_f q1zz (fun wzz => by
      have wzz := cv_lt (a := (mzz : Int)) (b := (gI r4 2).toInt) q4zz rfl wzz
      rw [z4.1, c13zz] at wzz; omega)
    obtain ⟨r22, d22zz, q1zz⟩ := z_lt q1zz
    obtain ⟨r23, d23zz, q1zz⟩ := z_lt q1zz
    unfold bk_X9_next_114 at q2zz
    obtain ⟨o8zz, g8, q2zz⟩ := z_lt q2zz
    have q2zz := z_f q2zz (by rw [g8]; exact (by decide : ¬ (0 : Int32) = 3))
    have q2zz : lb_X9_next_149 (lp_X9_next_149 99999) o8zz = some o' := q2zz
    unfold lb_X9_next_149 at q2zz
    have q2zz := z_f q2zz (by rw [g8]; exact (by decide : ¬ (0 : Int32) = 1))
    have q2zz : lb_X9_next_243 (lp_X9_next_243 99999) o8zz = some o' := q2zz
    unfold lb_X9_next_243 at q2zz
    have q2zz := z_f q2zz (by rw [g8]; exact (by decide : ¬ (0 : Int32) = 2))
    have f6' : FR6 rd r23 := f6zz.tr (FR6.tr (o' := r22) (by rw [d22zz]; exact FR6.sI (Or.inl rfl)) (by rw [d23zz]; exact FR6.sI (Or.inr (Or.inr (Or.inl rfl)))))
    have f9' : FR9 o o8zz := f9zz.tr (by rw [g8]; exact FR9.sI (Or.inr (Or.inr rfl)))
    rw [← Option.some.inj q1zz, ← Option.some.inj q2zz]
    refine ⟨⟨hz.fr f6' f9', by rw [d23zz, d22zz, g8]; rfl, ?_, ?_, mzz, mzz, ?_, ?_, Nat.le_refl _, ?_, Or.inl ⟨by rw [g8]; rfl, ?_, rfl⟩⟩, f6', f9', ?_⟩
    · rw [d23zz, d22zz, g8]; show gI r4 7 = gI p3zz 14; rw [s7, c14zz]
    · rw [d23zz, g8]; show uzz = gI p3zz 15; rw [c15zz]
    · rw [g8]; show (gI p3zz 14).toInt = _; rw [c14zz]; exact q4zz
    · rw [g8]; show (gI p3zz 15).toInt = _; rw [c15zz]; exact q4zz
    · rw [f9'.1 13 (by decide) (by decide) (by decide)]; omega
    · rw [f9'.1 13 (by decide) (by decide) (by decide)]; exact ce
    · rw [g8]; show _ ≤ (gI p3zz 14).toInt; rw [c14zz]; omega
  · have q2zz := z_f q2zz czz
    have cne : (mzz : Int) < (gI o 13).toInt := by
      have wzz := cv_ne (a := (mzz : Int)) (b := (gI p3zz 13).toInt) q4zz rfl czz
      rw [c13zz] at wzz; omega
    have q1zz := z_t q1zz (Int32.lt_iff_toInt_lt.mpr (by rw [z4.1, c13zz]; omega))
    obtain ⟨z5, ez5, q1zz⟩ := z_bd q1zz
    obtain ⟨z6, ez6, q1zz⟩ := z_bd q1zz
    obtain ⟨-, q2zz⟩ := z_gd q2zz
    obtain ⟨w5, ew5, q2zz⟩ := z_bd q2zz
    rw [iu] at ew5 q2zz
    have cm : (mzz : Int) < (gI p3zz 13).toInt := by rw [c13zz]; exact cne
    rw [byteT z4 q4zz cm ez5] at ez6
    have tu1 : (uzz + 1).toInt = (mzz : Int) + 1 := i32_add q4zz (by decide) (by omega) (by omega)
    rcases lt6 ez6 with ⟨x1', x2zz⟩ | ⟨x1', x2zz⟩ <;> rcases lt9 ew5 with ⟨y1, y2⟩ | ⟨y1, y2⟩
    · have q1zz := z_t q1zz x1'
      obtain ⟨z7, ez7, q1zz⟩ := z_bd q1zz
      obtain ⟨z8, ez8, q1zz⟩ := z_bd q1zz
      obtain ⟨-, q2zz⟩ := z_gd (z_t q2zz y1)
      obtain ⟨w7zz, ew7, q2zz⟩ := z_bd q2zz
      rw [byteT z4 q4zz cm ez7] at ez8
      rcases dg6 ez8 with ⟨u1zz, u2zz⟩ | ⟨u1zz, u2zz⟩ <;> rcases dg9 ew7 with ⟨t1zz, t2zz⟩ | ⟨t1zz, t2zz⟩
      · obtain ⟨r9, d9zz, q1zz⟩ := z_lt (z_t q1zz u1zz)
        have q2zz := z_t q2zz t1zz
        unfold bk_X9_next_114 at q2zz
        obtain ⟨o8zz, g8, q2zz⟩ := z_lt q2zz
        obtain ⟨-, q2zz⟩ := z_gd (z_t q2zz (by rw [g8]; rfl))
        obtain ⟨o20, g20, q2zz⟩ := z_lt q2zz
        obtain ⟨o21, g21, q2zz⟩ := z_lt q2zz
        have e16zz : gI o21 16 = 3 := by rw [g21, g20, g8]; rfl
        have q2zz : lb_X9_next_149 (lp_X9_next_149 99999) o21 = some o' := q2zz
        unfold lb_X9_next_149 at q2zz
        have q2zz := z_f q2zz (by rw [e16zz]; decide)
        have q2zz : lb_X9_next_243 (lp_X9_next_243 99999) o21 = some o' := q2zz
        unfold lb_X9_next_243 at q2zz
        have q2zz := z_f q2zz (by rw [e16zz]; decide)
        have f6' : FR6 rd r9 := f6zz.tr (by rw [d9zz]; exact FR6.sI (Or.inl rfl))
        have f9' : FR9 o o21 := f9zz.tr (FR9.tr (o' := o8zz) (by rw [g8]; exact FR9.sI (Or.inr (Or.inr rfl))) (FR9.tr (o' := o20) (by rw [g20]; exact FR9.sL) (by rw [g21]; exact FR9.sI (Or.inr (Or.inl rfl)))))
        have k14' : gI o21 14 = uzz := by rw [g21, g20, g8]; exact c14zz
        have k15' : gI o21 15 = uzz + 1 := by rw [g21, g20, g8]; show gI p3zz 15 + 1 = _; rw [c15zz]
        rw [← Option.some.inj q1zz, ← Option.some.inj q2zz]
        refine ⟨⟨hz.fr f6' f9', by rw [e16zz, d9zz]; rfl, by rw [k14', d9zz]; exact s7, by rw [k15', d9zz]; exact s8, mzz, mzz + 1, by rw [k14']; exact q4zz, by rw [k15']; omega, by omega, by rw [f9'.1 13 (by decide) (by decide) (by decide)]; omega, Or.inr (Or.inr (Or.inr ⟨e16zz, rfl, ?_⟩))⟩, f6', f9', by rw [k14']; omega⟩
        rw [f9'.gA 12, ← f9zz.gA 12, g21, g20, g8]
        show (gA p3zz 12 (gI p3zz 14).toNatClampNeg).toInt64 = _
        rw [c14zz, iu]
      · exact absurd t2zz u2zz
      · exact absurd u2zz t2zz
      · obtain ⟨r10, d10zz, q1zz⟩ := z_lt (z_f q1zz u1zz)
        obtain ⟨z11, ez11, q1zz⟩ := z_bd q1zz
        obtain ⟨r12, d12zz, q1zz⟩ := z_lt q1zz
        have q2zz := z_f q2zz t1zz
        have f10 : FR6 r4 r10 := by rw [d10zz]; exact FR6.sI (Or.inl rfl)
        rw [byteT (z4.fr f10 FR9.rf) q4zz cm ez11] at d12zz
        unfold bk_X9_next_114 at q2zz
        obtain ⟨o8zz, g8, q2zz⟩ := z_lt q2zz
        have e16zz : gI o8zz 16 = 2 := by rw [g8]; rfl
        have q2zz := z_f q2zz (by rw [e16zz]; decide)
        have q2zz : lb_X9_next_149 (lp_X9_next_149 99999) o8zz = some o' := q2zz
        unfold lb_X9_next_149 at q2zz
        have q2zz := z_f q2zz (by rw [e16zz]; decide)
        have q2zz : lb_X9_next_243 (lp_X9_next_243 99999) o8zz = some o' := q2zz
        unfold lb_X9_next_243 at q2zz
        have q2zz := z_t q2zz e16zz
        have f8zz : FR9 p3zz o8zz := by rw [g8]; exact FR9.sI (Or.inr (Or.inr rfl))
        have k13' := f8zz.1 13 (by decide) (by decide) (by decide)
        have k15' : gI o8zz 15 = uzz := by rw [g8]; exact c15zz
        have k17' : gL o8zz 17 = 0 := by rw [g8]; exact c17
        rw [k13', k15'] at q2zz
        have q2zz := z_f q2zz (fun wzz => by have wzz := cv_le (a := (gI p3zz 13).toInt) (b := (mzz : Int)) rfl q4zz wzz; omega)
        obtain ⟨-, q2zz⟩ := z_gd q2zz
        obtain ⟨w10zz, ew10, q2zz⟩ := z_bd q2zz
        rw [iu, f8zz.gA 12] at ew10 q2zz
        rcases dg9 ew10 with ⟨t3zz, t4zz⟩ | ⟨t3zz, t4zz⟩
        · exact absurd t2zz t4zz
        · have q2zz := z_f q2zz t3zz
          have q2zz := z_t q2zz (by rw [k17']; decide)
          obtain ⟨-, q2zz⟩ := z_gd q2zz
          unfold bk_X9_next_319 at q2zz
          obtain ⟨p12, g12, q2zz⟩ := z_lt q2zz
          obtain ⟨p13zz, g13, q2zz⟩ := z_lt q2zz
          have f9' : FR9 p3zz p13zz := f8zz.tr (FR9.tr (o' := p12) (by rw [g12]; exact FR9.sL) (by rw [g13]; exact FR9.sI (Or.inr (Or.inl rfl))))
          have f6' : FR6 r4 r12 := f10.tr (by rw [d12zz]; exact FR6.sI (Or.inr (Or.inr (Or.inr rfl))))
          have l14 : gI p13zz 14 = uzz := by rw [g13, g12, g8]; exact c14zz
          have l15 : gI p13zz 15 = uzz + 1 := by rw [g13, g12]; show gI o8zz 15 + 1 = _; rw [k15']
          have l9 : gI r12 9 = gA p3zz 12 mzz - 48 := by rw [d12zz]; rfl
          have l17 : gL p13zz 17 = ((gL o8zz 17 * (10 : Int64)) + (gA p3zz 12 mzz).toInt64) - (48 : Int64) := by rw [g13, g12]; rfl
          have m1zz : ((gL o8zz 17) * (10 : Int64)).toInt = 0 * 10 := i64_mul (by rw [k17']; decide) (by decide) (by omega) (by omega)
          have m2zz : (((gL o8zz 17) * (10 : Int64)) + (gA p3zz 12 mzz).toInt64).toInt = 0 * 10 + (gA p3zz 12 mzz).toInt := i64_add m1zz (Int32.toInt_toInt64 _) (by omega) (by omega)
          have m3zz := i64_sub (y := (48 : Int64)) (b := 48) m2zz (by decide) (by omega) (by omega)
          have m4zz : (gA p3zz 12 mzz - 48).toInt = (gA p3zz 12 mzz).toInt - 48 := i32_sub rfl (by decide) (by omega) (by omega)
          have nv : NV (gI r12 9) (gL p13zz 17) := by
            rw [l9, l17]
            exact ⟨by rw [m3zz]; omega, by rw [m3zz]; omega, Or.inl ⟨by rw [m3zz]; omega, by rw [m3zz, m4zz]; omega⟩⟩
          obtain ⟨v1zz, v2, v3, v4zz⟩ := tk_nb (azz := mzz) zfu 99999 r12 p13zz 1 (z4.fr f6' f9') (by rw [d12zz, d10zz]; rfl) (by rw [g13, g12]; exact e16zz) (by rw [l14, d12zz, d10zz]; exact s7) (by rw [l15, d12zz, d10zz]; exact s8) (by rw [l14]; exact q4zz) (by rw [l15]; omega) (by omega) (by rw [f9'.1 13 (by decide) (by decide) (by decide), c13zz]; omega) nv q1zz q2zz
          exact ⟨v1zz, f6zz.tr (f6'.tr v2), f9zz.tr (f9'.tr v3), by rw [v4zz, l14]; omega⟩
    · exact absurd y2 x2zz
    · exact absurd x2zz y2
    · obtain ⟨r18, d18zz, q1zz⟩ := z_lt (z_f q1zz x1')
      have q2zz := z_f q2zz y1
      unfold bk_X9_next_114 at q2zz
      obtain ⟨o8zz, g8, q2zz⟩ := z_lt q2zz
      have e16zz : gI o8zz 16 = 1 := by rw [g8]; rfl
      have q2zz := z_f q2zz (by rw [e16zz]; decide)
      have q2zz : lb_X9_next_149 (lp_X9_next_149 99999) o8zz = some o' := q2zz
      unfold lb_X9_next_149 at q2zz
      have q2zz := z_t q2zz e16zz
      have f8zz : FR9 p3zz o8zz := by rw [g8]; exact FR9.sI (Or.inr (Or.inr rfl))
      have k13' := f8zz.1 13 (by decide) (by decide) (by decide)
      have k14' : gI o8zz 14 = uzz := by rw [g8]; exact c14zz
      have k15' : gI o8zz 15 = uzz := by rw [g8]; exact c15zz
      have k17' : gL o8zz 17 = 0 := by rw [g8]; exact c17
      rw [k13', k15'] at q2zz
      have q2zz := z_f q2zz (fun wzz => by have wzz := cv_le (a := (gI p3zz 13).toInt) (b := (mzz : Int)) rfl q4zz wzz; omega)
      obtain ⟨-, q2zz⟩ := z_gd q2zz
      obtain ⟨w15, ew15, q2zz⟩ := z_bd q2zz
      rw [iu, f8zz.gA 12] at ew15 q2zz
      rcases lt9 ew15 with ⟨t3zz, t4zz⟩ | ⟨t3zz, t4zz⟩
      · exact absurd y2 t4zz
      · have q2zz := z_f q2zz t3zz
        have hdzz : (uzz - gI o8zz 14).toInt = (mzz : Int) - (mzz : Int) := by rw [k14']; exact i32_sub q4zz q4zz (by omega) (by omega)
        have q2zz := z_f q2zz (fun wzz => by have wzz := cv_le (a := 10) (b := (mzz : Int) - (mzz : Int)) (by decide) hdzz wzz; omega)
        obtain ⟨-, q2zz⟩ := z_gd q2zz
        unfold bk_X9_next_227 at q2zz
        obtain ⟨p12, g12, q2zz⟩ := z_lt q2zz
        obtain ⟨p13zz, g13, q2zz⟩ := z_lt q2zz
        have f9' : FR9 p3zz p13zz := f8zz.tr (FR9.tr (o' := p12) (by rw [g12]; exact FR9.sL) (by rw [g13]; exact FR9.sI (Or.inr (Or.inl rfl))))
        have f6' : FR6 r4 r18 := by rw [d18zz]; exact FR6.sI (Or.inl rfl)
        have l14 : gI p13zz 14 = uzz := by rw [g13, g12]; exact k14'
        have l15 : gI p13zz 15 = uzz + 1 := by rw [g13, g12]; show gI o8zz 15 + 1 = _; rw [k15']
        have l17 : gL p13zz 17 = ((gL o8zz 17 * (32 : Int64)) + (gA p3zz 12 mzz).toInt64) - (96 : Int64) := by rw [g13, g12]; rfl
        have m1zz : ((gL o8zz 17) * (32 : Int64)).toInt = 0 * 32 := i64_mul (by rw [k17']; decide) (by decide) (by omega) (by omega)
        have m2zz : (((gL o8zz 17) * (32 : Int64)) + (gA p3zz 12 mzz).toInt64).toInt = 0 * 32 + (gA p3zz 12 mzz).toInt := i64_add m1zz (Int32.toInt_toInt64 _) (by omega) (by omega)
        have m3zz := i64_sub (y := (96 : Int64)) (b := 96) m2zz (by decide) (by omega) (by omega)
        have lt1 : ltr (gA p13zz 12) mzz 1 := fun izz hizz => by
          have ezz : mzz + izz = mzz := by omega
          rw [ezz, f9'.gA 12]; exact y2
        have wv : WVl (gA p13zz 12) mzz 1 (gL p13zz 17) := by
          refine ⟨fun _ => ?_, fun qzz => by omega⟩
          rw [l17, m3zz, f9'.gA 12]
          show _ = (0 : Int) * 32 + ((gA p3zz 12 (mzz + 0)).toInt - 96)
          have ezz : mzz + 0 = mzz := rfl
          rw [ezz]; omega
        obtain ⟨v1zz, v2, v3, v4zz⟩ := tk_wd (azz := mzz) zfu 99999 r18 p13zz 1 (z4.fr f6' f9') (by rw [d18zz]; rfl) (by rw [g13, g12]; exact e16zz) (by rw [l14, d18zz]; exact s7) (by rw [l15, d18zz]; exact s8) (by rw [l14]; exact q4zz) (by rw [l15]; omega) (by omega) (by rw [f9'.1 13 (by decide) (by decide) (by decide), c13zz]; omega) lt1 wv q1zz q2zz
        exact ⟨v1zz, f6zz.tr (f6'.tr v2), f9zz.tr (f9'.tr v3), by rw [v4zz, l14]; omega⟩
def mat (gzz : Nat → Int32) (azz : Nat) : List Int → Prop
  | [] => True
  | d :: rzz => (gzz (azz + rzz.length)).toInt = 96 + d ∧ mat gzz azz rzz
def codR : List Int → Int
  | [] => 0
  | d :: rzz => codR rzz * 32 + d
def dig (R : List Int) : Prop := ∀ d ∈ R, 1 ≤ d ∧ d ≤ 26
set_option maxHeartbeats 200000 in
theorem codR_nn : ∀ (R : List Int), dig R → 0 ≤ codR R := by
  intro R
  induction R with
  | nil => intro _; exact Int.le_refl _
  | cons d rzz ihzz =>
    intro hzz
    have h1 := ihzz (fun xzz hx => hzz xzz (List.mem_cons_of_mem _ hx))
    have h2 := hzz d (List.mem_cons_self ..)
    show 0 ≤ codR rzz * 32 + d
    omega
set_option maxHeartbeats 200000 in
theorem cod_nn {gzz : Nat → Int32} {azz : Nat} : ∀ n, ltr gzz azz n → 0 ≤ cod gzz azz n := by
  intro n
  induction n with
  | zero => intro _; exact Int.le_refl _
  | succ n ihzz =>
    intro hl
    have hzz := ihzz (fun izz hizz => hl izz (by omega))
    have l := hl n (by omega)
    show 0 ≤ cod gzz azz n * 32 + ((gzz (azz + n)).toInt - 96)
    omega
set_option maxHeartbeats 200000 in
theorem cod_mat {gzz : Nat → Int32} {azz : Nat} : ∀ (R : List Int) (n : Nat), dig R → ltr gzz azz n → (cod gzz azz n = codR R ↔ n = R.length ∧ mat gzz azz R) := by
  intro R
  induction R with
  | nil =>
    intro n _ hl
    cases n with
    | zero => exact ⟨fun _ => ⟨rfl, trivial⟩, fun _ => rfl⟩
    | succ n =>
      have hzz := cod_nn (gzz := gzz) (azz := azz) n (fun izz hizz => hl izz (by omega))
      have l := hl n (by omega)
      refine ⟨fun qzz => ?_, fun qzz => ?_⟩
      · have qzz : cod gzz azz n * 32 + ((gzz (azz + n)).toInt - 96) = 0 := qzz
        omega
      · exact absurd qzz.1 (Nat.succ_ne_zero _)
  | cons d rzz ihzz =>
    intro n hdzz hl
    have h2 := hdzz d (List.mem_cons_self ..)
    have hr := codR_nn rzz (fun xzz hx => hdzz xzz (List.mem_cons_of_mem _ hx))
    cases n with
    | zero =>
      refine ⟨fun qzz => ?_, fun qzz => ?_⟩
      · have qzz : (0 : Int) = codR rzz * 32 + d := qzz
        omega
      · exact absurd qzz.1.symm (by rw [List.length_cons]; exact Nat.succ_ne_zero _)
    | succ n =>
      have hzz := ihzz n (fun xzz hx => hdzz xzz (List.mem_cons_of_mem _ hx)) (fun izz hizz => hl izz (by omega))
      have l := hl n (by omega)
      refine ⟨fun qzz => ?_, fun qzz => ?_⟩
      · have qzz : cod gzz azz n * 32 + ((gzz (azz + n)).toInt - 96) = codR rzz * 32 + d := qzz
        have q1zz : cod gzz azz n = codR rzz := by omega
        have q2zz := hzz.mp q1zz
        refine ⟨by rw [List.length_cons, q2zz.1], ?_, q2zz.2⟩
        rw [← q2zz.1]; omega
      · have ezz : n = rzz.length := by have := qzz.1; rw [List.length_cons] at this; omega
        have q1zz := hzz.mpr ⟨ezz, qzz.2.2⟩
        have q3zz : (gzz (azz + rzz.length)).toInt = 96 + d := qzz.2.1
        show cod gzz azz n * 32 + ((gzz (azz + n)).toInt - 96) = codR rzz * 32 + d
        rw [q1zz, ezz, q3zz]; omega
def IsW (o : Ob) (R : List Int) : Prop := gI o 16 = 1 ∧ ∃ azz : Nat, (gI o 14).toInt = (azz : Int) ∧ (gI o 15).toInt = ((azz + R.length : Nat) : Int) ∧ mat (gA o 12) azz R
set_option maxHeartbeats 200000 in
theorem IsW.cd {rd o : Ob} {R : List Int} (hzz : TT rd o) (hdzz : dig R) (hl : R.length ≤ 10) : IsW o R ↔ (gI o 16 = 1 ∧ (gL o 17).toInt = codR R) := by
  obtain ⟨-, -, -, -, azz, bzz, ea, eb, hab, hbzz, hx⟩ := hzz
  have hn := codR_nn R hdzz
  rcases hx with ⟨qzz, -⟩ | ⟨qzz, hlt, hl1, hw⟩ | ⟨qzz, -⟩ | ⟨qzz, -⟩
  · exact ⟨fun wzz => absurd (qzz.symm.trans wzz.1) (by decide), fun wzz => absurd (qzz.symm.trans wzz.1) (by decide)⟩
  · have keyzz := cod_mat R (bzz - azz) hdzz hl1
    refine ⟨fun wzz => ⟨qzz, ?_⟩, fun wzz => ⟨qzz, azz, ea, ?_, ?_⟩⟩
    · obtain ⟨-, a', ea', eb', mzz⟩ := wzz
      have ezz : a' = azz := by omega
      rw [ezz] at mzz eb'
      have e2zz : bzz - azz = R.length := by omega
      rw [hw.1 (by omega)]
      exact keyzz.mpr ⟨e2zz, mzz⟩
    · have e2zz : bzz - azz ≤ 10 := by
        rcases (show bzz - azz ≤ 10 ∨ 10 < bzz - azz by omega) with uzz | uzz
        · exact uzz
        · have := hw.2 uzz; omega
      have mzz := keyzz.mp ((hw.1 e2zz).symm.trans wzz.2)
      omega
    · have e2zz : bzz - azz ≤ 10 := by
        rcases (show bzz - azz ≤ 10 ∨ 10 < bzz - azz by omega) with uzz | uzz
        · exact uzz
        · have := hw.2 uzz; omega
      exact (keyzz.mp ((hw.1 e2zz).symm.trans wzz.2)).2
  · exact ⟨fun wzz => absurd (qzz.symm.trans wzz.1) (by decide), fun wzz => absurd (qzz.symm.trans wzz.1) (by decide)⟩
  · exact ⟨fun wzz => absurd (qzz.symm.trans wzz.1) (by decide), fun wzz => absurd (qzz.symm.trans wzz.1) (by decide)⟩
set_option maxHeartbeats 200000 in
theorem w9 {rd o : Ob} {R : List Int} {Czz : Int64} {zzz : Int32} (hzz : TT rd o) (hdzz : dig R) (hl : R.length ≤ 10) (hC : Czz.toInt = codR R) (hz : f_X9_isWord o Czz = some zzz) : (zzz = 0 ∧ ¬ IsW o R) ∨ (¬ zzz = 0 ∧ IsW o R) := by
  have keyzz := IsW.cd hzz hdzz hl
  unfold f_X9_isWord at hz
  by_cases czz : gI o 16 = 1
  · have hz := z_t hz czz
    by_cases gzz : lg_cmp (gL o 17) Czz = 0
    · have ezz := cvl_eq (a := (gL o 17).toInt) (b := codR R) rfl hC gzz
      exact Or.inr ⟨by rw [← Option.some.inj (z_t hz gzz)]; decide, keyzz.mpr ⟨czz, ezz⟩⟩
    · have ezz := cvl_ne (a := (gL o 17).toInt) (b := codR R) rfl hC gzz
      exact Or.inl ⟨(Option.some.inj (z_f hz gzz)).symm, fun wzz => ezz (keyzz.mp wzz).2⟩
  · exact Or.inl ⟨(Option.some.inj (z_f hz czz)).symm, fun wzz => czz wzz.1⟩
set_option maxHeartbeats 200000 in
theorem IsW.ne {rd o : Ob} {R R' : List Int} (hzz : TT rd o) (hdzz : dig R) (hl : R.length ≤ 10) (hd' : dig R') (hl' : R'.length ≤ 10) (hne : codR R ≠ codR R') (wzz : IsW o R) : ¬ IsW o R' := fun w' => hne (((IsW.cd hzz hdzz hl).mp wzz).2.symm.trans ((IsW.cd hzz hd' hl').mp w').2)
def chT (t kzz : Nat) : Int32 := (btS.getD t []).getD kzz 0
def mcb (t fzz : Nat) : List Int → Bool
  | [] => true
  | d :: rzz => decide ((chT t (fzz + rzz.length)).toInt = 96 + d) && mcb t fzz rzz
set_option maxHeartbeats 200000 in
theorem mcb_mat {gzz : Nat → Int32} {t fzz azz : Nat} : ∀ (R : List Int), mcb t fzz R = true → ((∀ izz, izz < R.length → gzz (azz + izz) = chT t (fzz + izz)) ↔ mat gzz azz R) := by
  intro R
  induction R with
  | nil => intro _; exact ⟨fun _ => trivial, fun _ izz hizz => absurd hizz (Nat.not_lt_zero _)⟩
  | cons d rzz ihzz =>
    intro hzz
    have hzz : (decide ((chT t (fzz + rzz.length)).toInt = 96 + d) && mcb t fzz rzz) = true := hzz
    obtain ⟨h1, h2⟩ := Bool.and_eq_true_iff.mp hzz
    have h1 := of_decide_eq_true h1
    have h2 := ihzz h2
    refine ⟨fun qzz => ⟨?_, h2.mp (fun izz hizz => qzz izz (by rw [List.length_cons]; omega))⟩, fun qzz izz hizz => ?_⟩
    · rw [qzz rzz.length (by rw [List.length_cons]; omega)]; exact h1
    · rw [List.length_cons] at hizz
      by_cases ezz : izz = rzz.length
      · rw [ezz]; exact Int32.toInt_inj.mp (qzz.1.trans h1.symm)
      · exact h2.mpr qzz.2 izz (by omega)
set_option maxHeartbeats 200000 in
theorem sm_lp {rd : Ob} {t fzz azz L : Nat} {v2 v4zz zzz : Int32} (ht : t < 9) (ea : (gI rd 7).toInt = (azz : Int)) (hL : azz + L ≤ 400) (e2zz : v2.toInt = (fzz : Int)) (hf : fzz + L ≤ lnS.getD t 0) (e4zz : v4zz.toInt = (L : Int)) : ∀ (Nzz : Nat) (v5 : Int32) (izz : Nat), v5.toInt = (izz : Int) → izz ≤ L → lp_X6_isSame_53 rd Nzz (t, v2, v4zz, v5) = some zzz →
    (zzz = 0 ∧ ∃ jzz, izz ≤ jzz ∧ jzz < L ∧ ¬ gA rd 0 (azz + jzz) = chT t (fzz + jzz)) ∨ (zzz = 1 ∧ ∀ jzz, izz ≤ jzz → jzz < L → gA rd 0 (azz + jzz) = chT t (fzz + jzz)) := by
  have hl := ln_le t ht
  intro Nzz
  induction Nzz with
  | zero => intro v5 izz _ _ hzz; cases hzz
  | succ Nzz ihzz =>
    intro v5 izz e5zz hizz hzz
    have hzz : lb_X6_isSame_53 rd (lp_X6_isSame_53 rd Nzz) t v2 v4zz v5 = some zzz := hzz
    unfold lb_X6_isSame_53 at hzz
    by_cases czz : v4zz ≤ v5
    · have d := cv_le (a := (L : Int)) (b := (izz : Int)) e4zz e5zz czz
      exact Or.inr ⟨(Option.some.inj (z_t hzz czz)).symm, fun jzz q1zz q2zz => by omega⟩
    · have d := cv_nle (a := (L : Int)) (b := (izz : Int)) e4zz e5zz czz
      obtain ⟨-, hzz⟩ := z_gd (z_f hzz czz)
      obtain ⟨-, hzz⟩ := z_gd hzz
      obtain ⟨z5, ez, hzz⟩ := z_bd hzz
      have t1zz : ((gI rd 7) + v5).toInt = (azz : Int) + (izz : Int) := i32_add ea e5zz (by omega) (by omega)
      have i1zz : ((gI rd 7) + v5).toNatClampNeg = azz + izz := tnc_eq (by omega)
      have t2zz : (v2 + v5).toInt = (fzz : Int) + (izz : Int) := i32_add e2zz e5zz (by omega) (by omega)
      have ek : v2 + v5 = Int32.ofNat (fzz + izz) := by
        refine Int32.toInt_inj.mp ?_
        rw [Int32.toInt_ofNat_of_lt (by omega), t2zz]
        omega
      rw [ek, tx_chr t ht (fzz + izz) (by omega)] at ez
      have ez : chT t (fzz + izz) = z5 := Option.some.inj ez
      rw [i1zz, ← ez] at hzz
      by_cases gzz : gA rd 0 (azz + izz) = chT t (fzz + izz)
      · obtain ⟨x7, e7zz, hzz⟩ := z_lt (z_t hzz gzz)
        have t7 : x7.toInt = (izz : Int) + 1 := by rw [e7zz]; exact i32_add e5zz (by decide) (by omega) (by omega)
        rcases ihzz x7 (izz + 1) (by omega) (by omega) hzz with ⟨q1zz, jzz, q2zz, q3zz, q4zz⟩ | ⟨q1zz, q2zz⟩
        · exact Or.inl ⟨q1zz, jzz, by omega, q3zz, q4zz⟩
        · refine Or.inr ⟨q1zz, fun jzz u1zz u2zz => ?_⟩
          by_cases wzz : jzz = izz
          · rw [wzz]; exact gzz
          · exact q2zz jzz (by omega) u2zz
      · exact Or.inl ⟨(Option.some.inj (z_f hzz gzz)).symm, izz, Nat.le_refl _, by omega, gzz⟩
set_option maxHeartbeats 200000 in
theorem same8 {rd o : Ob} {t fzz : Nat} {R : List Int} {p1zz p2zz zzz : Int32} (hzz : TT rd o) (h1 : gI o 16 = 1) (ht : t < 9) (e1zz : p1zz.toInt = (fzz : Int)) (e2zz : p2zz.toInt = ((fzz + R.length : Nat) : Int)) (hf : fzz + R.length ≤ lnS.getD t 0) (hmzz : mcb t fzz R = true) (hz : f_X6_isSame rd t p1zz p2zz = some zzz) : (zzz = 0 ∧ ¬ IsW o R) ∨ (¬ zzz = 0 ∧ IsW o R) := by
  obtain ⟨hz0, e6zz, e7zz, e8, azz, bzz, ea, eb, hab, hbzz, -⟩ := hzz
  have h400 := hz0.2.2.2
  have hl := ln_le t ht
  unfold f_X6_isSame at hz
  obtain ⟨x1zz, exzz, hz⟩ := z_lt hz
  have tx : x1zz.toInt = ((fzz + R.length : Nat) : Int) - (fzz : Int) := by rw [exzz]; exact i32_sub e2zz e1zz (by omega) (by omega)
  have hz := z_f hz (fun czz => by have czz := cv_lt (a := (fzz : Int)) (b := 0) e1zz (by decide) czz; omega)
  obtain ⟨-, hz⟩ := z_gd hz
  obtain ⟨z2, ez2, hz⟩ := z_bd hz
  rw [tx_len t ht] at ez2
  have t2zz : z2.toInt = (lnS.getD t 0 : Int) := by rw [← Option.some.inj ez2]; exact Int32.toInt_ofNat_of_lt (by omega)
  have hz := z_f hz (fun czz => by have czz := cv_lt (a := (lnS.getD t 0 : Int)) (b := ((fzz + R.length : Nat) : Int)) t2zz e2zz czz; omega)
  rw [e7zz, e8] at hz
  have td : (gI o 15 - gI o 14).toInt = (bzz : Int) - (azz : Int) := i32_sub eb ea (by omega) (by omega)
  by_cases czz : x1zz = gI o 15 - gI o 14
  · have d := cv_eq (a := ((fzz + R.length : Nat) : Int) - (fzz : Int)) (b := (bzz : Int) - (azz : Int)) tx td czz
    have hz := z_f (z_t hz czz) (fun czz => by have czz := cv_lt (a := (azz : Int)) (b := 0) ea (by decide) czz; omega)
    have hz := z_t hz (Int32.le_iff_toInt_le.mpr (by have : (400 : Int32).toInt = 400 := (by decide); omega))
    have keyzz := mcb_mat (gzz := gA o 12) (azz := azz) R hmzz
    rcases sm_lp (azz := azz) (fzz := fzz) (L := R.length) ht (by rw [e7zz]; exact ea) (by omega) e1zz hf (by omega) _ _ 0 (by decide) (Nat.zero_le _) hz with ⟨q1zz, jzz, -, q2zz, q3zz⟩ | ⟨q1zz, q2zz⟩
    · refine Or.inl ⟨q1zz, fun wzz => ?_⟩
      obtain ⟨-, a', ea', -, mzz⟩ := wzz
      have ezz : a' = azz := by omega
      rw [ezz] at mzz
      rw [hz0.2.1] at q3zz
      exact q3zz (keyzz.mpr mzz jzz q2zz)
    · refine Or.inr ⟨by rw [q1zz]; decide, h1, azz, ea, by omega, keyzz.mp (fun izz hizz => ?_)⟩
      rw [← hz0.2.1]; exact q2zz izz (Nat.zero_le _) hizz
  · have d := cv_ne (a := ((fzz + R.length : Nat) : Int) - (fzz : Int)) (b := (bzz : Int) - (azz : Int)) tx td czz
    refine Or.inl ⟨(Option.some.inj (z_f hz czz)).symm, fun wzz => ?_⟩
    obtain ⟨-, a', ea', eb', -⟩ := wzz
    omega
def chnT (t fzz : Nat) : List (List Int) → Bool
  | [] => false
  | [R] => mcb t fzz R && decide (fzz + R.length = lnS.getD t 0) && R.all (fun d => decide (1 ≤ d ∧ d ≤ 26)) && decide (R.length ≤ 10)
  | R :: R' :: wszz => mcb t fzz R && decide (fzz + R.length < lnS.getD t 0) && decide (chT t (fzz + R.length) = 32) && R.all (fun d => decide (1 ≤ d ∧ d ≤ 26)) && decide (R.length ≤ 10) && chnT t (fzz + R.length + 1) (R' :: wszz)
set_option maxHeartbeats 200000 in
theorem mcb_ns {t fzz : Nat} : ∀ (R : List Int), mcb t fzz R = true → dig R → ∀ izz, izz < R.length → ¬ chT t (fzz + izz) = 32 := by
  intro R
  induction R with
  | nil => intro _ _ izz hizz; exact absurd hizz (Nat.not_lt_zero _)
  | cons d rzz ihzz =>
    intro hzz hdzz izz hizz
    have hzz : (decide ((chT t (fzz + rzz.length)).toInt = 96 + d) && mcb t fzz rzz) = true := hzz
    obtain ⟨h1, h2⟩ := Bool.and_eq_true_iff.mp hzz
    have h1 := of_decide_eq_true h1
    rw [List.length_cons] at hizz
    by_cases ezz : izz = rzz.length
    · intro qzz
      rw [ezz] at qzz
      rw [qzz] at h1
      have := hdzz d (List.mem_cons_self ..)
      have e32 : (32 : Int32).toInt = 32 := by decide
      omega
    · exact ihzz h2 (fun xzz hx => hdzz xzz (List.mem_cons_of_mem _ hx)) izz (by omega)
set_option maxHeartbeats 200000 in
theorem wo_to {rd : Ob} {t fzz L : Nat} {v2 v3 zzz : Int32} (ht : t < 9) (hf : fzz + L ≤ lnS.getD t 0) (hns : ∀ izz, izz < L → ¬ chT t (fzz + izz) = 32) (hend : fzz + L = lnS.getD t 0 ∨ chT t (fzz + L) = 32) : ∀ (Nzz : Nat) (v4zz : Int32) (izz : Nat), v4zz.toInt = ((fzz + izz : Nat) : Int) → izz ≤ L → lp_X6_wordOf_17 rd Nzz (t, v2, v3, v4zz) = some zzz → ∃ (N' : Nat) (xzz : Int32), xzz.toInt = ((fzz + L : Nat) : Int) ∧ bk_X6_wordOf_46 rd (lp_X6_wordOf_17 rd N') t v2 v3 xzz = some zzz := by
  have hl := ln_le t ht
  intro Nzz
  induction Nzz with
  | zero => intro v4zz izz _ _ hzz; cases hzz
  | succ Nzz ihzz =>
    intro v4zz izz e4zz hizz hzz
    have hzz : lb_X6_wordOf_17 rd (lp_X6_wordOf_17 rd Nzz) t v2 v3 v4zz = some zzz := hzz
    unfold lb_X6_wordOf_17 at hzz
    obtain ⟨-, hzz⟩ := z_gd hzz
    obtain ⟨z1, ez1, hzz⟩ := z_bd hzz
    rw [tx_len t ht] at ez1
    have t1zz : z1.toInt = (lnS.getD t 0 : Int) := by rw [← Option.some.inj ez1]; exact Int32.toInt_ofNat_of_lt (by omega)
    have hzz := z_f hzz (fun czz => by have czz := cv_lt (a := (lnS.getD t 0 : Int)) (b := ((fzz + izz : Nat) : Int)) t1zz e4zz czz; omega)
    obtain ⟨-, hzz⟩ := z_gd hzz
    obtain ⟨z3, ez3, hzz⟩ := z_bd hzz
    rw [tx_len t ht] at ez3
    have t3zz : z3.toInt = (lnS.getD t 0 : Int) := by rw [← Option.some.inj ez3]; exact Int32.toInt_ofNat_of_lt (by omega)
    by_cases czz : v4zz = z3
    · have d := cv_eq (a := ((fzz + izz : Nat) : Int)) (b := (lnS.getD t 0 : Int)) e4zz t3zz czz
      have ezz : izz = L := by omega
      rw [ezz] at e4zz
      exact ⟨Nzz, v4zz, e4zz, z_t hzz czz⟩
    · have d := cv_ne (a := ((fzz + izz : Nat) : Int)) (b := (lnS.getD t 0 : Int)) e4zz t3zz czz
      obtain ⟨-, hzz⟩ := z_gd (z_f hzz czz)
      obtain ⟨z9, ez9, hzz⟩ := z_bd hzz
      have ek : v4zz = Int32.ofNat (fzz + izz) := by
        refine Int32.toInt_inj.mp ?_
        rw [Int32.toInt_ofNat_of_lt (by omega), e4zz]
      rw [ek, tx_chr t ht (fzz + izz) (by omega)] at ez9
      have ez9 : chT t (fzz + izz) = z9 := Option.some.inj ez9
      rw [← ez9] at hzz
      by_cases ezz : izz = L
      · rw [ezz] at hzz e4zz
        rcases hend with qzz | qzz
        · omega
        · exact ⟨Nzz, v4zz, e4zz, z_t hzz qzz⟩
      · have hzz := z_f hzz (hns izz (by omega))
        unfold bk_X6_wordOf_67 at hzz
        obtain ⟨x8, e8, hzz⟩ := z_lt hzz
        have t8 : x8.toInt = ((fzz + izz : Nat) : Int) + 1 := by rw [e8]; exact i32_add e4zz (by decide) (by omega) (by omega)
        exact ihzz x8 (izz + 1) (by omega) (by omega) hzz
set_option maxHeartbeats 200000 in
theorem all_dig {R : List Int} (hzz : R.all (fun d => decide (1 ≤ d ∧ d ≤ 26)) = true) : dig R := fun d hdzz => of_decide_eq_true (List.all_eq_true.mp hzz d hdzz)
set_option maxHeartbeats 200000 in
theorem wo_lp {rd o : Ob} {t : Nat} {zzz : Int32} (hzz : TT rd o) (h1 : gI o 16 = 1) (ht : t < 9) : ∀ (wszz : List (List Int)) (Nzz fzz wzz : Nat) (v2 v3 v4zz : Int32), chnT t fzz wszz = true → v2.toInt = (wzz : Int) → wzz + wszz.length ≤ 100 → v3.toInt = (fzz : Int) → v4zz.toInt = (fzz : Int) → lp_X6_wordOf_17 rd Nzz (t, v2, v3, v4zz) = some zzz →
    (∃ (jzz : Nat) (R : List Int), wszz[jzz]? = some R ∧ zzz.toInt = ((wzz + jzz : Nat) : Int) ∧ IsW o R) ∨ (zzz = -1 ∧ ∀ R ∈ wszz, ¬ IsW o R) := by
  have hl := ln_le t ht
  intro wszz
  induction wszz with
  | nil => intro Nzz fzz wzz v2 v3 v4zz hczz; cases hczz
  | cons R wszz ihzz =>
    intro Nzz fzz wzz v2 v3 v4zz hczz e2zz hw e3zz e4zz hz
    have hcc : mcb t fzz R = true ∧ dig R ∧ fzz + R.length ≤ lnS.getD t 0 ∧ (fzz + R.length = lnS.getD t 0 ∧ wszz = [] ∨ fzz + R.length < lnS.getD t 0 ∧ chT t (fzz + R.length) = 32 ∧ chnT t (fzz + R.length + 1) wszz = true) := by
      cases wszz with
      | nil =>
        have hczz : (mcb t fzz R && decide (fzz + R.length = lnS.getD t 0) && R.all (fun d => decide (1 ≤ d ∧ d ≤ 26)) && decide (R.length ≤ 10)) = true := hczz
        obtain ⟨hczz, -⟩ := Bool.and_eq_true_iff.mp hczz
        obtain ⟨hczz, c3zz⟩ := Bool.and_eq_true_iff.mp hczz
        obtain ⟨c1zz, c2zz⟩ := Bool.and_eq_true_iff.mp hczz
        have c2zz := of_decide_eq_true c2zz
        exact ⟨c1zz, all_dig c3zz, by omega, Or.inl ⟨c2zz, rfl⟩⟩
      | cons R' wszz =>
        have hczz : (mcb t fzz R && decide (fzz + R.length < lnS.getD t 0) && decide (chT t (fzz + R.length) = 32) && R.all (fun d => decide (1 ≤ d ∧ d ≤ 26)) && decide (R.length ≤ 10) && chnT t (fzz + R.length + 1) (R' :: wszz)) = true := hczz
        obtain ⟨hczz, c5zz⟩ := Bool.and_eq_true_iff.mp hczz
        obtain ⟨hczz, -⟩ := Bool.and_eq_true_iff.mp hczz
        obtain ⟨hczz, c4zz⟩ := Bool.and_eq_true_iff.mp hczz
        obtain ⟨hczz, c3zz⟩ := Bool.and_eq_true_iff.mp hczz
        obtain ⟨c1zz, c2zz⟩ := Bool.and_eq_true_iff.mp hczz
        have c2zz := of_decide_eq_true c2zz
        exact ⟨c1zz, all_dig c4zz, by omega, Or.inr ⟨c2zz, of_decide_eq_true c3zz, c5zz⟩⟩
    obtain ⟨hmzz, hdzz, hf, hx⟩ := hcc
    have hnx : fzz + R.length = lnS.getD t 0 ∨ chT t (fzz + R.length) = 32 := by
      rcases hx with ⟨qzz, -⟩ | ⟨-, qzz, -⟩
      · exact Or.inl qzz
      · exact Or.inr qzz
    obtain ⟨N', xzz, exzz, hz⟩ := wo_to (fzz := fzz) (L := R.length) ht hf (mcb_ns R hmzz hdzz) hnx Nzz v4zz 0 (by omega) (Nat.zero_le _) hz
    unfold bk_X6_wordOf_46 at hz
    obtain ⟨z5, ez5, hz⟩ := z_bd hz
    rcases same8 hzz h1 ht e3zz exzz hf hmzz ez5 with ⟨q1zz, q2zz⟩ | ⟨q1zz, q2zz⟩
    · obtain ⟨x6, e6zz, hz⟩ := z_lt (z_t hz q1zz)
      obtain ⟨x7, e7zz, hz⟩ := z_lt hz
      unfold bk_X6_wordOf_67 at hz
      obtain ⟨x8, e8, hz⟩ := z_lt hz
      rw [List.length_cons] at hw
      have t6 : x6.toInt = (wzz : Int) + 1 := by rw [e6zz]; exact i32_add e2zz (by decide) (by omega) (by omega)
      have t7 : x7.toInt = ((fzz + R.length : Nat) : Int) + 1 := by rw [e7zz]; exact i32_add exzz (by decide) (by omega) (by omega)
      have t8 : x8.toInt = ((fzz + R.length : Nat) : Int) + 1 := by rw [e8]; exact i32_add exzz (by decide) (by omega) (by omega)
      rcases hx with ⟨u1zz, u2zz⟩ | ⟨u1zz, u2zz, u3⟩
      · subst u2zz
        have hend : zzz = -1 := by
          cases N' with
          | zero => cases hz
          | succ N' =>
            have hz : lb_X6_wordOf_17 rd (lp_X6_wordOf_17 rd N') t x6 x7 x8 = some zzz := hz
            unfold lb_X6_wordOf_17 at hz
            obtain ⟨-, hz⟩ := z_gd hz
            obtain ⟨z1, ez1, hz⟩ := z_bd hz
            rw [tx_len t ht] at ez1
            have t1zz : z1.toInt = (lnS.getD t 0 : Int) := by rw [← Option.some.inj ez1]; exact Int32.toInt_ofNat_of_lt (by omega)
            exact (Option.some.inj (z_t hz (Int32.lt_iff_toInt_lt.mpr (by omega)))).symm
        refine Or.inr ⟨hend, fun R' hR' => ?_⟩
        rw [List.mem_singleton.mp hR']; exact q2zz
      · rcases ihzz N' (fzz + R.length + 1) (wzz + 1) x6 x7 x8 u3 (by omega) (by omega) (by omega) (by omega) hz with ⟨jzz, R', g1, g2, g3zz⟩ | ⟨g1, g2⟩
        · exact Or.inl ⟨jzz + 1, R', by rw [List.getElem?_cons_succ]; exact g1, by omega, g3zz⟩
        · refine Or.inr ⟨g1, fun R' hR' => ?_⟩
          rcases List.mem_cons.mp hR' with ezz | ezz
          · rw [ezz]; exact q2zz
          · exact g2 R' ezz
    · exact Or.inl ⟨0, R, List.getElem?_cons_zero .., by rw [← Option.some.inj (z_f hz q1zz)]; omega, q2zz⟩
set_option maxHeartbeats 200000 in
theorem wo8 {rd o : Ob} {t : Nat} {wszz : List (List Int)} {zzz : Int32} (hzz : TT rd o) (ht : t < 9) (hczz : chnT t 0 wszz = true) (hw : wszz.length ≤ 20) (hz : f_X6_wordOf rd t = some zzz) : (∃ (jzz : Nat) (R : List Int), wszz[jzz]? = some R ∧ zzz.toInt = (jzz : Int) ∧ IsW o R) ∨ (zzz = -1 ∧ ∀ R ∈ wszz, ¬ IsW o R) := by
  unfold f_X6_wordOf at hz
  rw [hzz.2.1] at hz
  by_cases czz : gI o 16 = 1
  · rcases wo_lp hzz czz ht wszz zfu 0 0 0 0 0 hczz (by decide) (by omega) (by decide) (by decide) (z_t hz czz) with ⟨jzz, R, q1zz, q2zz, q3zz⟩ | qzz
    · exact Or.inl ⟨jzz, R, q1zz, by omega, q3zz⟩
    · exact Or.inr qzz
  · exact Or.inr ⟨(Option.some.inj (z_f hz czz)).symm, fun R _ wzz => czz wzz.1⟩
def tx0 : List (List Int) := [[19, 14, 21, 18], [19, 14, 18, 21, 20], [19, 14, 9, 23], [19, 18, 1, 2]]
set_option maxRecDepth 100000 in
theorem tx0_ok : chnT 0 0 tx0 = true := by decide +kernel
def tx1 : List (List Int) := [[5, 3, 1, 18], [18, 5, 20, 14, 5], [5, 11, 1, 20], [19, 19, 1, 16]]
set_option maxRecDepth 100000 in
theorem tx1_ok : chnT 1 0 tx1 = true := by decide +kernel
def tx2 : List (List Int) := [[19, 5, 13, 9, 20]]
set_option maxRecDepth 100000 in
theorem tx2_ok : chnT 2 0 tx2 = true := by decide +kernel
def tx3 : List (List Int) := [[6, 9]]
set_option maxRecDepth 100000 in
theorem tx3_ok : chnT 3 0 tx3 = true := by decide +kernel
def tx4 : List (List Int) := [[18, 15]]
set_option maxRecDepth 100000 in
theorem tx4_ok : chnT 4 0 tx4 = true := by decide +kernel
def tx5 : List (List Int) := [[4, 14, 1]]
set_option maxRecDepth 100000 in
theorem tx5_ok : chnT 5 0 tx5 = true := by decide +kernel
def tx6 : List (List Int) := [[20, 15, 14]]
set_option maxRecDepth 100000 in
theorem tx6_ok : chnT 6 0 tx6 = true := by decide +kernel
def tx7 : List (List Int) := [[14, 15, 19, 18, 5, 16], [5, 3, 1, 18], [8, 20, 7, 14, 5, 18, 20, 19], [5, 4, 1, 18, 20], [19, 5, 26, 9, 18, 16], [5, 3, 1, 12, 16], [16, 1, 7], [18, 1, 5, 25], [4, 15, 15, 13]]
set_option maxRecDepth 100000 in
theorem tx7_ok : chnT 7 0 tx7 = true := by decide +kernel
def tx8 : List (List Int) := [[18, 1, 5, 25], [5, 14, 15, 4], [20, 19, 5, 20, 1, 12], [16, 1, 7], [4, 5, 18, 5, 20, 14, 5], [19, 5, 26, 9, 18, 16], [5, 4, 1, 18, 20]]
set_option maxRecDepth 100000 in
theorem tx8_ok : chnT 8 0 tx8 = true := by decide +kernel
def bnd (op : Int32) : Int32 := if op < 31 then (if op = 30 then 1 else if op = 29 then 2 else if op = 28 then 3 else if op < 25 then (if op < 22 then 5 else 6) else 4) else 0
set_option maxHeartbeats 200000 in
theorem bnd_eq {op zzz : Int32} (hzz : f_X9_binds op = some zzz) : zzz = bnd op := by
  unfold f_X9_binds at hzz
  unfold bnd
  by_cases c1zz : op < (31 : Int32)
  · have hzz := z_t hzz c1zz
    rw [if_pos c1zz]
    by_cases c2zz : op = (30 : Int32)
    · rw [if_pos c2zz]; exact (Option.some.inj (z_t hzz c2zz)).symm
    · have hzz := z_f hzz c2zz
      rw [if_neg c2zz]
      by_cases c3zz : op = (29 : Int32)
      · rw [if_pos c3zz]; exact (Option.some.inj (z_t hzz c3zz)).symm
      · have hzz := z_f hzz c3zz
        rw [if_neg c3zz]
        by_cases c4zz : op = (28 : Int32)
        · rw [if_pos c4zz]; exact (Option.some.inj (z_t hzz c4zz)).symm
        · have hzz := z_f hzz c4zz
          rw [if_neg c4zz]
          by_cases c5zz : op < (25 : Int32)
          · have hzz := z_t hzz c5zz
            rw [if_pos c5zz]
            by_cases c6zz : op < (22 : Int32)
            · rw [if_pos c6zz]; exact (Option.some.inj (z_t hzz c6zz)).symm
            · rw [if_neg c6zz]; exact (Option.some.inj (z_f hzz c6zz)).symm
          · rw [if_neg c5zz]; exact (Option.some.inj (z_f hzz c5zz)).symm
  · rw [if_neg c1zz]; exact (Option.some.inj (z_f hzz c1zz)).symm
def FP (o o' : Ob) : Prop := (∀ izz, izz ≠ 23 → izz ≠ 29 → gI o' izz = gI o izz) ∧ o'.2.1 = o.2.1 ∧ (∀ izz, izz ≠ 24 → izz ≠ 25 → gA o' izz = gA o izz) ∧ o'.2.2.2 = o.2.2.2
set_option maxHeartbeats 200000 in
theorem FP.rf {o : Ob} : FP o o := ⟨fun _ _ _ => rfl, rfl, fun _ _ _ => rfl, rfl⟩
set_option maxHeartbeats 200000 in
theorem FP.tr {o o' o'' : Ob} (hzz : FP o o') (h' : FP o' o'') : FP o o'' := ⟨fun izz azz bzz => (h'.1 izz azz bzz).trans (hzz.1 izz azz bzz), h'.2.1.trans hzz.2.1, fun izz azz bzz => (h'.2.2.1 izz azz bzz).trans (hzz.2.2.1 izz azz bzz), h'.2.2.2.trans hzz.2.2.2⟩
def ckp (kzz : Nat) (o o' : Ob) : Prop := ∀ jzz, jzz < kzz → gA o' 24 jzz = gA o 24 jzz ∧ gA o' 25 jzz = gA o 25 jzz
set_option maxHeartbeats 200000 in
theorem ckp.rf {kzz : Nat} {o : Ob} : ckp kzz o o := fun _ _ => ⟨rfl, rfl⟩
set_option maxHeartbeats 200000 in
theorem ckp.tr {kzz : Nat} {o o' o'' : Ob} (hzz : ckp kzz o o') (h' : ckp kzz o' o'') : ckp kzz o o'' := fun jzz hj => ⟨(h' jzz hj).1.trans (hzz jzz hj).1, (h' jzz hj).2.trans (hzz jzz hj).2⟩
set_option maxHeartbeats 200000 in
theorem ckp.le {kzz k' : Nat} {o o' : Ob} (hzz : ckp kzz o o') (hk : k' ≤ kzz) : ckp k' o o' := fun jzz hj => hzz jzz (by omega)
set_option maxHeartbeats 200000 in
theorem emit9 {o o' : Ob} {p0zz p1zz : Int32} {czz : Nat} (ec : (gI o 23).toInt = (czz : Int)) (hczz : czz ≤ 400) (hzz : f_X9_emit o p0zz p1zz = some o') : FP o o' ∧ ckp czz o o' ∧ (gI o' 23).toInt = (czz : Int) + 1 ∧ gI o' 29 = gI o 29 ∧ gA o' 24 czz = p0zz ∧ gA o' 25 czz = p1zz ∧ czz < 400 := by
  unfold f_X9_emit at hzz
  obtain ⟨gzz, hzz⟩ := z_gd hzz
  obtain ⟨o2, e2zz, hzz⟩ := z_lt hzz
  obtain ⟨-, hzz⟩ := z_gd hzz
  obtain ⟨o4zz, e4zz, hzz⟩ := z_lt hzz
  obtain ⟨o5zz, e5zz, hzz⟩ := z_lt hzz
  have gk := (of_decide_eq_true gzz).2
  have ic : (gI o 23).toNatClampNeg = czz := tnc_eq ec
  have k2zz : gI o2 23 = gI o 23 := by rw [e2zz]; rfl
  rw [ic] at e2zz
  rw [k2zz, ic] at e4zz
  rw [← Option.some.inj hzz]
  have k23 : gI o5zz 23 = gI o 23 + 1 := by rw [e5zz, e4zz, e2zz]; rfl
  refine ⟨⟨fun izz azz bzz => ?_, by rw [e5zz, e4zz, e2zz]; rfl, fun izz azz bzz => ?_, by rw [e5zz, e4zz, e2zz]; rfl⟩, fun jzz hj => ⟨?_, ?_⟩, ?_, by rw [e5zz, e4zz, e2zz]; rfl, ?_, ?_, by omega⟩
  · rw [e5zz]; exact (fset_ne azz).trans (by rw [e4zz, e2zz]; rfl)
  · rw [e5zz, e4zz, e2zz]
    have w1zz : gA (tA (tA o 24 czz p0zz) 25 czz p1zz) izz = gA (tA o 24 czz p0zz) izz := fset_ne (f := fun izz => gA (tA o 24 czz p0zz) izz) bzz
    have w2zz : gA (tA o 24 czz p0zz) izz = gA o izz := fset_ne (f := fun izz => gA o izz) azz
    exact w1zz.trans w2zz
  · rw [e5zz, e4zz, e2zz]; exact if_neg (show ¬ jzz = czz by omega)
  · rw [e5zz, e4zz, e2zz]; exact if_neg (show ¬ jzz = czz by omega)
  · rw [k23]; exact i32_add ec (by decide) (by omega) (by omega)
  · rw [e5zz, e4zz, e2zz]; exact if_pos rfl
  · rw [e5zz, e4zz]; exact if_pos rfl
set_option maxHeartbeats 200000 in
theorem st_stop {Nzz : Nat} {lv : Int32} {o yzz : Ob} {bzz : Nat} (eb : (gI o 29).toInt = (bzz : Int)) (hbzz : bzz ≤ 400) (hs : bzz = 0 ∨ (bnd (gA o 27 (bzz - 1))).toInt < lv.toInt) (hzz : lp_X9_settle_0 Nzz (lv, o) = some yzz) : yzz = o := by
  cases Nzz with
  | zero => cases hzz
  | succ Nzz =>
  have hzz : lb_X9_settle_0 (lp_X9_settle_0 Nzz) lv o = some yzz := hzz
  unfold lb_X9_settle_0 at hzz
  by_cases czz : gI o 29 ≤ (0 : Int32)
  · exact (Option.some.inj (z_t hzz czz)).symm
  · have d := cv_nle (a := (bzz : Int)) (b := 0) eb (by decide) czz
    obtain ⟨-, hzz⟩ := z_gd (z_f hzz czz)
    obtain ⟨z2, ez, hzz⟩ := z_bd hzz
    have t : (gI o 29 - (1 : Int32)).toInt = (bzz : Int) - 1 := i32_sub eb (by decide) (by omega) (by omega)
    have izz : (gI o 29 - (1 : Int32)).toNatClampNeg = bzz - 1 := tnc_eq (by omega)
    rw [izz] at ez
    have ezz := bnd_eq ez
    rcases hs with qzz | qzz
    · omega
    · exact (Option.some.inj (z_t hzz (Int32.lt_iff_toInt_lt.mpr (by rw [ezz]; exact qzz)))).symm
set_option maxHeartbeats 200000 in
theorem st_op {Nzz : Nat} {lv : Int32} {o yzz : Ob} {bzz czz : Nat} (eb : (gI o 29).toInt = (bzz : Int) + 1) (hbzz : bzz < 400) (ec : (gI o 23).toInt = (czz : Int)) (hczz : czz ≤ 400) (hop : ¬ gA o 27 bzz = 29 ∧ ¬ gA o 27 bzz = 30) (hl : lv.toInt ≤ (bnd (gA o 27 bzz)).toInt) (hzz : lp_X9_settle_0 Nzz (lv, o) = some yzz) :
    ∃ (N' : Nat) (o' : Ob), lp_X9_settle_0 N' (lv, o') = some yzz ∧ FP o o' ∧ ckp czz o o' ∧ (gI o' 23).toInt = (czz : Int) + 1 ∧ (gI o' 29).toInt = (bzz : Int) ∧ gA o' 24 czz = gA o 27 bzz ∧ gA o' 25 czz = 0 ∧ czz < 400 := by
  cases Nzz with
  | zero => cases hzz
  | succ Nzz =>
  have hzz : lb_X9_settle_0 (lp_X9_settle_0 Nzz) lv o = some yzz := hzz
  unfold lb_X9_settle_0 at hzz
  have t : (gI o 29 - (1 : Int32)).toInt = (bzz : Int) + 1 - 1 := i32_sub eb (by decide) (by omega) (by omega)
  have izz : (gI o 29 - (1 : Int32)).toNatClampNeg = bzz := tnc_eq (by omega)
  have hzz := z_f hzz (fun qzz => by have qzz := cv_le (a := (bzz : Int) + 1) (b := 0) eb (by decide) qzz; omega)
  obtain ⟨-, hzz⟩ := z_gd hzz
  obtain ⟨z2, ez, hzz⟩ := z_bd hzz
  rw [izz] at ez
  have ezz := bnd_eq ez
  have hzz := z_f hzz (fun qzz => by have qzz := cv_lt (a := (bnd (gA o 27 bzz)).toInt) (b := lv.toInt) (by rw [ezz]) rfl qzz; omega)
  obtain ⟨o3zz, e3zz, hzz⟩ := z_lt hzz
  have k29 : gI o3zz 29 = gI o 29 - 1 := by rw [e3zz]; rfl
  have kAzz : gA o3zz 27 = gA o 27 := by rw [e3zz]; rfl
  rw [k29, izz, kAzz] at hzz
  obtain ⟨-, hzz⟩ := z_gd hzz
  have hzz := z_f hzz hop.1
  obtain ⟨-, hzz⟩ := z_gd hzz
  have hzz := z_f hzz hop.2
  obtain ⟨-, hzz⟩ := z_gd hzz
  obtain ⟨z10, ez10, hzz⟩ := z_bd hzz
  have f3zz : FP o o3zz := by rw [e3zz]; exact ⟨fun izz azz bzz => fset_ne bzz, rfl, fun _ _ _ => rfl, rfl⟩
  obtain ⟨g1, g2, g3zz, g4, g5zz, g6, g7⟩ := emit9 (czz := czz) (by rw [e3zz]; exact ec) hczz ez10
  exact ⟨Nzz, z10, hzz, f3zz.tr g1, ckp.tr (by rw [e3zz]; exact ckp.rf) g2, g3zz, by rw [g4, k29, t]; omega, g5zz, g6, g7⟩
set_option maxHeartbeats 200000 in
theorem st_ao {Nzz : Nat} {lv : Int32} {o yzz : Ob} {bzz czz azz : Nat} (eb : (gI o 29).toInt = (bzz : Int) + 1) (hbzz : bzz < 400) (hop : gA o 27 bzz = 29 ∨ gA o 27 bzz = 30) (ea : (gA o 28 bzz).toInt = (azz : Int)) (hl : lv.toInt ≤ (bnd (gA o 27 bzz)).toInt) (hzz : lp_X9_settle_0 Nzz (lv, o) = some yzz) :
    ∃ (N' : Nat) (o' : Ob), lp_X9_settle_0 N' (lv, o') = some yzz ∧ FP o o' ∧ gI o' 23 = gI o 23 ∧ (gI o' 29).toInt = (bzz : Int) ∧ gA o' 24 = gA o 24 ∧ ∀ jzz, gA o' 25 jzz = if jzz = azz then gI o 23 else gA o 25 jzz := by
  cases Nzz with
  | zero => cases hzz
  | succ Nzz =>
  have hzz : lb_X9_settle_0 (lp_X9_settle_0 Nzz) lv o = some yzz := hzz
  unfold lb_X9_settle_0 at hzz
  have t : (gI o 29 - (1 : Int32)).toInt = (bzz : Int) + 1 - 1 := i32_sub eb (by decide) (by omega) (by omega)
  have izz : (gI o 29 - (1 : Int32)).toNatClampNeg = bzz := tnc_eq (by omega)
  have hzz := z_f hzz (fun qzz => by have qzz := cv_le (a := (bzz : Int) + 1) (b := 0) eb (by decide) qzz; omega)
  obtain ⟨-, hzz⟩ := z_gd hzz
  obtain ⟨z2, ez, hzz⟩ := z_bd hzz
  rw [izz] at ez
  have ezz := bnd_eq ez
  have hzz := z_f hzz (fun qzz => by have qzz := cv_lt (a := (bnd (gA o 27 bzz)).toInt) (b := lv.toInt) (by rw [ezz]) rfl qzz; omega)
  obtain ⟨o3zz, e3zz, hzz⟩ := z_lt hzz
  have k29 : gI o3zz 29 = gI o 29 - 1 := by rw [e3zz]; rfl
  have kAzz : gA o3zz 27 = gA o 27 := by rw [e3zz]; rfl
  have kBzz : gA o3zz 28 = gA o 28 := by rw [e3zz]; rfl
  have k23 : gI o3zz 23 = gI o 23 := by rw [e3zz]; rfl
  have f3zz : FP o o3zz := by rw [e3zz]; exact ⟨fun izz azz bzz => fset_ne bzz, rfl, fun _ _ _ => rfl, rfl⟩
  have ia : (gA o 28 bzz).toNatClampNeg = azz := tnc_eq ea
  have h63 : bk_X9_settle_63 (lp_X9_settle_0 Nzz) lv o3zz = some yzz → ∃ (N' : Nat) (o' : Ob), lp_X9_settle_0 N' (lv, o') = some yzz ∧ FP o o' ∧ gI o' 23 = gI o 23 ∧ (gI o' 29).toInt = (bzz : Int) ∧ gA o' 24 = gA o 24 ∧ ∀ jzz, gA o' 25 jzz = if jzz = azz then gI o 23 else gA o 25 jzz := by
    intro hzz
    unfold bk_X9_settle_63 at hzz
    obtain ⟨-, hzz⟩ := z_gd hzz
    obtain ⟨-, hzz⟩ := z_gd hzz
    obtain ⟨o7, e7zz, hzz⟩ := z_lt hzz
    rw [k29, izz, kBzz, ia, k23] at e7zz
    refine ⟨Nzz, o7, hzz, f3zz.tr ?_, by rw [e7zz]; exact k23, by rw [e7zz]; show (gI o3zz 29).toInt = _; rw [k29, t]; omega, by rw [e7zz, e3zz]; rfl, fun jzz => by rw [e7zz, e3zz]; rfl⟩
    rw [e7zz]
    exact ⟨fun _ _ _ => rfl, rfl, fun izz _ bzz => fset_ne (f := fun izz => gA o3zz izz) bzz, rfl⟩
  rw [k29, izz, kAzz] at hzz
  obtain ⟨-, hzz⟩ := z_gd hzz
  by_cases c29zz : gA o 27 bzz = 29
  · exact h63 (z_t hzz c29zz)
  · obtain ⟨-, hzz⟩ := z_gd (z_f hzz c29zz)
    rcases hop with qzz | qzz
    · exact absurd qzz c29zz
    · exact h63 (z_t hzz qzz)
def PEs (L : Int) (o : Ob) (bzz : Nat) (R : Ob → Prop) : Prop := ∀ o' : Ob, FR9 o o' → ∀ (Nzz : Nat) (lv : Int32) (yzz : Ob), 1 ≤ lv.toInt → lv.toInt ≤ L → lp_X9_settle_0 Nzz (lv, o') = some yzz → ∃ (N' : Nat) (o3zz : Ob), lp_X9_settle_0 N' (lv, o3zz) = some yzz ∧ (gI o3zz 29).toInt = (bzz : Int) ∧ FP o' o3zz ∧ R o3zz
set_option maxHeartbeats 200000 in
theorem PEs.none {L : Int} {o : Ob} {bzz : Nat} {R : Ob → Prop} (eb : (gI o 29).toInt = (bzz : Int)) (hzz : ∀ o', FR9 o o' → R o') : PEs L o bzz R := fun o' fzz Nzz lv yzz _ _ hy => ⟨Nzz, o', hy, by rw [fzz.1 29 (by decide) (by decide) (by decide)]; exact eb, FP.rf, hzz o' fzz⟩
set_option maxHeartbeats 200000 in
theorem PEs.le {L L' : Int} {o : Ob} {bzz : Nat} {R : Ob → Prop} (hzz : PEs L o bzz R) (hl : L' ≤ L) : PEs L' o bzz R := fun o' fzz Nzz lv yzz h1 h2 hy => hzz o' fzz Nzz lv yzz h1 (by omega) hy
set_option maxHeartbeats 200000 in
theorem PEs.done {L : Int} {o o' yzz : Ob} {bzz : Nat} {R : Ob → Prop} (hzz : PEs L o bzz R) (fzz : FR9 o o') (hbzz : bzz ≤ 400) {Nzz : Nat} {lv : Int32} (h1 : 1 ≤ lv.toInt) (h2 : lv.toInt ≤ L) (hs : bzz = 0 ∨ (bnd (gA o 27 (bzz - 1))).toInt < lv.toInt) (hy : lp_X9_settle_0 Nzz (lv, o') = some yzz) : (gI yzz 29).toInt = (bzz : Int) ∧ FP o' yzz ∧ R yzz := by
  obtain ⟨N', o3zz, q1zz, q2zz, q3zz, q4zz⟩ := hzz o' fzz Nzz lv yzz h1 h2 hy
  have ezz := st_stop q2zz hbzz (by rw [q3zz.2.2.1 27 (by decide) (by decide), fzz.gA 27]; exact hs) q1zz
  rw [ezz]; exact ⟨q2zz, q3zz, q4zz⟩
def IsS (o : Ob) (czz : Int32) : Prop := gI o 16 = 3 ∧ ∃ azz : Nat, (gI o 14).toInt = (azz : Int) ∧ gA o 12 azz = czz
set_option maxHeartbeats 200000 in
theorem s8 {rd o : Ob} {czz zzz : Int32} (hzz : TT rd o) (hz : f_X6_isSign rd czz = some zzz) : (zzz = 0 ∧ ¬ IsS o czz) ∨ (¬ zzz = 0 ∧ IsS o czz) := by
  obtain ⟨hz0, e6zz, e7zz, e8, azz, bzz, ea, eb, hab, hbzz, hx⟩ := hzz
  unfold f_X6_isSign at hz
  rw [e6zz, e7zz] at hz
  by_cases gzz : gI o 16 = 3
  · obtain ⟨z1, ez1, hz⟩ := z_bd (z_t hz gzz)
    have hlt : (azz : Int) < (gI o 13).toInt := by
      rcases hx with ⟨qzz, -⟩ | ⟨qzz, -⟩ | ⟨qzz, -⟩ | ⟨-, qzz, -⟩
      · exact absurd (qzz.symm.trans gzz) (by decide)
      · exact absurd (qzz.symm.trans gzz) (by decide)
      · exact absurd (qzz.symm.trans gzz) (by decide)
      · omega
    rw [byteT hz0 ea hlt ez1] at hz
    by_cases kzz : gA o 12 azz = czz
    · exact Or.inr ⟨by rw [← Option.some.inj (z_t hz kzz)]; decide, gzz, azz, ea, kzz⟩
    · refine Or.inl ⟨(Option.some.inj (z_f hz kzz)).symm, fun wzz => ?_⟩
      obtain ⟨-, a', ea', k'⟩ := wzz
      have ezz : a' = azz := by omega
      rw [ezz] at k'; exact kzz k'
  · exact Or.inl ⟨(Option.some.inj (z_f hz gzz)).symm, fun wzz => gzz wzz.1⟩
set_option maxHeartbeats 200000 in
theorem s9 {rd o : Ob} {czz zzz : Int32} (hzz : TT rd o) (hz : f_X9_isSign o czz = some zzz) : (zzz = 0 ∧ ¬ IsS o czz) ∨ (¬ zzz = 0 ∧ IsS o czz) := by
  obtain ⟨hz0, e6zz, e7zz, e8, azz, bzz, ea, eb, hab, hbzz, hx⟩ := hzz
  unfold f_X9_isSign at hz
  by_cases gzz : gI o 16 = 3
  · have hz := z_t hz gzz
    have hw : gL o 17 = (gA o 12 azz).toInt64 := by
      rcases hx with ⟨qzz, -⟩ | ⟨qzz, -⟩ | ⟨qzz, -⟩ | ⟨-, -, qzz⟩
      · exact absurd (qzz.symm.trans gzz) (by decide)
      · exact absurd (qzz.symm.trans gzz) (by decide)
      · exact absurd (qzz.symm.trans gzz) (by decide)
      · exact qzz
    have t1zz : (gL o 17).toInt = (gA o 12 azz).toInt := by rw [hw]; exact Int32.toInt_toInt64 _
    by_cases kzz : lg_cmp (gL o 17) czz.toInt64 = 0
    · have ezz := cvl_eq (a := (gA o 12 azz).toInt) (b := czz.toInt) t1zz (Int32.toInt_toInt64 _) kzz
      exact Or.inr ⟨by rw [← Option.some.inj (z_t hz kzz)]; decide, gzz, azz, ea, Int32.toInt_inj.mp ezz⟩
    · have ezz := cvl_ne (a := (gA o 12 azz).toInt) (b := czz.toInt) t1zz (Int32.toInt_toInt64 _) kzz
      refine Or.inl ⟨(Option.some.inj (z_f hz kzz)).symm, fun wzz => ?_⟩
      obtain ⟨-, a', ea', k'⟩ := wzz
      have e' : a' = azz := by omega
      rw [e'] at k'; exact ezz (by rw [k'])
  · exact Or.inl ⟨(Option.some.inj (z_f hz gzz)).symm, fun wzz => gzz wzz.1⟩
set_option maxHeartbeats 200000 in
theorem IsS.ne {o : Ob} {czz c' : Int32} (hzz : IsS o czz) (hn : ¬ czz = c') : ¬ IsS o c' := by
  intro wzz
  obtain ⟨-, azz, ea, ezz⟩ := hzz
  obtain ⟨-, a', ea', e'⟩ := wzz
  have qzz : a' = azz := by omega
  rw [qzz] at e'
  exact hn (ezz.symm.trans e')
set_option maxHeartbeats 200000 in
theorem IsS.nw {o : Ob} {czz : Int32} {R : List Int} (hzz : IsS o czz) : ¬ IsW o R := fun wzz => absurd (hzz.1.symm.trans wzz.1) (by decide)
set_option maxHeartbeats 200000 in
theorem mu_ok {o o' : Ob} {vzz : Int32} (h19 : gI o 19 = 0) (hv : ¬ vzz = 0) (hzz : f_X9_must o vzz = some o') : f_X9_next o = some o' := by
  unfold f_X9_must at hzz
  have hzz := z_f (z_t hzz h19) hv
  unfold bk_X9_must_24 at hzz
  obtain ⟨z1, ez, hzz⟩ := z_bd (z_t hzz h19)
  rw [← Option.some.inj hzz]; exact ez
set_option maxHeartbeats 200000 in
theorem mu_no {o o' : Ob} (h19 : gI o 19 = 0) (hzz : f_X9_must o 0 = some o') : o' = sI (sI o 19 1) 18 (gI o 14) := by
  unfold f_X9_must at hzz
  obtain ⟨o2, e2zz, hzz⟩ := z_lt (z_t (z_t hzz h19) rfl)
  obtain ⟨o3zz, e3zz, hzz⟩ := z_lt hzz
  unfold bk_X9_must_24 at hzz
  have k19 : gI o3zz 19 = 1 := by rw [e3zz, e2zz]; rfl
  have hzz := z_f hzz (by rw [k19]; decide)
  rw [← Option.some.inj hzz, e3zz, e2zz]; rfl
set_option maxHeartbeats 200000 in
theorem emit_FP {o o' : Ob} {p0zz p1zz : Int32} (hzz : f_X9_emit o p0zz p1zz = some o') : FP o o' := by
  unfold f_X9_emit at hzz
  obtain ⟨-, hzz⟩ := z_gd hzz
  obtain ⟨o2, e2zz, hzz⟩ := z_lt hzz
  obtain ⟨-, hzz⟩ := z_gd hzz
  obtain ⟨o4zz, e4zz, hzz⟩ := z_lt hzz
  obtain ⟨o5zz, e5zz, hzz⟩ := z_lt hzz
  rw [← Option.some.inj hzz]
  refine ⟨fun izz azz bzz => ?_, by rw [e5zz, e4zz, e2zz]; rfl, fun izz azz bzz => ?_, by rw [e5zz, e4zz, e2zz]; rfl⟩
  · rw [e5zz]; exact (fset_ne azz).trans (by rw [e4zz, e2zz]; rfl)
  · have w0zz : gA o5zz izz = gA o4zz izz := by rw [e5zz]; rfl
    have w1zz : gA o4zz izz = gA o2 izz := by rw [e4zz]; exact fset_ne (f := fun izz => gA o2 izz) bzz
    have w2zz : gA o2 izz = gA o izz := by rw [e2zz]; exact fset_ne (f := fun izz => gA o izz) azz
    exact w0zz.trans (w1zz.trans w2zz)
set_option maxHeartbeats 200000 in
theorem st_FP {yzz : Ob} {lv : Int32} : ∀ (Nzz : Nat) (o : Ob), lp_X9_settle_0 Nzz (lv, o) = some yzz → FP o yzz := by
  intro Nzz
  induction Nzz with
  | zero => intro o hzz; cases hzz
  | succ Nzz ihzz =>
    intro o hzz
    have hzz : lb_X9_settle_0 (lp_X9_settle_0 Nzz) lv o = some yzz := hzz
    unfold lb_X9_settle_0 at hzz
    by_cases czz : gI o 29 ≤ (0 : Int32)
    · rw [← Option.some.inj (z_t hzz czz)]; exact FP.rf
    · obtain ⟨-, hzz⟩ := z_gd (z_f hzz czz)
      obtain ⟨z2, -, hzz⟩ := z_bd hzz
      by_cases c2zz : z2 < lv
      · rw [← Option.some.inj (z_t hzz c2zz)]; exact FP.rf
      · obtain ⟨o3zz, e3zz, hzz⟩ := z_lt (z_f hzz c2zz)
        have f3zz : FP o o3zz := by rw [e3zz]; exact ⟨fun izz azz bzz => fset_ne bzz, rfl, fun _ _ _ => rfl, rfl⟩
        have h63 : bk_X9_settle_63 (lp_X9_settle_0 Nzz) lv o3zz = some yzz → FP o yzz := by
          intro hzz
          unfold bk_X9_settle_63 at hzz
          obtain ⟨-, hzz⟩ := z_gd hzz
          obtain ⟨-, hzz⟩ := z_gd hzz
          obtain ⟨o7, e7zz, hzz⟩ := z_lt hzz
          have f7zz : FP o3zz o7 := by rw [e7zz]; exact ⟨fun _ _ _ => rfl, rfl, fun izz _ bzz => fset_ne (f := fun izz => gA o3zz izz) bzz, rfl⟩
          exact f3zz.tr (f7zz.tr (ihzz o7 hzz))
        obtain ⟨-, hzz⟩ := z_gd hzz
        by_cases c3zz : gA o3zz 27 (gI o3zz 29).toNatClampNeg = 29
        · exact h63 (z_t hzz c3zz)
        · obtain ⟨-, hzz⟩ := z_gd (z_f hzz c3zz)
          by_cases c4zz : gA o3zz 27 (gI o3zz 29).toNatClampNeg = 30
          · exact h63 (z_t hzz c4zz)
          · obtain ⟨-, hzz⟩ := z_gd (z_f hzz c4zz)
            obtain ⟨z10, ez, hzz⟩ := z_bd hzz
            exact f3zz.tr ((emit_FP ez).tr (ihzz z10 hzz))
set_option maxHeartbeats 200000 in
theorem ex_bad {Nzz : Nat} {v1zz v2 : Int32} {o yzz : Ob} (h19 : ¬ gI o 19 = 0) (hzz : lp_X9_readExpression_20 Nzz (v1zz, v2, o) = some yzz) : FP o yzz := by
  cases Nzz with
  | zero => cases hzz
  | succ Nzz =>
  have hzz : lb_X9_readExpression_20 (lp_X9_readExpression_20 Nzz) v1zz v2 o = some yzz := hzz
  unfold lb_X9_readExpression_20 at hzz
  have hzz := z_f hzz h19
  unfold bk_X9_readExpression_76 at hzz
  obtain ⟨z3, ez, hzz⟩ := z_bd hzz
  rw [← Option.some.inj hzz]
  exact st_FP _ _ ez
set_option maxHeartbeats 200000 in
theorem ex_part {Nzz : Nat} {v1zz : Int32} {o yzz : Ob} (h19 : gI o 19 = 0) (hzz : lp_X9_readExpression_20 Nzz (v1zz, 1, o) = some yzz) : ∃ (N' : Nat) (zzz : Int32 × Ob), f_X9_readPart o = some zzz ∧ lp_X9_readExpression_20 N' (v1zz, zzz.1, zzz.2) = some yzz := by
  cases Nzz with
  | zero => cases hzz
  | succ Nzz =>
  have hzz : lb_X9_readExpression_20 (lp_X9_readExpression_20 Nzz) v1zz 1 o = some yzz := hzz
  unfold lb_X9_readExpression_20 at hzz
  obtain ⟨zzz, ez, hzz⟩ := z_bd (z_t (z_f (z_f (z_t hzz h19) (by decide)) (by decide)) rfl)
  exact ⟨Nzz, zzz, ez, hzz⟩
set_option maxHeartbeats 200000 in
theorem ex_plain {Nzz : Nat} {v1zz : Int32} {o yzz : Ob} (h19 : gI o 19 = 0) (hzz : lp_X9_readExpression_20 Nzz (v1zz, 0, o) = some yzz) : ∃ (N' : Nat) (zzz : Int32 × Ob), f_X9_readPlain o = some zzz ∧ lp_X9_readExpression_20 N' (v1zz, zzz.1, zzz.2) = some yzz := by
  cases Nzz with
  | zero => cases hzz
  | succ Nzz =>
  have hzz : lb_X9_readExpression_20 (lp_X9_readExpression_20 Nzz) v1zz 0 o = some yzz := hzz
  unfold lb_X9_readExpression_20 at hzz
  obtain ⟨zzz, ez, hzz⟩ := z_bd (z_t (z_f (z_t hzz h19) (by decide)) rfl)
  exact ⟨Nzz, zzz, ez, hzz⟩
set_option maxHeartbeats 200000 in
theorem ex_sum {Nzz : Nat} {v1zz : Int32} {o yzz : Ob} (h19 : gI o 19 = 0) (hzz : lp_X9_readExpression_20 Nzz (v1zz, 3, o) = some yzz) : ∃ (N' : Nat) (zzz : Int32 × Ob), f_X9_behindSum o v1zz = some zzz ∧ lp_X9_readExpression_20 N' (v1zz, zzz.1, zzz.2) = some yzz := by
  cases Nzz with
  | zero => cases hzz
  | succ Nzz =>
  have hzz : lb_X9_readExpression_20 (lp_X9_readExpression_20 Nzz) v1zz 3 o = some yzz := hzz
  unfold lb_X9_readExpression_20 at hzz
  obtain ⟨zzz, ez, hzz⟩ := z_bd (z_t (z_f (z_f (z_f (z_t hzz h19) (by decide)) (by decide)) (by decide)) rfl)
  exact ⟨Nzz, zzz, ez, hzz⟩
set_option maxHeartbeats 200000 in
theorem ex_test {Nzz : Nat} {v1zz : Int32} {o yzz : Ob} (h19 : gI o 19 = 0) (hzz : lp_X9_readExpression_20 Nzz (v1zz, 2, o) = some yzz) : ∃ (N' : Nat) (zzz : Int32 × Ob), f_X9_behindTest o = some zzz ∧ lp_X9_readExpression_20 N' (v1zz, zzz.1, zzz.2) = some yzz := by
  cases Nzz with
  | zero => cases hzz
  | succ Nzz =>
  have hzz : lb_X9_readExpression_20 (lp_X9_readExpression_20 Nzz) v1zz 2 o = some yzz := hzz
  unfold lb_X9_readExpression_20 at hzz
  obtain ⟨zzz, ez, hzz⟩ := z_bd (z_f (z_f (z_f (z_f (z_t hzz h19) (by decide)) (by decide)) (by decide)) (by decide))
  exact ⟨Nzz, zzz, ez, hzz⟩
set_option maxHeartbeats 200000 in
theorem ex_over {Nzz : Nat} {v1zz : Int32} {o yzz : Ob} (h19 : gI o 19 = 0) (hzz : lp_X9_readExpression_20 Nzz (v1zz, 4, o) = some yzz) : f_X9_settle o 1 = some yzz := by
  cases Nzz with
  | zero => cases hzz
  | succ Nzz =>
  have hzz : lb_X9_readExpression_20 (lp_X9_readExpression_20 Nzz) v1zz 4 o = some yzz := hzz
  unfold lb_X9_readExpression_20 at hzz
  have hzz := z_t (z_t hzz h19) rfl
  unfold bk_X9_readExpression_76 at hzz
  obtain ⟨z3, ez, hzz⟩ := z_bd hzz
  rw [← Option.some.inj hzz]; exact ez
set_option maxHeartbeats 200000 in
theorem add8 {oc : Ob} {s wzz : Int32} {zzz : Int32 × Ob} {kzz : Nat} (ek : (gI oc 8).toInt = (kzz : Int)) (hk : kzz < 400) (hzz : f_X0_add 12 400 oc s wzz = some zzz) : zzz.1.toInt = (kzz : Int) ∧ (gI zzz.2 8).toInt = (kzz : Int) + 1 ∧ gA zzz.2 5 kzz = s ∧ gA zzz.2 6 kzz = wzz ∧ (∀ jzz, jzz ≠ kzz → gA zzz.2 5 jzz = gA oc 5 jzz ∧ gA zzz.2 6 jzz = gA oc 6 jzz) ∧ (∀ izz, izz ≠ 8 → gI zzz.2 izz = gI oc izz) ∧ (∀ izz, izz ≠ 5 → izz ≠ 6 → gA zzz.2 izz = gA oc izz) := by
  unfold f_X0_add at hzz
  have hzz := z_t hzz (Int32.lt_iff_toInt_lt.mpr (by have : (Int32.ofNat 400).toInt = 400 := (by decide); omega))
  obtain ⟨-, hzz⟩ := z_gd hzz
  obtain ⟨o2, e2zz, hzz⟩ := z_lt hzz
  obtain ⟨-, hzz⟩ := z_gd hzz
  obtain ⟨o4zz, e4zz, hzz⟩ := z_lt hzz
  obtain ⟨o5zz, e5zz, hzz⟩ := z_lt hzz
  have ik : (gI oc 8).toNatClampNeg = kzz := tnc_eq ek
  have k2zz : gI o2 8 = gI oc 8 := by rw [e2zz]; rfl
  rw [ik] at e2zz
  rw [k2zz, ik] at e4zz
  have k8zz : gI o5zz 8 = gI oc 8 + 1 := by rw [e5zz, e4zz, e2zz]; rfl
  have t8 : (gI o5zz 8).toInt = (kzz : Int) + 1 := by rw [k8zz]; exact i32_add ek (by decide) (by omega) (by omega)
  rw [← Option.some.inj hzz]
  refine ⟨?_, t8, ?_, ?_, fun jzz hj => ⟨?_, ?_⟩, fun izz hizz => ?_, fun izz azz bzz => ?_⟩
  · have : (gI o5zz 8 - (1 : Int32)).toInt = (kzz : Int) + 1 - 1 := i32_sub t8 (by decide) (by omega) (by omega)
    show (gI o5zz 8 - (1 : Int32)).toInt = _
    omega
  · show gA o5zz 5 kzz = _
    rw [e5zz, e4zz, e2zz]; exact if_pos rfl
  · show gA o5zz 6 kzz = _
    rw [e5zz, e4zz]; exact if_pos rfl
  · show gA o5zz 5 jzz = _
    rw [e5zz, e4zz, e2zz]; exact if_neg hj
  · show gA o5zz 6 jzz = _
    rw [e5zz, e4zz, e2zz]; exact if_neg hj
  · show gI o5zz izz = _
    rw [e5zz]; exact (fset_ne hizz).trans (by rw [e4zz, e2zz]; rfl)
  · show gA o5zz izz = _
    have w0zz : gA o5zz izz = gA o4zz izz := by rw [e5zz]; rfl
    have w1zz : gA o4zz izz = gA o2 izz := by rw [e4zz]; exact fset_ne (f := fun izz => gA o2 izz) bzz
    have w2zz : gA o2 izz = gA oc izz := by rw [e2zz]; exact fset_ne (f := fun izz => gA oc izz) azz
    exact w0zz.trans (w1zz.trans w2zz)
set_option maxHeartbeats 200000 in
theorem stop8 {rd : Ob} {zzz : Int32 × Ob} (hzz : f_X6_stop rd = some zzz) : zzz.1 = 0 ∧ zzz.2 = sI rd 3 (gI rd 7) := by
  unfold f_X6_stop at hzz
  obtain ⟨o1, e1zz, hzz⟩ := z_lt hzz
  rw [← Option.some.inj hzz]; exact ⟨rfl, e1zz⟩
def MD (od : Bool) (rd o : Ob) : Prop := (od = true → gI rd 4 = 0 ∧ ¬ gI o 20 = 0) ∧ (od = false → ¬ gI rd 4 = 0 ∧ gI o 20 = 0) ∧ (∀ kzz, kzz < 9 → (gM o 31 kzz).toInt = codR (tx7.getD kzz [])) ∧ (∀ kzz, kzz < 7 → (gM o 32 kzz).toInt = codR (tx8.getD kzz []))
set_option maxRecDepth 100000 in
theorem tx7_d : ∀ kzz, kzz < 9 → tx7[kzz]? = some (tx7.getD kzz []) ∧ (tx7.getD kzz []).length ≤ 10 ∧ (tx7.getD kzz []).all (fun d => decide (1 ≤ d ∧ d ≤ 26)) = true := by decide +kernel
set_option maxRecDepth 100000 in
theorem tx8_d : ∀ kzz, kzz < 7 → tx8[kzz]? = some (tx8.getD kzz []) ∧ (tx8.getD kzz []).length ≤ 10 ∧ (tx8.getD kzz []).all (fun d => decide (1 ≤ d ∧ d ≤ 26)) = true := by decide +kernel
set_option maxRecDepth 100000 in
theorem tx7_n : ∀ jzz, jzz < 9 → ∀ kzz, kzz < 9 → jzz ≠ kzz → codR (tx7.getD jzz []) ≠ codR (tx7.getD kzz []) := by decide +kernel
set_option maxRecDepth 100000 in
theorem tx8_n : ∀ jzz, jzz < 7 → ∀ kzz, kzz < 7 → jzz ≠ kzz → codR (tx8.getD jzz []) ≠ codR (tx8.getD kzz []) := by decide +kernel
set_option maxHeartbeats 200000 in
theorem p7_lp {rd o : Ob} {zzz : Int32} (hzz : TT rd o) (ht : ∀ kzz, kzz < 9 → (gM o 31 kzz).toInt = codR (tx7.getD kzz [])) : ∀ (Nzz : Nat) (v1zz v2 : Int32) (izz : Nat), v2.toInt = (izz : Int) → izz ≤ 9 → ((v1zz = -1 ∧ ∀ jzz, jzz < izz → ¬ IsW o (tx7.getD jzz [])) ∨ (∃ jzz : Nat, jzz < izz ∧ v1zz.toInt = (jzz : Int) + 1 ∧ IsW o (tx7.getD jzz []))) → lp_X9_partAt_4 o Nzz (v1zz, v2) = some zzz →
    (zzz = -1 ∧ ∀ jzz, jzz < 9 → ¬ IsW o (tx7.getD jzz [])) ∨ (∃ jzz : Nat, jzz < 9 ∧ zzz.toInt = (jzz : Int) + 1 ∧ IsW o (tx7.getD jzz [])) := by
  intro Nzz
  induction Nzz with
  | zero => intro v1zz v2 izz _ _ _ hzz; cases hzz
  | succ Nzz ihzz =>
    intro v1zz v2 izz e2zz hizz hv hz
    have hz : lb_X9_partAt_4 o (lp_X9_partAt_4 o Nzz) v1zz v2 = some zzz := hz
    unfold lb_X9_partAt_4 at hz
    by_cases czz : (9 : Int32) ≤ v2
    · have d := cv_le (a := 9) (b := (izz : Int)) (by decide) e2zz czz
      rw [← Option.some.inj (z_t hz czz)]
      rcases hv with ⟨q1zz, q2zz⟩ | ⟨jzz, q1zz, q2zz, q3zz⟩
      · exact Or.inl ⟨q1zz, fun jzz hj => q2zz jzz (by omega)⟩
      · exact Or.inr ⟨jzz, by omega, q2zz, q3zz⟩
    · have d := cv_nle (a := 9) (b := (izz : Int)) (by decide) e2zz czz
      obtain ⟨-, hz⟩ := z_gd (z_f hz czz)
      obtain ⟨z2, ez2, hz⟩ := z_bd hz
      have i2zz : v2.toNatClampNeg = izz := tnc_eq e2zz
      rw [i2zz] at ez2
      have hdzz := tx7_d izz (by omega)
      have hst : ∀ s0zz : Int32, bk_X9_partAt_30 o (lp_X9_partAt_4 o Nzz) v2 s0zz = some zzz → ((s0zz = -1 ∧ ∀ jzz, jzz < izz + 1 → ¬ IsW o (tx7.getD jzz [])) ∨ (∃ jzz : Nat, jzz < izz + 1 ∧ s0zz.toInt = (jzz : Int) + 1 ∧ IsW o (tx7.getD jzz []))) → (zzz = -1 ∧ ∀ jzz, jzz < 9 → ¬ IsW o (tx7.getD jzz [])) ∨ (∃ jzz : Nat, jzz < 9 ∧ zzz.toInt = (jzz : Int) + 1 ∧ IsW o (tx7.getD jzz [])) := by
        intro s0zz kzz hs
        unfold bk_X9_partAt_30 at kzz
        obtain ⟨x3, e3zz, kzz⟩ := z_lt kzz
        have t3zz : x3.toInt = (izz : Int) + 1 := by rw [e3zz]; exact i32_add e2zz (by decide) (by omega) (by omega)
        exact ihzz s0zz x3 (izz + 1) (by omega) (by omega) hs kzz
      rcases w9 hzz (all_dig hdzz.2.2) hdzz.2.1 (ht izz (by omega)) ez2 with ⟨g1, g2⟩ | ⟨g1, g2⟩
      · refine hst v1zz (z_t hz g1) ?_
        rcases hv with ⟨q1zz, q2zz⟩ | ⟨jzz, q1zz, q2zz, q3zz⟩
        · refine Or.inl ⟨q1zz, fun jzz hj => ?_⟩
          by_cases ezz : jzz = izz
          · rw [ezz]; exact g2
          · exact q2zz jzz (by omega)
        · exact Or.inr ⟨jzz, by omega, q2zz, q3zz⟩
      · exact hst (v2 + 1) (z_f hz g1) (Or.inr ⟨izz, by omega, i32_add e2zz (by decide) (by omega) (by omega), g2⟩)
set_option maxHeartbeats 200000 in
theorem p8_lp {rd o : Ob} {zzz : Int32} (hzz : TT rd o) (ht : ∀ kzz, kzz < 7 → (gM o 32 kzz).toInt = codR (tx8.getD kzz [])) : ∀ (Nzz : Nat) (v1zz v2 : Int32) (izz : Nat), v2.toInt = (izz : Int) → izz ≤ 7 → ((v1zz = -1 ∧ ∀ jzz, jzz < izz → ¬ IsW o (tx8.getD jzz [])) ∨ (∃ jzz : Nat, jzz < izz ∧ v1zz.toInt = (jzz : Int) + 1 ∧ IsW o (tx8.getD jzz []))) → lp_X9_orderPartAt_4 o Nzz (v1zz, v2) = some zzz →
    (zzz = -1 ∧ ∀ jzz, jzz < 7 → ¬ IsW o (tx8.getD jzz [])) ∨ (∃ jzz : Nat, jzz < 7 ∧ zzz.toInt = (jzz : Int) + 1 ∧ IsW o (tx8.getD jzz [])) := by
  intro Nzz
  induction Nzz with
  | zero => intro v1zz v2 izz _ _ _ hzz; cases hzz
  | succ Nzz ihzz =>
    intro v1zz v2 izz e2zz hizz hv hz
    have hz : lb_X9_orderPartAt_4 o (lp_X9_orderPartAt_4 o Nzz) v1zz v2 = some zzz := hz
    unfold lb_X9_orderPartAt_4 at hz
    by_cases czz : (7 : Int32) ≤ v2
    · have d := cv_le (a := 7) (b := (izz : Int)) (by decide) e2zz czz
      rw [← Option.some.inj (z_t hz czz)]
      rcases hv with ⟨q1zz, q2zz⟩ | ⟨jzz, q1zz, q2zz, q3zz⟩
      · exact Or.inl ⟨q1zz, fun jzz hj => q2zz jzz (by omega)⟩
      · exact Or.inr ⟨jzz, by omega, q2zz, q3zz⟩
    · have d := cv_nle (a := 7) (b := (izz : Int)) (by decide) e2zz czz
      obtain ⟨-, hz⟩ := z_gd (z_f hz czz)
      obtain ⟨z2, ez2, hz⟩ := z_bd hz
      have i2zz : v2.toNatClampNeg = izz := tnc_eq e2zz
      rw [i2zz] at ez2
      have hdzz := tx8_d izz (by omega)
      have hst : ∀ s0zz : Int32, bk_X9_orderPartAt_30 o (lp_X9_orderPartAt_4 o Nzz) v2 s0zz = some zzz → ((s0zz = -1 ∧ ∀ jzz, jzz < izz + 1 → ¬ IsW o (tx8.getD jzz [])) ∨ (∃ jzz : Nat, jzz < izz + 1 ∧ s0zz.toInt = (jzz : Int) + 1 ∧ IsW o (tx8.getD jzz []))) → (zzz = -1 ∧ ∀ jzz, jzz < 7 → ¬ IsW o (tx8.getD jzz [])) ∨ (∃ jzz : Nat, jzz < 7 ∧ zzz.toInt = (jzz : Int) + 1 ∧ IsW o (tx8.getD jzz [])) := by
        intro s0zz kzz hs
        unfold bk_X9_orderPartAt_30 at kzz
        obtain ⟨x3, e3zz, kzz⟩ := z_lt kzz
        have t3zz : x3.toInt = (izz : Int) + 1 := by rw [e3zz]; exact i32_add e2zz (by decide) (by omega) (by omega)
        exact ihzz s0zz x3 (izz + 1) (by omega) (by omega) hs kzz
      rcases w9 hzz (all_dig hdzz.2.2) hdzz.2.1 (ht izz (by omega)) ez2 with ⟨g1, g2⟩ | ⟨g1, g2⟩
      · refine hst v1zz (z_t hz g1) ?_
        rcases hv with ⟨q1zz, q2zz⟩ | ⟨jzz, q1zz, q2zz, q3zz⟩
        · refine Or.inl ⟨q1zz, fun jzz hj => ?_⟩
          by_cases ezz : jzz = izz
          · rw [ezz]; exact g2
          · exact q2zz jzz (by omega)
        · exact Or.inr ⟨jzz, by omega, q2zz, q3zz⟩
      · exact hst (v2 + 1) (z_f hz g1) (Or.inr ⟨izz, by omega, i32_add e2zz (by decide) (by omega) (by omega), g2⟩)
set_option maxHeartbeats 200000 in
theorem part7 {rd o : Ob} {z1 z2 : Int32} (hzz : TT rd o) (ht : ∀ kzz, kzz < 9 → (gM o 31 kzz).toInt = codR (tx7.getD kzz [])) (h1 : f_X6_wordOf rd 7 = some z1) (h2 : f_X9_partAt o = some z2) : (z1 = -1 ∧ z2 = -1) ∨ (∃ jzz : Nat, jzz < 9 ∧ z1.toInt = (jzz : Int) ∧ z2.toInt = (jzz : Int) + 1 ∧ gI o 16 = 1) := by
  have azz := wo8 hzz (by decide) tx7_ok (by decide) h1
  have bzz := p7_lp hzz ht zfu (-1) 0 0 (by decide) (by decide) (Or.inl ⟨rfl, fun jzz hj => absurd hj (Nat.not_lt_zero _)⟩) h2
  have hlen : tx7.length = 9 := by decide
  have memzz : ∀ jzz, jzz < 9 → tx7.getD jzz [] ∈ tx7 := fun jzz hj => List.mem_of_getElem? (tx7_d jzz hj).1
  rcases azz with ⟨jzz, R, a1zz, a2, a3⟩ | ⟨a1zz, a2⟩ <;> rcases bzz with ⟨b1, b2⟩ | ⟨kzz, b1, b2, b3⟩
  · have hj : jzz < 9 := by
      rcases (show jzz < 9 ∨ 9 ≤ jzz by omega) with uzz | uzz
      · exact uzz
      · rw [List.getElem?_eq_none (by rw [hlen]; exact uzz)] at a1zz; cases a1zz
    have ezz : tx7.getD jzz [] = R := Option.some.inj ((tx7_d jzz hj).1.symm.trans a1zz)
    rw [← ezz] at a3
    exact absurd a3 (b2 jzz hj)
  · have hj : jzz < 9 := by
      rcases (show jzz < 9 ∨ 9 ≤ jzz by omega) with uzz | uzz
      · exact uzz
      · rw [List.getElem?_eq_none (by rw [hlen]; exact uzz)] at a1zz; cases a1zz
    have ezz : tx7.getD jzz [] = R := Option.some.inj ((tx7_d jzz hj).1.symm.trans a1zz)
    rw [← ezz] at a3
    have ejk : jzz = kzz := by
      rcases (show jzz = kzz ∨ jzz ≠ kzz by omega) with uzz | uzz
      · exact uzz
      · have dj := tx7_d jzz hj
        have dk := tx7_d kzz b1
        exact absurd b3 (IsW.ne hzz (all_dig dj.2.2) dj.2.1 (all_dig dk.2.2) dk.2.1 (tx7_n jzz hj kzz b1 uzz) a3)
    exact Or.inr ⟨jzz, hj, a2, by rw [ejk]; exact b2, a3.1⟩
  · exact Or.inl ⟨a1zz, b1⟩
  · exact absurd b3 (a2 _ (memzz kzz b1))
set_option maxHeartbeats 200000 in
theorem part8 {rd o : Ob} {z1 z2 : Int32} (hzz : TT rd o) (ht : ∀ kzz, kzz < 7 → (gM o 32 kzz).toInt = codR (tx8.getD kzz [])) (h1 : f_X6_wordOf rd 8 = some z1) (h2 : f_X9_orderPartAt o = some z2) : (z1 = -1 ∧ z2 = -1) ∨ (∃ jzz : Nat, jzz < 7 ∧ z1.toInt = (jzz : Int) ∧ z2.toInt = (jzz : Int) + 1 ∧ gI o 16 = 1) := by
  have azz := wo8 hzz (by decide) tx8_ok (by decide) h1
  have bzz := p8_lp hzz ht zfu (-1) 0 0 (by decide) (by decide) (Or.inl ⟨rfl, fun jzz hj => absurd hj (Nat.not_lt_zero _)⟩) h2
  have hlen : tx8.length = 7 := by decide
  have memzz : ∀ jzz, jzz < 7 → tx8.getD jzz [] ∈ tx8 := fun jzz hj => List.mem_of_getElem? (tx8_d jzz hj).1
  rcases azz with ⟨jzz, R, a1zz, a2, a3⟩ | ⟨a1zz, a2⟩ <;> rcases bzz with ⟨b1, b2⟩ | ⟨kzz, b1, b2, b3⟩
  · have hj : jzz < 7 := by
      rcases (show jzz < 7 ∨ 7 ≤ jzz by omega) with uzz | uzz
      · exact uzz
      · rw [List.getElem?_eq_none (by rw [hlen]; exact uzz)] at a1zz; cases a1zz
    have ezz : tx8.getD jzz [] = R := Option.some.inj ((tx8_d jzz hj).1.symm.trans a1zz)
    rw [← ezz] at a3
    exact absurd a3 (b2 jzz hj)
  · have hj : jzz < 7 := by
      rcases (show jzz < 7 ∨ 7 ≤ jzz by omega) with uzz | uzz
      · exact uzz
      · rw [List.getElem?_eq_none (by rw [hlen]; exact uzz)] at a1zz; cases a1zz
    have ezz : tx8.getD jzz [] = R := Option.some.inj ((tx8_d jzz hj).1.symm.trans a1zz)
    rw [← ezz] at a3
    have ejk : jzz = kzz := by
      rcases (show jzz = kzz ∨ jzz ≠ kzz by omega) with uzz | uzz
      · exact uzz
      · have dj := tx8_d jzz hj
        have dk := tx8_d kzz b1
        exact absurd b3 (IsW.ne hzz (all_dig dj.2.2) dj.2.1 (all_dig dk.2.2) dk.2.1 (tx8_n jzz hj kzz b1 uzz) a3)
    exact Or.inr ⟨jzz, hj, a2, by rw [ejk]; exact b2, a3.1⟩
  · exact Or.inl ⟨a1zz, b1⟩
  · exact absurd b3 (a2 _ (memzz kzz b1))
def RF (o o' : Ob) : Prop := (∀ izz, izz ≠ 14 → izz ≠ 15 → izz ≠ 16 → izz ≠ 18 → izz ≠ 19 → izz ≠ 23 → izz ≠ 26 → izz ≠ 29 → izz ≠ 30 → gI o' izz = gI o izz) ∧ (∀ izz, izz ≠ 24 → izz ≠ 25 → izz ≠ 27 → izz ≠ 28 → gA o' izz = gA o izz) ∧ o'.2.2.2 = o.2.2.2
set_option maxHeartbeats 200000 in
theorem RF.rf {o : Ob} : RF o o := ⟨fun _ _ _ _ _ _ _ _ _ _ => rfl, fun _ _ _ _ _ => rfl, rfl⟩
set_option maxHeartbeats 200000 in
theorem RF.tr {o o' o'' : Ob} (hzz : RF o o') (h' : RF o' o'') : RF o o'' := ⟨fun izz azz bzz czz d ezz fzz gzz kzz l => (h'.1 izz azz bzz czz d ezz fzz gzz kzz l).trans (hzz.1 izz azz bzz czz d ezz fzz gzz kzz l), fun izz azz bzz czz d => (h'.2.1 izz azz bzz czz d).trans (hzz.2.1 izz azz bzz czz d), h'.2.2.trans hzz.2.2⟩
set_option maxHeartbeats 200000 in
theorem FR9.rr {o o' : Ob} (hzz : FR9 o o') : RF o o' := ⟨fun izz azz bzz czz _ _ _ _ _ _ => hzz.1 izz azz bzz czz, fun izz _ _ _ _ => hzz.gA izz, congrArg Prod.snd hzz.2.2⟩
set_option maxHeartbeats 200000 in
theorem FP.rr {o o' : Ob} (hzz : FP o o') : RF o o' := ⟨fun izz _ _ _ _ _ azz _ bzz _ => hzz.1 izz azz bzz, fun izz azz bzz _ _ => hzz.2.2.1 izz azz bzz, hzz.2.2.2⟩
def CF (rd oc rd' oc' : Ob) : Prop := (∀ izz, izz ≠ 3 → izz ≠ 5 → izz ≠ 6 → izz ≠ 7 → izz ≠ 8 → izz ≠ 9 → gI rd' izz = gI rd izz) ∧ rd'.2 = rd.2 ∧ (∀ izz, izz ≠ 8 → gI oc' izz = gI oc izz) ∧ (∀ izz, izz ≠ 5 → izz ≠ 6 → gA oc' izz = gA oc izz)
set_option maxHeartbeats 200000 in
theorem CF.rf {rd oc : Ob} : CF rd oc rd oc := ⟨fun _ _ _ _ _ _ _ => rfl, rfl, fun _ _ => rfl, fun _ _ _ => rfl⟩
set_option maxHeartbeats 200000 in
theorem CF.tr {rd oc rd' oc' rd'' oc'' : Ob} (hzz : CF rd oc rd' oc') (h' : CF rd' oc' rd'' oc'') : CF rd oc rd'' oc'' := ⟨fun izz azz bzz czz d ezz fzz => (h'.1 izz azz bzz czz d ezz fzz).trans (hzz.1 izz azz bzz czz d ezz fzz), h'.2.1.trans hzz.2.1, fun izz azz => (h'.2.2.1 izz azz).trans (hzz.2.2.1 izz azz), fun izz azz bzz => (h'.2.2.2 izz azz bzz).trans (hzz.2.2.2 izz azz bzz)⟩
set_option maxHeartbeats 200000 in
theorem FR6.cc {rd rd' oc : Ob} (hzz : FR6 rd rd') : CF rd oc rd' oc := ⟨fun izz _ _ azz bzz czz d => hzz.1 izz azz bzz czz d, hzz.2, fun _ _ => rfl, fun _ _ _ => rfl⟩
def PSt (od : Bool) (rd oc o : Ob) (k1zz k2zz pzz bzz : Nat) : Prop := TT rd o ∧ gI o 19 = 0 ∧ gI rd 5 = gI o 26 ∧ (0 ≤ (gI o 26).toInt ∧ (gI o 26).toInt ≤ 50) ∧ (gI oc 8).toInt = (k1zz : Int) ∧ (gI o 23).toInt = (k2zz : Int) ∧ ((k1zz + pzz : Nat) : Int) ≤ (gI o 14).toInt ∧ (gI o 29).toInt = (bzz : Int) ∧ bzz ≤ 400 ∧ k2zz ≤ 400 ∧ MD od rd o
set_option maxHeartbeats 200000 in
theorem MD.fr {od : Bool} {rd o rd' o' oc oc' : Ob} (hzz : MD od rd o) (czz : CF rd oc rd' oc') (rzz : RF o o') : MD od rd' o' := by
  have e4zz := czz.1 4 (by decide) (by decide) (by decide) (by decide) (by decide) (by decide)
  have e20 := rzz.1 20 (by decide) (by decide) (by decide) (by decide) (by decide) (by decide) (by decide) (by decide) (by decide)
  have em : ∀ izz, gM o' izz = gM o izz := fun izz => congrFun (congrArg Prod.fst rzz.2.2) izz
  exact ⟨fun qzz => by rw [e4zz, e20]; exact hzz.1 qzz, fun qzz => by rw [e4zz, e20]; exact hzz.2.1 qzz, fun kzz hk => by rw [em 31]; exact hzz.2.2.1 kzz hk, fun kzz hk => by rw [em 32]; exact hzz.2.2.2 kzz hk⟩
def Bad (rd oc o : Ob) (zzz : Int32 × Ob × Ob) (yzz : Ob) : Prop := zzz.1 = 0 ∧ gI yzz 19 = 1 ∧ gI yzz 18 = gI zzz.2.1 3 ∧ RF o yzz ∧ CF rd oc zzz.2.1 zzz.2.2
set_option maxHeartbeats 200000 in
theorem bad_no {rd oc o oc' o' yzz : Ob} {Nzz : Nat} {v1zz v2 : Int32} (hzz : TT rd o) (eo : o' = sI (sI o 19 1) 18 (gI o 14)) (hy : lp_X9_readExpression_20 Nzz (v1zz, v2, o') = some yzz) (hczz : CF rd oc (sI rd 3 (gI rd 7)) oc') : Bad rd oc o (0, sI rd 3 (gI rd 7), oc') yzz := by
  have k19 : gI o' 19 = 1 := by rw [eo]; rfl
  have fzz := ex_bad (by rw [k19]; decide) hy
  have rzz : RF o o' := by
    rw [eo]
    exact ⟨fun izz _ _ _ azz bzz _ _ _ _ => (fset_ne azz).trans (fset_ne bzz), fun _ _ _ _ _ => rfl, rfl⟩
  refine ⟨rfl, (fzz.1 19 (by decide) (by decide)).trans k19, ?_, rzz.tr fzz.rr, hczz⟩
  rw [fzz.1 18 (by decide) (by decide), eo]
  show gI o 14 = gI rd 7
  exact hzz.2.2.1.symm
set_option maxHeartbeats 200000 in
theorem CF.stop {rd oc : Ob} {vzz : Int32} : CF rd oc (sI rd 3 vzz) oc := ⟨fun izz azz _ _ _ _ _ => fset_ne azz, rfl, fun _ _ => rfl, fun _ _ _ => rfl⟩
set_option maxHeartbeats 200000 in
theorem CF.add {rd oc oc' : Ob} (h1 : ∀ izz, izz ≠ 8 → gI oc' izz = gI oc izz) (h2 : ∀ izz, izz ≠ 5 → izz ≠ 6 → gA oc' izz = gA oc izz) : CF rd oc rd oc' := ⟨fun _ _ _ _ _ _ _ => rfl, rfl, h1, h2⟩
set_option maxHeartbeats 200000 in
theorem l32 {xzz : Int64} (h0 : 0 ≤ xzz.toInt) (h1 : xzz.toInt ≤ 10000009) : xzz.toInt32.toInt = xzz.toInt := by
  rw [Int64.toInt_toInt32]; exact Int.bmod_eq_of_le (by omega) (by omega)
set_option maxHeartbeats 200000 in
theorem leaf_no {o zzz : Ob} {p0zz p1zz p2zz : Int32} (h19 : gI o 19 = 0) (hn : p0zz = 0 ∨ 50 ≤ (gI o 26).toInt) (hzz : f_X9_leaf o p0zz p1zz p2zz = some zzz) : zzz = sI (sI o 19 1) 18 (gI o 14) := by
  unfold f_X9_leaf at hzz
  have h18 : bk_X9_leaf_18 p1zz p2zz o = some zzz → zzz = sI (sI o 19 1) 18 (gI o 14) := by
    intro hzz
    unfold bk_X9_leaf_18 bk_X9_leaf_19 at hzz
    obtain ⟨z1, ez, hzz⟩ := z_bd hzz
    have ezz := mu_no h19 ez
    have kzz : gI z1 19 = 1 := by rw [ezz]; rfl
    rw [← Option.some.inj (z_f hzz (by rw [kzz]; decide))]; exact ezz
  by_cases czz : p0zz = 0
  · exact h18 (z_t hzz czz)
  · rcases hn with qzz | qzz
    · exact absurd qzz czz
    · exact h18 (z_t (z_f hzz czz) (Int32.le_iff_toInt_le.mpr (by have : (50 : Int32).toInt = 50 := (by decide); omega)))
set_option maxHeartbeats 200000 in
theorem leaf_ok {o zzz : Ob} {p1zz p2zz : Int32} {k2zz : Nat} (h19 : gI o 19 = 0) (hn : (gI o 26).toInt < 50) (h0 : 0 ≤ (gI o 26).toInt) (ek : (gI o 23).toInt = (k2zz : Int)) (hk : k2zz ≤ 400) (hzz : f_X9_leaf o 1 p1zz p2zz = some zzz) : ∃ o1, f_X9_next o = some o1 ∧ (FR9 o o1 → RF o zzz ∧ ckp k2zz o zzz ∧ (gI zzz 23).toInt = (k2zz : Int) + 1 ∧ gI zzz 29 = gI o 29 ∧ gA zzz 24 k2zz = p1zz ∧ gA zzz 25 k2zz = p2zz ∧ k2zz < 400 ∧ gA zzz 27 = gA o 27 ∧ gA zzz 28 = gA o 28 ∧ gI zzz 30 = gI o 30 ∧ gI zzz 19 = 0 ∧ gI zzz 26 = gI o 26 + 1 ∧ gI zzz 14 = gI o1 14 ∧ gI zzz 15 = gI o1 15 ∧ gI zzz 16 = gI o1 16 ∧ gL zzz 17 = gL o1 17) := by
  unfold f_X9_leaf at hzz
  have hzz := z_f (z_f hzz (by decide)) (fun czz => by have czz := cv_le (a := 50) (b := (gI o 26).toInt) (by decide) rfl czz; omega)
  unfold bk_X9_leaf_19 at hzz
  obtain ⟨o1, ez, hzz⟩ := z_bd hzz
  have ez := mu_ok h19 (by decide) ez
  refine ⟨o1, ez, fun fzz => ?_⟩
  have k19 : gI o1 19 = 0 := (fzz.1 19 (by decide) (by decide) (by decide)).trans h19
  obtain ⟨z2, ez2, hzz⟩ := z_bd (z_t hzz k19)
  obtain ⟨o3zz, e3zz, hzz⟩ := z_lt hzz
  obtain ⟨g1, g2, g3zz, g4, g5zz, g6, g7⟩ := emit9 (czz := k2zz) (by rw [fzz.1 23 (by decide) (by decide) (by decide)]; exact ek) hk ez2
  have f3zz : RF z2 o3zz := by rw [e3zz]; exact ⟨fun izz _ _ _ _ _ _ azz _ _ => fset_ne azz, fun _ _ _ _ _ => rfl, rfl⟩
  rw [← Option.some.inj hzz]
  have kAzz : ∀ izz, izz ≠ 24 → izz ≠ 25 → gA o3zz izz = gA o izz := fun izz azz bzz => by
    have wzz : gA o3zz izz = gA z2 izz := by rw [e3zz]; rfl
    exact wzz.trans ((g1.2.2.1 izz azz bzz).trans (fzz.gA izz))
  have k26 : gI z2 26 = gI o 26 := (g1.1 26 (by decide) (by decide)).trans (fzz.1 26 (by decide) (by decide) (by decide))
  refine ⟨fzz.rr.tr (g1.rr.tr f3zz), fun jzz hj => ⟨?_, ?_⟩, by rw [e3zz]; exact g3zz, ?_, by rw [e3zz]; exact g5zz, by rw [e3zz]; exact g6, g7, kAzz 27 (by decide) (by decide), kAzz 28 (by decide) (by decide), ?_, ?_, ?_, ?_, ?_, ?_, ?_⟩
  · have wzz : gA o3zz 24 jzz = gA z2 24 jzz := by rw [e3zz]; rfl
    rw [wzz, (g2 jzz hj).1, fzz.gA 24]
  · have wzz : gA o3zz 25 jzz = gA z2 25 jzz := by rw [e3zz]; rfl
    rw [wzz, (g2 jzz hj).2, fzz.gA 25]
  · have wzz : gI o3zz 29 = gI z2 29 := by rw [e3zz]; rfl
    rw [wzz, g4]; exact fzz.1 29 (by decide) (by decide) (by decide)
  · have wzz : gI o3zz 30 = gI z2 30 := by rw [e3zz]; rfl
    rw [wzz, g1.1 30 (by decide) (by decide)]; exact fzz.1 30 (by decide) (by decide) (by decide)
  · have wzz : gI o3zz 19 = gI z2 19 := by rw [e3zz]; rfl
    rw [wzz, g1.1 19 (by decide) (by decide)]; exact k19
  · rw [e3zz]; show gI z2 26 + 1 = _; rw [k26]
  · have wzz : gI o3zz 14 = gI z2 14 := by rw [e3zz]; rfl
    rw [wzz]; exact g1.1 14 (by decide) (by decide)
  · have wzz : gI o3zz 15 = gI z2 15 := by rw [e3zz]; rfl
    rw [wzz]; exact g1.1 15 (by decide) (by decide)
  · have wzz : gI o3zz 16 = gI z2 16 := by rw [e3zz]; rfl
    rw [wzz]; exact g1.1 16 (by decide) (by decide)
  · have wzz : gL o3zz 17 = gL z2 17 := by rw [e3zz]; rfl
    rw [wzz]; exact congrFun g1.2.1 17
set_option maxHeartbeats 200000 in
theorem TT.cg {rd o rd' o' : Ob} (hzz : TT rd o) (a2 : gI rd' 2 = gI rd 2) (aA : gA rd' 0 = gA rd 0) (a6 : gI rd' 6 = gI rd 6) (a7 : gI rd' 7 = gI rd 7) (a8 : gI rd' 8 = gI rd 8) (a9 : gI rd' 9 = gI rd 9) (b13 : gI o' 13 = gI o 13) (bA : gA o' 12 = gA o 12) (b14 : gI o' 14 = gI o 14) (b15 : gI o' 15 = gI o 15) (b16zz : gI o' 16 = gI o 16) (b17 : gL o' 17 = gL o 17) : TT rd' o' := by
  obtain ⟨⟨z1, z2, z3, z4⟩, e6zz, e7zz, e8, azz, bzz, ea, eb, hab, hbzz, hx⟩ := hzz
  refine ⟨⟨by rw [a2, b13]; exact z1, by rw [aA, bA]; exact z2, by rw [b13]; exact z3, by rw [b13]; exact z4⟩, by rw [a6, b16zz]; exact e6zz, by rw [a7, b14]; exact e7zz, by rw [a8, b15]; exact e8, azz, bzz, by rw [b14]; exact ea, by rw [b15]; exact eb, hab, by rw [b13]; exact hbzz, ?_⟩
  rw [b16zz, b13, bA, b17, a9]; exact hx
def Good1 (od : Bool) (rd oc o rd' oc' o' : Ob) (k1zz k2zz pzz bzz n k1' k2' : Nat) : Prop := PSt od rd' oc' o' k1' k2' pzz bzz ∧ RF o o' ∧ CF rd oc rd' oc' ∧ (∀ jzz, jzz < bzz → gA o' 27 jzz = gA o 27 jzz ∧ gA o' 28 jzz = gA o 28 jzz) ∧ gI o' 30 = gI o 30 ∧ (∀ jzz, jzz < k1zz → gA oc' 5 jzz = gA oc 5 jzz ∧ gA oc' 6 jzz = gA oc 6 jzz) ∧ ckp k2zz o o' ∧ (gI o' 26).toInt = (gI o 26).toInt + (n : Int) ∧ Sx od (gA oc' 5) (gA oc' 6) (gA o' 24) (gA o' 25) false k1zz k1' k2zz k2' n
set_option maxHeartbeats 200000 in
theorem leaf_fin {od : Bool} {rd oc o rd2 oc2 o1 zo : Ob} {k1zz k2zz pzz bzz : Nat} {s wzz op arg : Int32} (hzz : PSt od rd oc o k1zz k2zz pzz bzz) (hTzz : TT rd2 o1) (f9zz : FR9 o o1) (c6zz : ∀ izz, izz ≠ 5 → izz ≠ 6 → izz ≠ 7 → izz ≠ 8 → izz ≠ 9 → gI rd2 izz = gI rd izz) (c62 : rd2.2 = rd.2) (c5zz : gI rd2 5 = gI rd 5 + 1) (hpos : ((k1zz + 1 + pzz : Nat) : Int) ≤ (gI o1 14).toInt) (h50 : (gI o 26).toInt < 50)
    (a1zz : (gI oc2 8).toInt = (k1zz : Int) + 1) (a2 : gA oc2 5 k1zz = s) (a3 : gA oc2 6 k1zz = wzz) (a4 : ∀ jzz, jzz ≠ k1zz → gA oc2 5 jzz = gA oc 5 jzz ∧ gA oc2 6 jzz = gA oc 6 jzz) (a5 : ∀ izz, izz ≠ 8 → gI oc2 izz = gI oc izz) (a6 : ∀ izz, izz ≠ 5 → izz ≠ 6 → gA oc2 izz = gA oc izz)
    (hz : RF o zo ∧ ckp k2zz o zo ∧ (gI zo 23).toInt = (k2zz : Int) + 1 ∧ gI zo 29 = gI o 29 ∧ gA zo 24 k2zz = op ∧ gA zo 25 k2zz = arg ∧ k2zz < 400 ∧ gA zo 27 = gA o 27 ∧ gA zo 28 = gA o 28 ∧ gI zo 30 = gI o 30 ∧ gI zo 19 = 0 ∧ gI zo 26 = gI o 26 + 1 ∧ gI zo 14 = gI o1 14 ∧ gI zo 15 = gI o1 15 ∧ gI zo 16 = gI o1 16 ∧ gL zo 17 = gL o1 17)
    (hs : (s = 0 ∧ op = 0 ∧ wzz = arg) ∨ (s = 1 ∧ WD od wzz op arg)) : Good1 od rd oc o rd2 oc2 zo k1zz k2zz pzz bzz 1 (k1zz + 1) (k2zz + 1) := by
  obtain ⟨-, h19, e5zz, hr, ek1, ek2, hp, eb, hbzz, hk2, hMzz⟩ := hzz
  obtain ⟨r1zz, r2, r3, r4, r5zz, r6, r7, r8, r9, r10, r11, r12, r13, r14, r15, r16⟩ := hz
  have t26 : (gI zo 26).toInt = (gI o 26).toInt + 1 := by rw [r12]; exact i32_add rfl (by decide) (by omega) (by omega)
  have cfzz : CF rd oc rd2 oc2 := ⟨fun izz _ azz bzz czz d ezz => c6zz izz azz bzz czz d ezz, c62, a5, a6⟩
  have k13 : gI zo 13 = gI o1 13 := (r1zz.1 13 (by decide) (by decide) (by decide) (by decide) (by decide) (by decide) (by decide) (by decide) (by decide)).trans (f9zz.1 13 (by decide) (by decide) (by decide)).symm
  have kAzz : gA zo 12 = gA o1 12 := (r1zz.2.1 12 (by decide) (by decide) (by decide) (by decide)).trans (f9zz.gA 12).symm
  refine ⟨⟨hTzz.cg rfl rfl rfl rfl rfl rfl k13 kAzz r13 r14 r15 r16, r11, by rw [c5zz, r12, e5zz], ⟨by omega, by omega⟩, by omega, by omega, by rw [r13]; omega, by rw [r4]; exact eb, hbzz, by omega, hMzz.fr cfzz r1zz⟩, r1zz, cfzz, fun jzz hj => by rw [r8, r9]; exact ⟨rfl, rfl⟩, r10, fun jzz hj => a4 jzz (by omega), r2, by rw [t26]; rfl, ?_⟩
  have cl := Sx.cl od (gA oc2 5) (gA oc2 6) (gA zo 24) (gA zo 25)
  rcases hs with ⟨s1zz, s2zz, s3zz⟩ | ⟨s1zz, s2zz⟩
  · exact cl.1 k1zz k2zz (by rw [a2]; exact s1zz) (by rw [r5zz]; exact s2zz) (by rw [a3, r6]; exact s3zz)
  · exact cl.2.1 k1zz k2zz (by rw [a2]; exact s1zz) (by rw [a3, r5zz, r6]; exact s2zz)
set_option maxHeartbeats 200000 in
theorem c_norm {rd oc : Ob} {zzz : Int32 × Ob × Ob} {t : Nat} (ht : (gI rd 4 = 0 ∧ t = 8) ∨ (¬ gI rd 4 = 0 ∧ t = 7)) (hzz : f_X6_readSinglePart 12 400 rd oc = some zzz) : ∃ z1 : Int32, f_X6_wordOf rd t = some z1 ∧ (((gI rd 6 = 2 ∧ (gI rd 9).toInt ≤ 1000) ∧ bk_X6_readSinglePart_52 12 400 1 z1 rd oc = some zzz) ∨ (¬ (gI rd 6 = 2 ∧ (gI rd 9).toInt ≤ 1000) ∧ ((z1 = -1 ∧ bk_X6_readSinglePart_61 12 400 rd oc = some zzz) ∨ (¬ z1 = -1 ∧ bk_X6_readSinglePart_52 12 400 0 z1 rd oc = some zzz)))) := by
  have h23 : ∀ s0zz : Int32, bk_X6_readSinglePart_23 12 400 s0zz rd oc = some zzz → bk_X6_readSinglePart_39 12 400 s0zz t rd oc = some zzz := by
    intro s0zz hzz
    unfold bk_X6_readSinglePart_23 at hzz
    rcases ht with ⟨azz, bzz⟩ | ⟨azz, bzz⟩
    · rw [bzz]; exact z_t hzz azz
    · rw [bzz]; exact z_f hzz azz
  have h1 : bk_X6_readSinglePart_39 12 400 1 t rd oc = some zzz → ∃ z1 : Int32, f_X6_wordOf rd t = some z1 ∧ bk_X6_readSinglePart_52 12 400 1 z1 rd oc = some zzz := by
    intro hzz
    unfold bk_X6_readSinglePart_39 at hzz
    obtain ⟨z1, ez, hzz⟩ := z_bd hzz
    exact ⟨z1, ez, z_f hzz (by decide)⟩
  have h0 : bk_X6_readSinglePart_39 12 400 0 t rd oc = some zzz → ∃ z1 : Int32, f_X6_wordOf rd t = some z1 ∧ ((z1 = -1 ∧ bk_X6_readSinglePart_61 12 400 rd oc = some zzz) ∨ (¬ z1 = -1 ∧ bk_X6_readSinglePart_52 12 400 0 z1 rd oc = some zzz)) := by
    intro hzz
    unfold bk_X6_readSinglePart_39 at hzz
    obtain ⟨z1, ez, hzz⟩ := z_bd hzz
    have hzz := z_t hzz rfl
    by_cases czz : z1 = -1
    · exact ⟨z1, ez, Or.inl ⟨czz, z_t hzz czz⟩⟩
    · exact ⟨z1, ez, Or.inr ⟨czz, z_f hzz czz⟩⟩
  unfold f_X6_readSinglePart bk_X6_readSinglePart_22 at hzz
  by_cases czz : gI rd 6 = 2
  · have hzz := z_t hzz czz
    by_cases d : (1000 : Int32) < gI rd 9
    · have d' := cv_lt (a := 1000) (b := (gI rd 9).toInt) (by decide) rfl d
      obtain ⟨z1, azz, bzz⟩ := h0 (h23 0 (z_t hzz d))
      exact ⟨z1, azz, Or.inr ⟨fun qzz => by omega, bzz⟩⟩
    · have d' := cv_nlt (a := 1000) (b := (gI rd 9).toInt) (by decide) rfl d
      obtain ⟨z1, azz, bzz⟩ := h1 (h23 1 (z_f hzz d))
      exact ⟨z1, azz, Or.inl ⟨⟨czz, d'⟩, bzz⟩⟩
  · obtain ⟨z1, azz, bzz⟩ := h0 (h23 0 (z_f hzz czz))
    exact ⟨z1, azz, Or.inr ⟨fun qzz => czz qzz.1, bzz⟩⟩
set_option maxHeartbeats 200000 in
theorem r_norm {o : Ob} {z2 : Int32} {zr : Int32 × Ob} (hzz : bk_X9_readPart_35 z2 o = some zr) : ((gI o 16 = 2 ∧ (gL o 17).toInt ≤ 1000) ∧ (z2 = -1 → bk_X9_readPart_99 (-1) (gL o 17).toInt32 0 1 o = some zr)) ∨ (¬ (gI o 16 = 2 ∧ (gL o 17).toInt ≤ 1000) ∧ ((z2 = -1 ∧ bk_X9_readPart_99 (-1) 0 0 0 o = some zr) ∨ (¬ z2 = -1 ∧ bk_X9_readPart_99 z2 0 z2 1 o = some zr))) := by
  have h1 : bk_X9_readPart_60 z2 1 o = some zr → z2 = -1 → bk_X9_readPart_99 (-1) (gL o 17).toInt32 0 1 o = some zr := by
    intro hzz ezz
    rw [ezz] at hzz
    unfold bk_X9_readPart_60 at hzz
    have hzz := z_f (z_t hzz rfl) (by decide)
    unfold bk_X9_readPart_71 bk_X9_readPart_76 at hzz
    have hzz := z_t hzz rfl
    unfold bk_X9_readPart_86 at hzz
    exact z_f hzz (by decide)
  have h0 : bk_X9_readPart_60 z2 0 o = some zr → (z2 = -1 ∧ bk_X9_readPart_99 (-1) 0 0 0 o = some zr) ∨ (¬ z2 = -1 ∧ bk_X9_readPart_99 z2 0 z2 1 o = some zr) := by
    intro hzz
    unfold bk_X9_readPart_60 at hzz
    by_cases czz : z2 = -1
    · rw [czz] at hzz
      have hzz := z_t (z_t hzz rfl) rfl
      unfold bk_X9_readPart_76 at hzz
      have hzz := z_t hzz rfl
      unfold bk_X9_readPart_86 at hzz
      exact Or.inl ⟨czz, z_t hzz rfl⟩
    · have hzz := z_f hzz czz
      unfold bk_X9_readPart_71 bk_X9_readPart_76 at hzz
      have hzz := z_f hzz czz
      unfold bk_X9_readPart_86 at hzz
      exact Or.inr ⟨czz, z_t hzz rfl⟩
  unfold bk_X9_readPart_35 bk_X9_readPart_59 at hzz
  by_cases czz : gI o 16 = 2
  · have hzz := z_t hzz czz
    by_cases d : (0 : Int32) < lg_cmp (gL o 17) (1000 : Int64)
    · have d' := cvl_gt (a := (gL o 17).toInt) (b := 1000) rfl (by decide) d
      exact Or.inr ⟨fun qzz => by omega, h0 (z_t hzz d)⟩
    · have d' := cvl_ngt (a := (gL o 17).toInt) (b := 1000) rfl (by decide) d
      exact Or.inl ⟨⟨czz, d'⟩, h1 (z_f hzz d)⟩
  · exact Or.inr ⟨fun qzz => czz qzz.1, h0 (z_f hzz czz)⟩
set_option maxHeartbeats 200000 in
theorem single_eq {od : Bool} {rd oc o yzz : Ob} {k1zz k2zz pzz bzz Nzz : Nat} {tst : Int32} {zzz : Int32 × Ob × Ob} {zr : Int32 × Ob} (hzz : PSt od rd oc o k1zz k2zz pzz bzz) (nb : ¬ IsS o 91) (h1 : f_X6_readSinglePart 12 400 rd oc = some zzz) (h2 : f_X9_readPart o = some zr) (hy : lp_X9_readExpression_20 Nzz (tst, zr.1, zr.2) = some yzz) : Bad rd oc o zzz yzz ∨ (zzz.1 = 1 ∧ zr.1 = 3 ∧ Good1 od rd oc o zzz.2.1 zzz.2.2 zr.2 k1zz k2zz pzz bzz 1 (k1zz + 1) (k2zz + 1)) := by
  have hP := hzz
  obtain ⟨hTzz, h19, e5zz, hr, ek1, ek2, hp, eb, hbzz, hk2, hMzz⟩ := hzz
  have hT' := hTzz
  obtain ⟨hz0, t6, t7, t8, azz, bb, ea, ebb, hab, hbb, hx⟩ := hT'
  have h400 := hz0.2.2.2
  obtain ⟨t, ht, hword⟩ : ∃ t : Nat, ((gI rd 4 = 0 ∧ t = 8) ∨ (¬ gI rd 4 = 0 ∧ t = 7)) ∧ (∀ z1, f_X6_wordOf rd t = some z1 → ∃ z2, bk_X9_readPart_35 z2 o = some zr ∧ ((z1 = -1 ∧ z2 = -1) ∨ (∃ jzz : Nat, (od = false ∧ jzz < 9 ∨ od = true ∧ jzz < 7) ∧ z1.toInt = (jzz : Int) ∧ z2.toInt = (jzz : Int) + 1 ∧ gI o 16 = 1))) := by
    unfold f_X9_readPart at h2
    obtain ⟨zs, ezs, h2⟩ := z_bd h2
    rcases s9 hTzz ezs with ⟨q1zz, -⟩ | ⟨-, q2zz⟩
    · have h2 := z_t h2 q1zz
      cases od with
      | false =>
        obtain ⟨m1zz, m2zz⟩ := hMzz.2.1 rfl
        obtain ⟨z2, ez2, h2⟩ := z_bd (z_t h2 m2zz)
        refine ⟨7, Or.inr ⟨m1zz, rfl⟩, fun z1 ez1 => ⟨z2, h2, ?_⟩⟩
        rcases part7 hTzz hMzz.2.2.1 ez1 ez2 with qzz | ⟨jzz, q1zz, q2zz, q3zz, q4zz⟩
        · exact Or.inl qzz
        · exact Or.inr ⟨jzz, Or.inl ⟨rfl, q1zz⟩, q2zz, q3zz, q4zz⟩
      | true =>
        obtain ⟨m1zz, m2zz⟩ := hMzz.1 rfl
        obtain ⟨z2, ez2, h2⟩ := z_bd (z_f h2 m2zz)
        refine ⟨8, Or.inl ⟨m1zz, rfl⟩, fun z1 ez1 => ⟨z2, h2, ?_⟩⟩
        rcases part8 hTzz hMzz.2.2.2 ez1 ez2 with qzz | ⟨jzz, q1zz, q2zz, q3zz, q4zz⟩
        · exact Or.inl qzz
        · exact Or.inr ⟨jzz, Or.inr ⟨rfl, q1zz⟩, q2zz, q3zz, q4zz⟩
    · exact absurd q2zz nb
  obtain ⟨z1, ez1, hczz⟩ := c_norm ht h1
  obtain ⟨z2, hr2, hw⟩ := hword z1 ez1
  have hrn := r_norm hr2
  have hfail : ∀ v1zz s0zz s1zz s2zz : Int32, (s2zz = 0 ∨ 50 ≤ (gI o 26).toInt) → bk_X9_readPart_99 v1zz s0zz s1zz s2zz o = some zr → bk_X6_readSinglePart_61 12 400 rd oc = some zzz → Bad rd oc o zzz yzz := by
    intro v1zz s0zz s1zz s2zz hs k2' k1'
    unfold bk_X9_readPart_99 at k2'
    obtain ⟨z3, ez3, k2'⟩ := z_bd k2'
    have e3zz := leaf_no h19 hs ez3
    have k19 : gI z3 19 = 1 := by rw [e3zz]; rfl
    have ezr : zr.2 = z3 := by
      by_cases c1zz : gI z3 20 = 0
      · rw [← Option.some.inj (z_t k2' c1zz)]
      · have k2' := z_f k2' c1zz
        by_cases c2zz : v1zz < 6
        · rw [← Option.some.inj (z_t k2' c2zz)]
        · have k2' := z_f (z_f k2' c2zz) (by rw [k19]; decide)
          rw [← Option.some.inj k2']
    unfold bk_X6_readSinglePart_61 at k1'
    obtain ⟨z12, ez12, k1'⟩ := z_bd k1'
    obtain ⟨-, k1'⟩ := z_gd k1'
    obtain ⟨u1zz, u2zz⟩ := stop8 ez12
    rw [← Option.some.inj k1', u1zz, u2zz]
    exact bad_no hTzz (ezr.trans e3zz) hy CF.stop
  have h61 : 50 ≤ (gI o 26).toInt → ∀ v1zz z1 : Int32, bk_X6_readSinglePart_52 12 400 v1zz z1 rd oc = some zzz → bk_X6_readSinglePart_61 12 400 rd oc = some zzz := by
    intro qzz v1zz z1 kzz
    unfold bk_X6_readSinglePart_52 at kzz
    exact z_f kzz (fun czz => by have czz := cv_lt (a := (gI o 26).toInt) (b := 50) (by rw [e5zz]) (by decide) czz; omega)
  rcases hczz with ⟨⟨n1zz, n2zz⟩, hczz⟩ | ⟨hn, hczz⟩
  ·
    have n16 : gI o 16 = 2 := by rw [← t6]; exact n1zz
    have hnv : azz < bb ∧ NV (gI rd 9) (gL o 17) := by
      rcases hx with ⟨qzz, -⟩ | ⟨qzz, -⟩ | ⟨-, q1zz, q2zz⟩ | ⟨qzz, -⟩
      · exact absurd (qzz.symm.trans n16) (by decide)
      · exact absurd (qzz.symm.trans n16) (by decide)
      · exact ⟨q1zz, q2zz⟩
      · exact absurd (qzz.symm.trans n16) (by decide)
    obtain ⟨hlt, v0zz, v1zz, vv⟩ := hnv
    have vw : (gL o 17).toInt ≤ 1000 ∧ (gI rd 9).toInt = (gL o 17).toInt := by rcases vv with qzz | ⟨q1zz, q2zz⟩ <;> omega
    have hz2 : z2 = -1 := by
      rcases hw with ⟨-, qzz⟩ | ⟨jzz, -, -, -, qzz⟩
      · exact qzz
      · exact absurd (n16.symm.trans qzz) (by decide)
    have hr3 : bk_X9_readPart_99 (-1) (gL o 17).toInt32 0 1 o = some zr := by
      rcases hrn with ⟨-, qzz⟩ | ⟨qzz, -⟩
      · exact qzz hz2
      · exact absurd ⟨n16, vw.1⟩ qzz
    rcases (show 50 ≤ (gI o 26).toInt ∨ (gI o 26).toInt < 50 by omega) with q50 | q50
    · exact Or.inl (hfail _ _ _ _ (Or.inr q50) hr3 (h61 q50 _ _ hczz))
    · unfold bk_X6_readSinglePart_52 at hczz
      have hczz := z_t hczz (Int32.lt_iff_toInt_lt.mpr (by rw [e5zz]; have : (50 : Int32).toInt = 50 := (by decide); omega))
      obtain ⟨o2, f2zz, hczz⟩ := z_lt hczz
      have hczz := z_f hczz (by decide)
      obtain ⟨z10, ez10, hczz⟩ := z_bd hczz
      obtain ⟨z11, ez11, hczz⟩ := z_bd hczz
      unfold bk_X9_readPart_99 at hr3
      obtain ⟨z3, ez3, hr3⟩ := z_bd hr3
      obtain ⟨o1, en, hl⟩ := leaf_ok h19 q50 hr.1 ek2 hk2 ez3
      have zz : TZ o2 o := by rw [f2zz]; exact hz0
      obtain ⟨T1, T2, T3, T4⟩ := tk_eq zz (by rw [f2zz]; exact t8) (by omega) (by omega) ez11 en
      have hl := hl T3
      obtain ⟨d1zz, d2zz, d3zz, d4zz, d5zz, d6zz, d7zz⟩ := add8 ek1 (by omega) ez10
      have ezr : zr = (3, z3) := by
        by_cases c1zz : gI z3 20 = 0
        · exact (Option.some.inj (z_t hr3 c1zz)).symm
        · exact (Option.some.inj (z_t (z_f hr3 c1zz) (by decide))).symm
      have e9zz : gI o2 9 = gI rd 9 := by rw [f2zz]; rfl
      have ew : gI o2 9 = (gL o 17).toInt32 := by rw [e9zz]; exact Int32.toInt_inj.mp (by rw [l32 v0zz (by omega)]; exact vw.2)
      refine Or.inr ⟨by rw [← Option.some.inj hczz], by rw [ezr], ?_⟩
      rw [← Option.some.inj hczz, ezr]
      refine leaf_fin (rd2 := z11) (oc2 := z10.2) (o1 := o1) (zo := z3) hP T1 T3 (fun izz x1zz x2zz x3 x4zz x5zz => ?_) ?_ ?_ (by omega) q50 d2zz d3zz d4zz d5zz d6zz d7zz hl (Or.inl ⟨rfl, rfl, ew⟩)
      · rw [T2.1 izz x2zz x3 x4zz x5zz, f2zz]; exact fset_ne x1zz
      · rw [T2.2, f2zz]; rfl
      · rw [T2.1 5 (by decide) (by decide) (by decide) (by decide), f2zz]; rfl
  · have hn' : ¬ (gI o 16 = 2 ∧ (gL o 17).toInt ≤ 1000) := by
      intro qzz
      rcases hx with ⟨uzz, -⟩ | ⟨uzz, -⟩ | ⟨-, -, uzz⟩ | ⟨uzz, -⟩
      · exact absurd (uzz.symm.trans qzz.1) (by decide)
      · exact absurd (uzz.symm.trans qzz.1) (by decide)
      · refine hn ⟨by rw [t6]; exact qzz.1, ?_⟩
        rcases uzz.2.2 with wzz | wzz <;> omega
      · exact absurd (uzz.symm.trans qzz.1) (by decide)
    have hrn : (z2 = -1 ∧ bk_X9_readPart_99 (-1) 0 0 0 o = some zr) ∨ (¬ z2 = -1 ∧ bk_X9_readPart_99 z2 0 z2 1 o = some zr) := by
      rcases hrn with ⟨qzz, -⟩ | ⟨-, qzz⟩
      · exact absurd qzz hn'
      · exact qzz
    have m1zz : (-1 : Int32).toInt = -1 := by decide
    rcases hw with ⟨w1zz, w2zz⟩ | ⟨jzz, hj, w1zz, w2zz, w16⟩
    · have hczz : bk_X6_readSinglePart_61 12 400 rd oc = some zzz := by
        rcases hczz with ⟨-, qzz⟩ | ⟨qzz, -⟩
        · exact qzz
        · exact absurd w1zz qzz
      rcases hrn with ⟨-, qzz⟩ | ⟨qzz, -⟩
      · exact Or.inl (hfail _ _ _ _ (Or.inl rfl) qzz hczz)
      · exact absurd w2zz qzz
    · have hj9 : jzz < 9 := by rcases hj with ⟨-, qzz⟩ | ⟨-, qzz⟩ <;> omega
      have hczz : bk_X6_readSinglePart_52 12 400 0 z1 rd oc = some zzz := by
        rcases hczz with ⟨qzz, -⟩ | ⟨-, qzz⟩
        · rw [qzz] at w1zz; omega
        · exact qzz
      have hr3 : bk_X9_readPart_99 z2 0 z2 1 o = some zr := by
        rcases hrn with ⟨qzz, -⟩ | ⟨-, qzz⟩
        · rw [qzz] at w2zz; omega
        · exact qzz
      have hlt : azz < bb := by
        rcases hx with ⟨uzz, -⟩ | ⟨-, uzz, -⟩ | ⟨uzz, -⟩ | ⟨uzz, -⟩
        · exact absurd (uzz.symm.trans w16) (by decide)
        · exact uzz
        · exact absurd (uzz.symm.trans w16) (by decide)
        · exact absurd (uzz.symm.trans w16) (by decide)
      rcases (show 50 ≤ (gI o 26).toInt ∨ (gI o 26).toInt < 50 by omega) with q50 | q50
      · exact Or.inl (hfail _ _ _ _ (Or.inr q50) hr3 (h61 q50 _ _ hczz))
      · unfold bk_X6_readSinglePart_52 at hczz
        have hczz := z_t hczz (Int32.lt_iff_toInt_lt.mpr (by rw [e5zz]; have : (50 : Int32).toInt = 50 := (by decide); omega))
        obtain ⟨o2, f2zz, hczz⟩ := z_lt hczz
        have hczz := z_t hczz rfl
        obtain ⟨z3c, ez3c, hczz⟩ := z_bd hczz
        unfold bk_X9_readPart_99 at hr3
        obtain ⟨z3, ez3, hr3⟩ := z_bd hr3
        obtain ⟨o1, en, hl⟩ := leaf_ok h19 q50 hr.1 ek2 hk2 ez3
        have zz : TZ o2 o := by rw [f2zz]; exact hz0
        obtain ⟨T1, T2, T3, T4⟩ := tk_eq zz (by rw [f2zz]; exact t8) (by omega) (by omega) ez3c en
        have hl := hl T3
        have c6zz : ∀ izz, izz ≠ 5 → izz ≠ 6 → izz ≠ 7 → izz ≠ 8 → izz ≠ 9 → gI z3c izz = gI rd izz := fun izz x1zz x2zz x3 x4zz x5zz => by rw [T2.1 izz x2zz x3 x4zz x5zz, f2zz]; exact fset_ne x1zz
        have c62 : z3c.2 = rd.2 := by rw [T2.2, f2zz]; rfl
        have c5zz : gI z3c 5 = gI rd 5 + 1 := by rw [T2.1 5 (by decide) (by decide) (by decide) (by decide), f2zz]; rfl
        have k4zz : gI z3c 4 = gI rd 4 := c6zz 4 (by decide) (by decide) (by decide) (by decide) (by decide)
        have k20 : gI z3 20 = gI o 20 := hl.1.1 20 (by decide) (by decide) (by decide) (by decide) (by decide) (by decide) (by decide) (by decide) (by decide)
        have plainzz : (od = false ∨ jzz < 5) → zr = (3, z3) → bk_X6_readSinglePart_115 12 400 z1 z3c oc = some zzz → zzz.1 = 1 ∧ zr.1 = 3 ∧ Good1 od rd oc o zzz.2.1 zzz.2.2 zr.2 k1zz k2zz pzz bzz 1 (k1zz + 1) (k2zz + 1) := by
          intro hod ezr kzz
          unfold bk_X6_readSinglePart_115 at kzz
          obtain ⟨z4, ez4, kzz⟩ := z_bd kzz
          obtain ⟨d1zz, d2zz, d3zz, d4zz, d5zz, d6zz, d7zz⟩ := add8 ek1 (by omega) ez4
          refine ⟨by rw [← Option.some.inj kzz], by rw [ezr], ?_⟩
          rw [← Option.some.inj kzz, ezr]
          refine leaf_fin (rd2 := z3c) (oc2 := z4.2) (o1 := o1) (zo := z3) hP T1 T3 c6zz c62 c5zz (by omega) q50 d2zz d3zz d4zz d5zz d6zz d7zz hl (Or.inr ⟨rfl, Or.inl ⟨jzz, ?_, w1zz, w2zz⟩⟩)
          rcases hod with qzz | qzz
          · exact Or.inr ⟨qzz, hj9⟩
          · exact Or.inl qzz
        cases od with
        | false =>
          obtain ⟨m1', m2'⟩ := hMzz.2.1 rfl
          have ezr : zr = (3, z3) := (Option.some.inj (z_t hr3 (by rw [k20]; exact m2'))).symm
          exact Or.inr (plainzz (Or.inl rfl) ezr (z_f hczz (by rw [k4zz]; exact m1')))
        | true =>
          obtain ⟨m1', m2'⟩ := hMzz.1 rfl
          have hczz := z_t hczz (by rw [k4zz]; exact m1')
          have hr3 := z_f hr3 (by rw [k20]; exact m2')
          have hj7 : jzz < 7 := by
            rcases hj with ⟨qzz, -⟩ | ⟨-, qzz⟩
            · cases qzz
            · exact qzz
          by_cases c5' : (5 : Int32) ≤ z1
          · have d5' := cv_le (a := 5) (b := (jzz : Int)) (by decide) w1zz c5'
            have hczz := z_t hczz c5'
            have hr3 := z_f hr3 (fun czz => by have czz := cv_lt (a := (jzz : Int) + 1) (b := 6) w2zz (by decide) czz; omega)
            obtain ⟨r1zz, r2, r3, r4, r5zz, r6, r7, r8, r9, r10, r11, r12, r13, r14, r15, r16⟩ := hl
            have hr3 := z_t hr3 r11
            obtain ⟨x4zz, g4, hr3⟩ := z_lt hr3
            obtain ⟨z5, ez5, hr3⟩ := z_bd hr3
            obtain ⟨-, hr3⟩ := z_gd hr3
            obtain ⟨o7, g7, hr3⟩ := z_lt hr3
            have tx4 : x4zz.toInt = (k2zz : Int) + 1 - 1 := by rw [g4]; exact i32_sub r3 (by decide) (by omega) (by omega)
            have ix4 : x4zz.toNatClampNeg = k2zz := tnc_eq (by omega)
            rw [ix4] at g7
            have k13 : gI z3 13 = gI o1 13 := (r1zz.1 13 (by decide) (by decide) (by decide) (by decide) (by decide) (by decide) (by decide) (by decide) (by decide)).trans (T3.1 13 (by decide) (by decide) (by decide)).symm
            have kAzz : gA z3 12 = gA o1 12 := (r1zz.2.1 12 (by decide) (by decide) (by decide) (by decide)).trans (T3.gA 12).symm
            have TT3 : TT z3c z3 := T1.cg rfl rfl rfl rfl rfl rfl k13 kAzz r13 r14 r15 r16
            have ezr : zr = (3, o7) := (Option.some.inj hr3).symm
            unfold f_X9_number at ez5
            obtain ⟨x1zz, g1, ez5⟩ := z_lt ez5
            have nfail : f_X9_must z3 0 = some z5.2 → bk_X6_readSinglePart_144 12 400 z3c oc = some zzz → Bad rd oc o zzz yzz := by
              intro k2' k1'
              have ezz := mu_no r11 k2'
              unfold bk_X6_readSinglePart_144 at k1'
              obtain ⟨zs, ezs, k1'⟩ := z_bd k1'
              obtain ⟨-, k1'⟩ := z_gd k1'
              obtain ⟨u1zz, u2zz⟩ := stop8 ezs
              have k19 : gI o7 19 = 1 := by rw [g7, ezz]; rfl
              have hy' : lp_X9_readExpression_20 Nzz (tst, zr.1, o7) = some yzz := by rw [ezr] at hy ⊢; exact hy
              have fzz := ex_bad (by rw [k19]; decide) hy'
              have rr : RF z3 o7 := by
                rw [g7, ezz]
                exact ⟨fun izz _ _ _ azz bzz _ _ _ _ => (fset_ne azz).trans (fset_ne bzz), fun izz _ bzz _ _ => fset_ne (f := fun izz => gA (sI (sI z3 19 1) 18 (gI z3 14)) izz) bzz, rfl⟩
              rw [← Option.some.inj k1', u1zz, u2zz]
              refine ⟨rfl, (fzz.1 19 (by decide) (by decide)).trans k19, ?_, r1zz.tr (rr.tr fzz.rr), ⟨fun izz x0zz x1zz x2zz x3 x4zz x5zz => (fset_ne x0zz).trans (c6zz izz x1zz x2zz x3 x4zz x5zz), c62, fun _ _ => rfl, fun _ _ _ => rfl⟩⟩
              rw [fzz.1 18 (by decide) (by decide), g7, ezz]
              show gI z3 14 = gI z3c 7
              exact TT3.2.2.1.symm
            have tok : gI z3c 6 = gI z3 16 := TT3.2.1
            obtain ⟨a3, b3, ea3, eb3, hab3, hb3, hx3⟩ := TT3.2.2.2.2
            by_cases c16 : gI z3 16 = 2
            · have hnv3 : a3 < b3 ∧ NV (gI z3c 9) (gL z3 17) := by
                rcases hx3 with ⟨qzz, -⟩ | ⟨qzz, -⟩ | ⟨-, q1zz, q2zz⟩ | ⟨qzz, -⟩
                · exact absurd (qzz.symm.trans c16) (by decide)
                · exact absurd (qzz.symm.trans c16) (by decide)
                · exact ⟨q1zz, q2zz⟩
                · exact absurd (qzz.symm.trans c16) (by decide)
              obtain ⟨hlt3, v0zz, v1zz, vv⟩ := hnv3
              obtain ⟨zi, ezi, ez5⟩ := z_bd (z_t ez5 c16)
              have hczz := z_t hczz (by rw [tok]; exact c16)
              have l0 : (0 : Int64).toInt = 0 := by decide
              have l6 : (6 : Int64).toInt = 6 := by decide
              rcases in_iff _ _ _ _ ezi with ⟨q1zz, q2zz⟩ | ⟨q1zz, q2zz, q3zz⟩
              · have ez5 := z_t ez5 q1zz
                unfold bk_X9_number_32 bk_X9_number_33 at ez5
                obtain ⟨zm, ezm, ez5⟩ := z_bd ez5
                have e52 : z5.2 = zm := by rw [← Option.some.inj ez5]
                have hczz := z_f hczz (fun czz => by
                  have czz := cv_lt (a := (gI z3c 9).toInt) (b := 7) rfl (by decide) czz
                  rcases vv with ⟨wzz, w'⟩ | ⟨wzz, w'⟩ <;> omega)
                exact Or.inl (nfail (by rw [e52]; exact ezm) hczz)
              · have ez5 := z_f ez5 q1zz
                unfold bk_X9_number_33 at ez5
                obtain ⟨zm, ezm, ez5⟩ := z_bd ez5
                have e52 : z5 = (x1zz, zm) := (Option.some.inj ez5).symm
                have vw : (gI z3c 9).toInt = (gL z3 17).toInt := by rcases vv with ⟨wzz, w'⟩ | ⟨wzz, w'⟩ <;> omega
                have hczz := z_t hczz (Int32.lt_iff_toInt_lt.mpr (by have : (7 : Int32).toInt = 7 := (by decide); omega))
                obtain ⟨z7, ez7, hczz⟩ := z_bd hczz
                obtain ⟨z8, ez8, hczz⟩ := z_bd hczz
                obtain ⟨z9, ez9, hczz⟩ := z_bd hczz
                have ezm := mu_ok r11 (by decide) ezm
                obtain ⟨V1, V2, V3, V4⟩ := tk_eq TT3.1 TT3.2.2.2.1 (by omega) (by omega) ez9 ezm
                obtain ⟨d1zz, d2zz, d3zz, d4zz, d5zz, d6zz, d7zz⟩ := add8 ek1 (by omega) ez8
                have tx1 : x1zz.toInt = (gL z3 17).toInt := by rw [g1]; exact l32 v0zz (by omega)
                have ho7 : o7 = tA zm 25 k2zz x1zz := by rw [g7, e52]
                have q27 : gA o7 27 = gA o 27 := by rw [ho7]; show gA zm 27 = _; rw [V3.gA 27, r8]
                have q28 : gA o7 28 = gA o 28 := by rw [ho7]; show gA zm 28 = _; rw [V3.gA 28, r9]
                have qI : ∀ izz, izz ≠ 14 → izz ≠ 15 → izz ≠ 16 → gI o7 izz = gI z3 izz := fun izz azz bzz czz => by rw [ho7]; exact V3.1 izz azz bzz czz
                have q25 : ∀ izz, gA o7 25 izz = if izz = k2zz then x1zz else gA z3 25 izz := fun izz => by
                  rw [ho7]; show (if izz = k2zz then x1zz else gA zm 25 izz) = _; rw [V3.gA 25]
                have q24 : gA o7 24 = gA z3 24 := by rw [ho7]; show gA zm 24 = _; rw [V3.gA 24]
                have rr : RF o o7 := r1zz.tr (V3.rr.tr (by rw [ho7]; exact ⟨fun _ _ _ _ _ _ _ _ _ _ => rfl, fun izz _ bzz _ _ => fset_ne (f := fun izz => gA zm izz) bzz, rfl⟩))
                have fz : FR9 o1 o1 := FR9.rf
                refine Or.inr ⟨by rw [← Option.some.inj hczz], by rw [ezr], ?_⟩
                rw [← Option.some.inj hczz, ezr]
                have t26 : (gI z3 26).toInt = (gI o 26).toInt + 1 := by rw [r12]; exact i32_add rfl (by decide) (by omega) (by omega)
                have cfzz : CF rd oc z9 z8.2 := ⟨fun izz _ azz bzz czz d ezz => (V2.1 izz bzz czz d ezz).trans (c6zz izz azz bzz czz d ezz), V2.2.trans c62, d6zz, d7zz⟩
                have z7v : ((z7.toInt = 5 + (gL z3 17).toInt ∧ z2.toInt = 6) ∨ (z7.toInt = 12 + (gL z3 17).toInt ∧ z2.toInt = 7)) := by
                  unfold f_X3_wordOfPerson bk_X3_wordOfPerson_11 at ez7
                  by_cases e5' : z1 = 5
                  · have qzz := cv_eq (a := (jzz : Int)) (b := 5) w1zz (by decide) e5'
                    refine Or.inl ⟨?_, by omega⟩
                    rw [← Option.some.inj (z_t ez7 e5')]; exact i32_add (by decide) vw (by omega) (by omega)
                  · have qzz := cv_ne (a := (jzz : Int)) (b := 5) w1zz (by decide) e5'
                    refine Or.inr ⟨?_, by omega⟩
                    rw [← Option.some.inj (z_f ez7 e5')]; exact i32_add (by decide) vw (by omega) (by omega)
                refine ⟨⟨V1.cg rfl rfl rfl rfl rfl rfl (by rw [ho7]; rfl) (by rw [ho7]; rfl) (by rw [ho7]; rfl) (by rw [ho7]; rfl) (by rw [ho7]; rfl) (by rw [ho7]; rfl), by rw [qI 19 (by decide) (by decide) (by decide)]; exact r11, ?_, ?_, by first | omega | (dsimp only; omega), ?_, ?_, ?_, hbzz, by omega, hMzz.fr cfzz rr⟩, rr, cfzz, fun izz hizz => by rw [q27, q28]; exact ⟨rfl, rfl⟩, ?_, fun izz hizz => d5zz izz (by omega), fun izz hizz => ⟨?_, ?_⟩, ?_, ?_⟩
                · rw [V2.1 5 (by decide) (by decide) (by decide) (by decide), c5zz, qI 26 (by decide) (by decide) (by decide), r12, e5zz]
                · rw [qI 26 (by decide) (by decide) (by decide)]; omega
                · rw [qI 23 (by decide) (by decide) (by decide)]; omega
                · rw [ho7]; show _ ≤ (gI zm 14).toInt; rw [r13] at ea3; omega
                · rw [qI 29 (by decide) (by decide) (by decide), r4]; exact eb
                · rw [qI 30 (by decide) (by decide) (by decide)]; exact r10
                · rw [q24]; exact (r2 izz hizz).1
                · rw [q25 izz, if_neg (by omega)]; exact (r2 izz hizz).2
                · rw [qI 26 (by decide) (by decide) (by decide)]; omega
                · refine (Sx.cl true (gA z8.2 5) (gA z8.2 6) (gA o7 24) (gA o7 25)).2.1 k1zz k2zz d3zz ?_
                  rw [d4zz, q24, r5zz, q25 k2zz, if_pos rfl]
                  exact Or.inr ⟨rfl, (gL z3 17).toInt.toNat, by omega, by omega, by omega⟩
            · have ez5 := z_f ez5 c16
              unfold bk_X9_number_32 bk_X9_number_33 at ez5
              obtain ⟨zm, ezm, ez5⟩ := z_bd ez5
              have e52 : z5.2 = zm := by rw [← Option.some.inj ez5]
              exact Or.inl (nfail (by rw [e52]; exact ezm) (z_f hczz (by rw [tok]; exact c16)))
          · have d5' := cv_nle (a := 5) (b := (jzz : Int)) (by decide) w1zz c5'
            have ezr : zr = (3, z3) := (Option.some.inj (z_t hr3 (Int32.lt_iff_toInt_lt.mpr (by have : (6 : Int32).toInt = 6 := (by decide); omega)))).symm
            exact Or.inr (plainzz (Or.inr (by omega)) ezr (z_f hczz c5'))
