def cod (gzz : Nat → Int32) (azz : Nat) : Nat → Int
  | 0 => 0
  | n + 1 => cod gzz azz n * 32 + ((gzz (azz + n)).toInt - 96)
def ltr (gzz : Nat → Int32) (azz n : Nat) : Prop := ∀ izz, izz < n → 97 ≤ (gzz (azz + izz)).toInt ∧ (gzz (azz + izz)).toInt ≤ 122
def WVl (gzz : Nat → Int32) (azz n : Nat) (wzz : Int64) : Prop := (n ≤ 10 → wzz.toInt = cod gzz azz n) ∧ (10 < n → wzz.toInt = -1)
def NV (mzz : Int32) (wzz : Int64) : Prop := 0 ≤ wzz.toInt ∧ wzz.toInt ≤ 10000009 ∧ ((wzz.toInt ≤ 1000 ∧ mzz.toInt = wzz.toInt) ∨ (1000 < wzz.toInt ∧ mzz.toInt = 1001))
def TZ (rd o : Ob) : Prop := gI rd 2 = gI o 13 ∧ gA rd 0 = gA o 12 ∧ 0 ≤ (gI o 13).toInt ∧ (gI o 13).toInt ≤ 400
def TT (rd o : Ob) : Prop := TZ rd o ∧ gI rd 6 = gI o 16 ∧ gI rd 7 = gI o 14 ∧ gI rd 8 = gI o 15 ∧ ∃ azz bzz : Nat, (gI o 14).toInt = (azz : Int) ∧ (gI o 15).toInt = (bzz : Int) ∧ azz ≤ bzz ∧ (bzz : Int) ≤ (gI o 13).toInt ∧
  ((gI o 16 = 0 ∧ (azz : Int) = (gI o 13).toInt ∧ bzz = azz) ∨ (gI o 16 = 1 ∧ azz < bzz ∧ ltr (gA o 12) azz (bzz - azz) ∧ WVl (gA o 12) azz (bzz - azz) (gL o 17)) ∨ (gI o 16 = 2 ∧ azz < bzz ∧ NV (gI rd 9) (gL o 17)) ∨ (gI o 16 = 3 ∧ bzz = azz + 1 ∧ gL o 17 = (gA o 12 azz).toInt64))
def FR6 (rd rd' : Ob) : Prop := (∀ izz, izz ≠ 6 → izz ≠ 7 → izz ≠ 8 → izz ≠ 9 → gI rd' izz = gI rd izz) ∧ rd'.2 = rd.2
def FR9 (o o' : Ob) : Prop := (∀ izz, izz ≠ 14 → izz ≠ 15 → izz ≠ 16 → gI o' izz = gI o izz) ∧ (∀ izz, izz ≠ 17 → gL o' izz = gL o izz) ∧ o'.2.2 = o.2.2
set_option maxHeartbeats 200000 in
theorem FR6.rf {o : Ob} : FR6 o o := ⟨fun _ _ _ _ _ => rfl, rfl⟩
set_option maxHeartbeats 200000 in
theorem FR6.tr {o o' o'' : Ob} (hzz : FR6 o o') (h' : FR6 o' o'') : FR6 o o'' := ⟨fun izz azz bzz czz d => (h'.1 izz azz bzz czz d).trans (hzz.1 izz azz bzz czz d), h'.2.trans hzz.2⟩
set_option maxHeartbeats 200000 in
theorem FR6.sI {o : Ob} {kzz : Nat} {vzz : Int32} (hk : kzz = 6 ∨ kzz = 7 ∨ kzz = 8 ∨ kzz = 9) : FR6 o (sI o kzz vzz) := ⟨fun izz azz bzz czz d => fset_ne (by rcases hk with ezz | ezz | ezz | ezz <;> rw [ezz] <;> assumption), rfl⟩
set_option maxHeartbeats 200000 in
theorem FR9.rf {o : Ob} : FR9 o o := ⟨fun _ _ _ _ => rfl, fun _ _ => rfl, rfl⟩
set_option maxHeartbeats 200000 in
theorem FR9.tr {o o' o'' : Ob} (hzz : FR9 o o') (h' : FR9 o' o'') : FR9 o o'' := ⟨fun izz azz bzz czz => (h'.1 izz azz bzz czz).trans (hzz.1 izz azz bzz czz), fun izz azz => (h'.2.1 izz azz).trans (hzz.2.1 izz azz), h'.2.2.trans hzz.2.2⟩
set_option maxHeartbeats 200000 in
theorem FR9.sI {o : Ob} {kzz : Nat} {vzz : Int32} (hk : kzz = 14 ∨ kzz = 15 ∨ kzz = 16) : FR9 o (sI o kzz vzz) := ⟨fun izz azz bzz czz => fset_ne (by rcases hk with ezz | ezz | ezz <;> rw [ezz] <;> assumption), fun _ _ => rfl, rfl⟩
set_option maxHeartbeats 200000 in
theorem FR9.sL {o : Ob} {vzz : Int64} : FR9 o (sL o 17 vzz) := ⟨fun _ _ _ _ => rfl, fun izz azz => fset_ne azz, rfl⟩
set_option maxHeartbeats 200000 in
theorem FR9.gA {o o' : Ob} (hzz : FR9 o o') (izz : Nat) : gA o' izz = gA o izz := congrFun (congrArg Prod.fst hzz.2.2) izz
set_option maxHeartbeats 200000 in
theorem FR6.gA {o o' : Ob} (hzz : FR6 o o') (izz : Nat) : gA o' izz = gA o izz := congrFun (congrArg (fun xzz => xzz.2.1) hzz.2) izz
set_option maxHeartbeats 200000 in
theorem TZ.fr {rd o rd' o' : Ob} (hzz : TZ rd o) (f6zz : FR6 rd rd') (f9zz : FR9 o o') : TZ rd' o' := by
  have e2zz := f6zz.1 2 (by decide) (by decide) (by decide) (by decide)
  have e13zz := f9zz.1 13 (by decide) (by decide) (by decide)
  exact ⟨by rw [e2zz, e13zz]; exact hzz.1, by rw [f6zz.gA 0, f9zz.gA 12]; exact hzz.2.1, by rw [e13zz]; exact hzz.2.2.1, by rw [e13zz]; exact hzz.2.2.2⟩
set_option maxHeartbeats 200000 in
theorem byteT {rd o : Ob} (hz : TZ rd o) {pzz zzz : Int32} {kzz : Nat} (ek : pzz.toInt = (kzz : Int)) (hk : (kzz : Int) < (gI o 13).toInt) (hzz : f_X6_byteAt rd pzz = some zzz) : zzz = gA o 12 kzz := by
  rcases byte8 ek (by rw [hz.1]; exact hz.2.2) hzz with ⟨-, bzz⟩ | ⟨azz, -⟩
  · rw [bzz, hz.2.1]
  · rw [hz.1] at azz; omega
set_option maxHeartbeats 200000 in
theorem lt6 {pzz zzz : Int32} (hzz : f_X6_isLetter pzz = some zzz) : (zzz = 0 ∧ ¬ (97 ≤ pzz.toInt ∧ pzz.toInt ≤ 122)) ∨ (¬ zzz = 0 ∧ 97 ≤ pzz.toInt ∧ pzz.toInt ≤ 122) := by
  unfold f_X6_isLetter at hzz
  by_cases c1zz : pzz < (97 : Int32)
  · have czz := cv_lt (a := pzz.toInt) (b := 97) rfl (by decide) c1zz
    exact Or.inl ⟨(Option.some.inj (z_t hzz c1zz)).symm, by omega⟩
  · have hzz := z_f hzz c1zz
    have czz := cv_nlt (a := pzz.toInt) (b := 97) rfl (by decide) c1zz
    by_cases c2zz : (122 : Int32) < pzz
    · have d := cv_lt (a := 122) (b := pzz.toInt) (by decide) rfl c2zz
      exact Or.inl ⟨(Option.some.inj (z_t hzz c2zz)).symm, by omega⟩
    · have d := cv_nlt (a := 122) (b := pzz.toInt) (by decide) rfl c2zz
      exact Or.inr ⟨by rw [← Option.some.inj (z_f hzz c2zz)]; decide, by omega, by omega⟩
set_option maxHeartbeats 200000 in
theorem lt9 {pzz zzz : Int32} (hzz : f_X9_isSmall pzz = some zzz) : (zzz = 0 ∧ ¬ (97 ≤ pzz.toInt ∧ pzz.toInt ≤ 122)) ∨ (¬ zzz = 0 ∧ 97 ≤ pzz.toInt ∧ pzz.toInt ≤ 122) := lt6 hzz
set_option maxHeartbeats 200000 in
theorem dg6 {pzz zzz : Int32} (hzz : f_X6_isDigit pzz = some zzz) : (zzz = 0 ∧ ¬ (48 ≤ pzz.toInt ∧ pzz.toInt ≤ 57)) ∨ (¬ zzz = 0 ∧ 48 ≤ pzz.toInt ∧ pzz.toInt ≤ 57) := by
  unfold f_X6_isDigit at hzz
  by_cases c1zz : pzz < (48 : Int32)
  · have czz := cv_lt (a := pzz.toInt) (b := 48) rfl (by decide) c1zz
    exact Or.inl ⟨(Option.some.inj (z_t hzz c1zz)).symm, by omega⟩
  · have hzz := z_f hzz c1zz
    have czz := cv_nlt (a := pzz.toInt) (b := 48) rfl (by decide) c1zz
    by_cases c2zz : (57 : Int32) < pzz
    · have d := cv_lt (a := 57) (b := pzz.toInt) (by decide) rfl c2zz
      exact Or.inl ⟨(Option.some.inj (z_t hzz c2zz)).symm, by omega⟩
    · have d := cv_nlt (a := 57) (b := pzz.toInt) (by decide) rfl c2zz
      exact Or.inr ⟨by rw [← Option.some.inj (z_f hzz c2zz)]; decide, by omega, by omega⟩
set_option maxHeartbeats 200000 in
theorem dg9 {pzz zzz : Int32} (hzz : f_X9_isDigit pzz = some zzz) : (zzz = 0 ∧ ¬ (48 ≤ pzz.toInt ∧ pzz.toInt ≤ 57)) ∨ (¬ zzz = 0 ∧ 48 ≤ pzz.toInt ∧ pzz.toInt ≤ 57) := dg6 hzz
set_option maxHeartbeats 200000 in
theorem cod_rg {gzz : Nat → Int32} {azz : Nat} : ∀ n, n ≤ 10 → ltr gzz azz n → 0 ≤ cod gzz azz n ∧ cod gzz azz n < (32 : Int) ^ n := by
  intro n
  induction n with
  | zero => intro _ _; exact ⟨Int.le_refl _, (by decide : (0 : Int) < (32 : Int) ^ 0)⟩
  | succ n ihzz =>
    intro hn hl
    have hzz := ihzz (by omega) (fun izz hizz => hl izz (by omega))
    have l := hl n (by omega)
    have ezz : cod gzz azz (n + 1) = cod gzz azz n * 32 + ((gzz (azz + n)).toInt - 96) := rfl
    have pzz : (32 : Int) ^ (n + 1) = (32 : Int) ^ n * 32 := rfl
    rw [ezz, pzz]; omega
set_option maxHeartbeats 200000 in
theorem p32 {n : Nat} (hzz : n ≤ 10) : (32 : Int) ^ n ≤ 1125899906842624 := by
  have : ∀ n, n < 11 → (32 : Int) ^ n ≤ 1125899906842624 := by decide
  exact this n (by omega)
set_option maxHeartbeats 200000 in
theorem tk_sp {rd : Ob} {rd' o' : Ob} : ∀ (Nzz : Nat) (v1zz : Int32) (o : Ob) (kzz : Nat), TZ rd o → v1zz.toInt = (kzz : Int) → gI o 14 = v1zz → (kzz : Int) ≤ (gI o 13).toInt → lp_X6_step_5 Nzz (v1zz, rd) = some rd' → lp_X9_next_8 Nzz o = some o' →
    ∃ (uzz : Int32) (o2 : Ob) (mzz : Nat), bk_X6_step_29 uzz rd = some rd' ∧ bk_X9_next_46 o2 = some o' ∧ gI o2 14 = uzz ∧ uzz.toInt = (mzz : Int) ∧ (mzz : Int) ≤ (gI o 13).toInt ∧ FR9 o o2 ∧ kzz ≤ mzz := by
  intro Nzz
  induction Nzz with
  | zero => intro v1zz o kzz _ _ _ _ hzz; cases hzz
  | succ Nzz ihzz =>
    intro v1zz o kzz hz ek e14zz hk h1 h2
    have h1 : lb_X6_step_5 (lp_X6_step_5 Nzz) v1zz rd = some rd' := h1
    have h2 : lb_X9_next_8 (lp_X9_next_8 Nzz) o = some o' := h2
    unfold lb_X6_step_5 at h1
    unfold lb_X9_next_8 at h2
    rw [hz.1] at h1
    rw [e14zz] at h2
    by_cases czz : gI o 13 ≤ v1zz
    · exact ⟨v1zz, o, kzz, z_t h1 czz, z_t h2 czz, e14zz, ek, hk, FR9.rf, Nat.le_refl _⟩
    · have d := cv_nle (a := (gI o 13).toInt) (b := (kzz : Int)) rfl ek czz
      obtain ⟨z24, ez, h1⟩ := z_bd (z_f h1 czz)
      obtain ⟨-, h2⟩ := z_gd (z_f h2 czz)
      have ik : v1zz.toNatClampNeg = kzz := tnc_eq ek
      rw [ik] at h2
      rw [byteT hz ek d ez] at h1
      by_cases c2zz : gA o 12 kzz = 32
      · obtain ⟨x25, e25zz, h1⟩ := z_lt (z_t h1 c2zz)
        obtain ⟨o23, e23zz, h2⟩ := z_lt (z_t h2 c2zz)
        have t25 : x25.toInt = (kzz : Int) + 1 := by rw [e25zz]; exact i32_add ek (by decide) (by have := hz.2.2.2; omega) (by have := hz.2.2.2; omega)
        have fzz : FR9 o o23 := by rw [e23zz]; exact FR9.sI (Or.inl rfl)
        obtain ⟨uzz, o2, mzz, q1zz, q2zz, q3zz, q4zz, q5zz, q6zz, q7zz⟩ := ihzz x25 o23 (kzz + 1) (hz.fr FR6.rf fzz) (by omega) (by rw [e23zz, e25zz]; rfl) (by rw [fzz.1 13 (by decide) (by decide) (by decide)]; omega) h1 h2
        exact ⟨uzz, o2, mzz, q1zz, q2zz, q3zz, q4zz, by rw [fzz.1 13 (by decide) (by decide) (by decide)] at q5zz; exact q5zz, fzz.tr q6zz, by omega⟩
      · exact ⟨v1zz, o, kzz, z_f h1 c2zz, z_f h2 c2zz, e14zz, ek, hk, FR9.rf, Nat.le_refl _⟩
set_option maxHeartbeats 200000 in
theorem tk_wd {rd' o' : Ob} {azz : Nat} : ∀ (N1 N2 : Nat) (rd o : Ob) (n : Nat), TZ rd o → gI rd 6 = 1 → gI o 16 = 1 → gI rd 7 = gI o 14 → gI rd 8 = gI o 15 → (gI o 14).toInt = (azz : Int) → (gI o 15).toInt = ((azz + n : Nat) : Int) → 1 ≤ n → ((azz + n : Nat) : Int) ≤ (gI o 13).toInt → ltr (gA o 12) azz n → WVl (gA o 12) azz n (gL o 17) →
    lp_X6_step_83 N1 rd = some rd' → lp_X9_next_149 N2 o = some o' → TT rd' o' ∧ FR6 rd rd' ∧ FR9 o o' ∧ gI o' 14 = gI o 14 := by
  intro N1
  induction N1 with
  | zero => intro N2 rd o n _ _ _ _ _ _ _ _ _ _ _ hzz; cases hzz
  | succ N1 ihzz =>
    intro N2 rd o n hz e6zz e16zz e7zz e8 ea eb hn hbzz hl hw h1 h2
    cases N2 with
    | zero => cases h2
    | succ N2 =>
    have h1 : lb_X6_step_83 (lp_X6_step_83 N1) rd = some rd' := h1
    have h2 : lb_X9_next_149 (lp_X9_next_149 N2) o = some o' := h2
    unfold lb_X6_step_83 at h1
    unfold lb_X9_next_149 at h2
    have h2 := z_t h2 e16zz
    rw [hz.1, e8] at h1
    have hend : some rd = some rd' → lp_X9_next_243 zfu o = some o' → TT rd' o' ∧ FR6 rd rd' ∧ FR9 o o' ∧ gI o' 14 = gI o 14 := by
      intro k1zz k2zz
      have k2zz : lb_X9_next_243 (lp_X9_next_243 99999) o = some o' := k2zz
      unfold lb_X9_next_243 at k2zz
      have k2zz := z_f k2zz (by rw [e16zz]; decide)
      rw [← Option.some.inj k1zz, ← Option.some.inj k2zz]
      refine ⟨⟨hz, by rw [e6zz, e16zz], e7zz, e8, azz, azz + n, ea, eb, by omega, hbzz, Or.inr (Or.inl ⟨e16zz, by omega, ?_, ?_⟩)⟩, FR6.rf, FR9.rf, rfl⟩
      · have ezz : azz + n - azz = n := by omega
        rw [ezz]; exact hl
      · have ezz : azz + n - azz = n := by omega
        rw [ezz]; exact hw
    by_cases czz : gI o 13 ≤ gI o 15
    · exact hend (z_t h1 czz) (z_t h2 czz)
    · have d := cv_nle (a := (gI o 13).toInt) (b := ((azz + n : Nat) : Int)) rfl eb czz
      obtain ⟨z19, ez, h1⟩ := z_bd (z_f h1 czz)
      obtain ⟨z20, ez20, h1⟩ := z_bd h1
      obtain ⟨-, h2⟩ := z_gd (z_f h2 czz)
      obtain ⟨z15, ez15, h2⟩ := z_bd h2
      have ib : (gI o 15).toNatClampNeg = azz + n := tnc_eq eb
      rw [ib] at ez15 h2
      rw [byteT hz eb d ez] at ez20
      have h400 := hz.2.2.2
      rcases lt6 ez20 with ⟨x1zz, x2zz⟩ | ⟨x1zz, x2zz⟩ <;> rcases lt9 ez15 with ⟨y1, y2⟩ | ⟨y1, y2⟩
      · exact hend (z_t h1 x1zz) (z_t h2 y1)
      · exact absurd y2 x2zz
      · exact absurd x2zz y2
      · obtain ⟨o21, e21zz, h1⟩ := z_lt (z_f h1 x1zz)
        have h2 := z_f h2 y1
        have hdiff : (gI o 15 - gI o 14).toInt = ((azz + n : Nat) : Int) - (azz : Int) := i32_sub eb ea (by omega) (by omega)
        have hl' : ltr (gA o 12) azz (n + 1) := fun izz hizz => by
          by_cases qzz : izz = n
          · rw [qzz]; exact x2zz
          · exact hl izz (by omega)
        have hgo : ∀ s0zz : Int64, WVl (gA o 12) azz (n + 1) s0zz → bk_X9_next_227 (lp_X9_next_149 N2) s0zz o = some o' → TT rd' o' ∧ FR6 rd rd' ∧ FR9 o o' ∧ gI o' 14 = gI o 14 := by
          intro s0zz hs k2zz
          unfold bk_X9_next_227 at k2zz
          obtain ⟨o16, g16, k2zz⟩ := z_lt k2zz
          obtain ⟨o17, g17, k2zz⟩ := z_lt k2zz
          have f9zz : FR9 o o17 := FR9.tr (o' := o16) (by rw [g16]; exact FR9.sL) (by rw [g17]; exact FR9.sI (Or.inr (Or.inl rfl)))
          have f6zz : FR6 rd o21 := by rw [e21zz]; exact FR6.sI (Or.inr (Or.inr (Or.inl rfl)))
          have k15 : gI o17 15 = gI o 15 + 1 := by rw [g17, g16]; rfl
          have t15 : (gI o17 15).toInt = ((azz + n : Nat) : Int) + 1 := by rw [k15]; exact i32_add eb (by decide) (by omega) (by omega)
          have k13 := f9zz.1 13 (by decide) (by decide) (by decide)
          have k14 : gI o17 14 = gI o 14 := by rw [g17, g16]; rfl
          obtain ⟨r1zz, r2, r3, r4⟩ := ihzz N2 o21 o17 (n + 1) (hz.fr f6zz f9zz) (by rw [e21zz]; exact e6zz) (by rw [g17, g16]; exact e16zz) (by rw [e21zz, k14]; exact e7zz) (by rw [e21zz, k15]; rfl) (by rw [k14]; exact ea) (by omega) (by omega) (by rw [k13]; omega) (by rw [f9zz.gA 12]; exact hl') (by rw [f9zz.gA 12, g17, g16]; exact hs) h1 k2zz
          exact ⟨r1zz, f6zz.tr r2, f9zz.tr r3, r4.trans k14⟩
        by_cases c10zz : (10 : Int32) ≤ gI o 15 - gI o 14
        · have d10zz := cv_le (a := 10) (b := ((azz + n : Nat) : Int) - (azz : Int)) (by decide) hdiff c10zz
          exact hgo (-1) ⟨fun qzz => by omega, fun _ => by decide⟩ (z_t h2 c10zz)
        · have d10zz := cv_nle (a := 10) (b := ((azz + n : Nat) : Int) - (azz : Int)) (by decide) hdiff c10zz
          obtain ⟨-, h2⟩ := z_gd (z_f h2 c10zz)
          refine hgo _ ⟨fun _ => ?_, fun qzz => by omega⟩ h2
          have rzz := cod_rg (gzz := gA o 12) (azz := azz) n (by omega) hl
          have pzz := p32 (n := n) (by omega)
          have vzz := hw.1 (by omega)
          have m1zz : ((gL o 17) * (32 : Int64)).toInt = cod (gA o 12) azz n * 32 := i64_mul vzz (by decide) (by omega) (by omega)
          have m2zz : (((gL o 17) * (32 : Int64)) + (gA o 12 (azz + n)).toInt64).toInt = cod (gA o 12) azz n * 32 + (gA o 12 (azz + n)).toInt := i64_add m1zz (Int32.toInt_toInt64 _) (by omega) (by omega)
          have m3zz := i64_sub (y := (96 : Int64)) (b := 96) m2zz (by decide) (by omega) (by omega)
          rw [m3zz]
          show _ = cod (gA o 12) azz n * 32 + ((gA o 12 (azz + n)).toInt - 96)
          omega
set_option maxHeartbeats 200000 in
theorem tk_nb {rd' o' : Ob} {azz : Nat} : ∀ (N1 N2 : Nat) (rd o : Ob) (n : Nat), TZ rd o → gI rd 6 = 2 → gI o 16 = 2 → gI rd 7 = gI o 14 → gI rd 8 = gI o 15 → (gI o 14).toInt = (azz : Int) → (gI o 15).toInt = ((azz + n : Nat) : Int) → 1 ≤ n → ((azz + n : Nat) : Int) ≤ (gI o 13).toInt → NV (gI rd 9) (gL o 17) →
    lp_X6_step_149 N1 rd = some rd' → lp_X9_next_243 N2 o = some o' → TT rd' o' ∧ FR6 rd rd' ∧ FR9 o o' ∧ gI o' 14 = gI o 14 := by
  intro N1
  induction N1 with
  | zero => intro N2 rd o n _ _ _ _ _ _ _ _ _ _ hzz; cases hzz
  | succ N1 ihzz =>
    intro N2 rd o n hz e6zz e16zz e7zz e8 ea eb hn hbzz hv h1 h2
    cases N2 with
    | zero => cases h2
    | succ N2 =>
    have h1 : lb_X6_step_149 (lp_X6_step_149 N1) rd = some rd' := h1
    have h2 : lb_X9_next_243 (lp_X9_next_243 N2) o = some o' := h2
    unfold lb_X6_step_149 at h1
    unfold lb_X9_next_243 at h2
    have h2 := z_t h2 e16zz
    rw [hz.1, e8] at h1
    have hend : some rd = some rd' → some o = some o' → TT rd' o' ∧ FR6 rd rd' ∧ FR9 o o' ∧ gI o' 14 = gI o 14 := by
      intro k1zz k2zz
      rw [← Option.some.inj k1zz, ← Option.some.inj k2zz]
      exact ⟨⟨hz, by rw [e6zz, e16zz], e7zz, e8, azz, azz + n, ea, eb, by omega, hbzz, Or.inr (Or.inr (Or.inl ⟨e16zz, by omega, hv⟩))⟩, FR6.rf, FR9.rf, rfl⟩
    by_cases czz : gI o 13 ≤ gI o 15
    · exact hend (z_t h1 czz) (z_t h2 czz)
    · have d := cv_nle (a := (gI o 13).toInt) (b := ((azz + n : Nat) : Int)) rfl eb czz
      obtain ⟨z13zz, ez, h1⟩ := z_bd (z_f h1 czz)
      obtain ⟨z14zz, ez14, h1⟩ := z_bd h1
      obtain ⟨-, h2⟩ := z_gd (z_f h2 czz)
      obtain ⟨z10, ez10, h2⟩ := z_bd h2
      have ib : (gI o 15).toNatClampNeg = azz + n := tnc_eq eb
      rw [ib] at ez10 h2
      rw [byteT hz eb d ez] at ez14
      have h400 := hz.2.2.2
      rcases dg6 ez14 with ⟨x1zz, x2zz⟩ | ⟨x1zz, x2zz⟩ <;> rcases dg9 ez10 with ⟨y1, y2⟩ | ⟨y1, y2⟩
      · exact hend (z_t h1 x1zz) (z_t h2 y1)
      · exact absurd y2 x2zz
      · exact absurd x2zz y2
      · obtain ⟨z15, ez15, h1⟩ := z_bd (z_f h1 x1zz)
        rw [byteT hz eb d ez15] at h1
        obtain ⟨o16, e16', h1⟩ := z_lt h1
        obtain ⟨o17, e17', h1⟩ := z_lt h1
        have h2 := z_f h2 y1
        obtain ⟨v0zz, v1zz, vv⟩ := hv
        have hmzz : 0 ≤ (gI rd 9).toInt ∧ (gI rd 9).toInt ≤ 1001 := by rcases vv with ⟨q1zz, q2zz⟩ | ⟨q1zz, q2zz⟩ <;> omega
        have n1zz : ((gI rd 9) * (10 : Int32)).toInt = (gI rd 9).toInt * 10 := i32_mul rfl (by decide) (by omega) (by omega)
        have n2zz : (((gI rd 9) * (10 : Int32)) + gA o 12 (azz + n)).toInt = (gI rd 9).toInt * 10 + (gA o 12 (azz + n)).toInt := i32_add n1zz rfl (by omega) (by omega)
        have n3zz : ((((gI rd 9) * (10 : Int32)) + gA o 12 (azz + n)) - (48 : Int32)).toInt = (gI rd 9).toInt * 10 + (gA o 12 (azz + n)).toInt - 48 := i32_sub n2zz (by decide) (by omega) (by omega)
        have k9 : gI o17 9 = (if ((((gI rd 9) * (10 : Int32)) + gA o 12 (azz + n)) - (48 : Int32)) < (1001 : Int32) then ((((gI rd 9) * (10 : Int32)) + gA o 12 (azz + n)) - (48 : Int32)) else (1001 : Int32)) := by rw [e17', e16']; rfl
        have t1001 : (1001 : Int32).toInt = 1001 := by decide
        have k9t : (gI o17 9).toInt = if (gI rd 9).toInt * 10 + (gA o 12 (azz + n)).toInt - 48 < 1001 then (gI rd 9).toInt * 10 + (gA o 12 (azz + n)).toInt - 48 else 1001 := by
          rw [k9]
          by_cases qzz : ((((gI rd 9) * (10 : Int32)) + gA o 12 (azz + n)) - (48 : Int32)) < (1001 : Int32)
          · have q' := cv_lt (a := (gI rd 9).toInt * 10 + (gA o 12 (azz + n)).toInt - 48) (b := 1001) n3zz t1001 qzz
            rw [if_pos qzz, if_pos q']; exact n3zz
          · have q' := cv_nlt (a := (gI rd 9).toInt * 10 + (gA o 12 (azz + n)).toInt - 48) (b := 1001) n3zz t1001 qzz
            rw [if_neg qzz, if_neg (by omega)]; exact t1001
        have hgo : ∀ s0zz : Int64, NV (gI o17 9) s0zz → bk_X9_next_319 (lp_X9_next_243 N2) s0zz o = some o' → TT rd' o' ∧ FR6 rd rd' ∧ FR9 o o' ∧ gI o' 14 = gI o 14 := by
          intro s0zz hs k2zz
          unfold bk_X9_next_319 at k2zz
          obtain ⟨p12, g12, k2zz⟩ := z_lt k2zz
          obtain ⟨p13zz, g13, k2zz⟩ := z_lt k2zz
          have f9zz : FR9 o p13zz := FR9.tr (o' := p12) (by rw [g12]; exact FR9.sL) (by rw [g13]; exact FR9.sI (Or.inr (Or.inl rfl)))
          have f6zz : FR6 rd o17 := FR6.tr (o' := o16) (by rw [e16']; exact FR6.sI (Or.inr (Or.inr (Or.inr rfl)))) (by rw [e17']; exact FR6.sI (Or.inr (Or.inr (Or.inl rfl))))
          have k15 : gI p13zz 15 = gI o 15 + 1 := by rw [g13, g12]; rfl
          have t15 : (gI p13zz 15).toInt = ((azz + n : Nat) : Int) + 1 := by rw [k15]; exact i32_add eb (by decide) (by omega) (by omega)
          have k13 := f9zz.1 13 (by decide) (by decide) (by decide)
          have k14 : gI p13zz 14 = gI o 14 := by rw [g13, g12]; rfl
          have k8zz : gI o17 8 = gI rd 8 + 1 := by rw [e17', e16']; rfl
          obtain ⟨r1zz, r2, r3, r4⟩ := ihzz N2 o17 p13zz (n + 1) (hz.fr f6zz f9zz) (by rw [e17', e16']; exact e6zz) (by rw [g13, g12]; exact e16zz) (by rw [k14]; rw [e17', e16']; exact e7zz) (by rw [k8zz, k15, e8]) (by rw [k14]; exact ea) (by omega) (by omega) (by rw [k13]; omega) (by rw [g13, g12]; exact hs) h1 k2zz
          exact ⟨r1zz, f6zz.tr r2, f9zz.tr r3, r4.trans k14⟩
        have l6 : (1000000 : Int64).toInt = 1000000 := by decide
        by_cases c6zz : lg_cmp (gL o 17) (1000000 : Int64) ≤ 0
        · have d6zz := cvl_le (a := (gL o 17).toInt) (b := 1000000) rfl l6 c6zz
          obtain ⟨-, h2⟩ := z_gd (z_t h2 c6zz)
          refine hgo _ ?_ h2
          have m1zz : ((gL o 17) * (10 : Int64)).toInt = (gL o 17).toInt * 10 := i64_mul rfl (by decide) (by omega) (by omega)
          have m2zz : (((gL o 17) * (10 : Int64)) + (gA o 12 (azz + n)).toInt64).toInt = (gL o 17).toInt * 10 + (gA o 12 (azz + n)).toInt := i64_add m1zz (Int32.toInt_toInt64 _) (by omega) (by omega)
          have m3zz := i64_sub (y := (48 : Int64)) (b := 48) m2zz (by decide) (by omega) (by omega)
          refine ⟨by rw [m3zz]; omega, by rw [m3zz]; omega, ?_⟩
          rw [m3zz, k9t]
          rcases vv with ⟨q1zz, q2zz⟩ | ⟨q1zz, q2zz⟩
          · rw [q2zz]
            by_cases qzz : (gL o 17).toInt * 10 + (gA o 12 (azz + n)).toInt - 48 < 1001
            · rw [if_pos qzz]; exact Or.inl ⟨by omega, rfl⟩
            · rw [if_neg qzz]; exact Or.inr ⟨by omega, rfl⟩
          · rw [if_neg (by omega)]; exact Or.inr ⟨by omega, rfl⟩
        · have d6zz := cvl_nle (a := (gL o 17).toInt) (b := 1000000) rfl l6 c6zz
          refine hgo _ ⟨v0zz, v1zz, ?_⟩ (z_f h2 c6zz)
          rcases vv with ⟨q1zz, q2zz⟩ | ⟨q1zz, q2zz⟩
          · omega
          · rw [k9t, if_neg (by omega)]; exact Or.inr ⟨q1zz, rfl⟩
set_option maxHeartbeats 200000 in
theorem tk_eq {rd o rd' o' : Ob} (hz : TZ rd o) (e8 : gI rd 8 = gI o 15) (h0 : 0 ≤ (gI o 15).toInt) (h1 : (gI o 15).toInt ≤ (gI o 13).toInt) (k1zz : f_X6_step rd = some rd') (k2zz : f_X9_next o = some o') : TT rd' o' ∧ FR6 rd rd' ∧ FR9 o o' ∧ (gI o 15).toInt ≤ (gI o' 14).toInt := by
  unfold f_X6_step at k1zz
  unfold f_X9_next at k2zz
  obtain ⟨x1zz, e1zz, k1zz⟩ := z_lt k1zz
  obtain ⟨o1, g1, k2zz⟩ := z_lt k2zz
  have f1zz : FR9 o o1 := by rw [g1]; exact FR9.sI (Or.inl rfl)
  have k13 := f1zz.1 13 (by decide) (by decide) (by decide)
  obtain ⟨kzz, ek⟩ : ∃ kzz : Nat, x1zz.toInt = (kzz : Int) := ⟨x1zz.toInt.toNat, by rw [e1zz, e8]; omega⟩
  have e14zz : gI o1 14 = x1zz := by rw [g1, e1zz, e8]; rfl
  obtain ⟨uzz, o2, mzz, q1zz, q2zz, q3zz, q4zz, q5zz, q6zz, q7zz⟩ := tk_sp zfu x1zz o1 kzz (hz.fr FR6.rf f1zz) ek e14zz (by rw [k13, ← ek, e1zz, e8]; exact h1) k1zz k2zz
  rw [k13] at q5zz
  have hk15 : (gI o 15).toInt = (kzz : Int) := by rw [← e8, ← e1zz]; exact ek
  have f2zz := f1zz.tr q6zz
  have hz2 := hz.fr (rd' := rd) FR6.rf f2zz
  have h400 := hz.2.2.2
  unfold bk_X6_step_29 at q1zz
  obtain ⟨r2, a2, q1zz⟩ := z_lt q1zz
  obtain ⟨r3, a3, q1zz⟩ := z_lt q1zz
  obtain ⟨r4, a4, q1zz⟩ := z_lt q1zz
  unfold bk_X9_next_46 at q2zz
  obtain ⟨p2zz, b2, q2zz⟩ := z_lt q2zz
  obtain ⟨p3zz, b3, q2zz⟩ := z_lt q2zz
  have f6zz : FR6 rd r4 := FR6.tr (o' := r2) (by rw [a2]; exact FR6.sI (Or.inr (Or.inl rfl))) (FR6.tr (o' := r3) (by rw [a3]; exact FR6.sI (Or.inr (Or.inr (Or.inl rfl)))) (by rw [a4]; exact FR6.sI (Or.inr (Or.inr (Or.inr rfl)))))
  have f9zz : FR9 o p3zz := f2zz.tr (FR9.tr (o' := p2zz) (by rw [b2]; exact FR9.sI (Or.inr (Or.inl rfl))) (by rw [b3]; exact FR9.sL))
  have z4 := hz.fr f6zz f9zz
  have c13zz := f9zz.1 13 (by decide) (by decide) (by decide)
  have c14zz : gI p3zz 14 = uzz := by rw [b3, b2]; exact q3zz
  have c15zz : gI p3zz 15 = uzz := by rw [b3, b2]; exact q3zz
  have c17 : gL p3zz 17 = 0 := by rw [b3]; rfl
  have s7 : gI r4 7 = uzz := by rw [a4, a3, a2]; rfl
  have s8 : gI r4 8 = uzz + 1 := by rw [a4, a3, a2]; rfl
  have iu : uzz.toNatClampNeg = mzz := tnc_eq q4zz
  rw [c14zz] at q2zz
  by_cases czz : uzz = gI p3zz 13
  · have q2zz := z_t q2zz czz
    have ce : (mzz : Int) = (gI o 13).toInt := by rw [← c13zz, ← czz]; exact q4zz.symm
    have q1zz := z_f q1zz (fun wzz => by
      have wzz := cv_lt (a := (mzz : Int)) (b := (gI r4 2).toInt) q4zz rfl wzz
      rw [z4.1, c13zz] at wzz; omega)
    obtain ⟨r22, d22zz, q1zz⟩ := z_lt q1zz
    obtain ⟨r23, d23zz, q1zz⟩ := z_lt q1zz
    unfold bk_X9_next_114 at q2zz
    obtain ⟨o8zz, g8, q2zz⟩ := z_lt q2zz
    have q2zz := z_f q2zz (by rw [g8]; exact (by decide : ¬ (0 : Int32) = 3))
    have q2zz : lb_X9_next_149 (lp_X9_next_149 99999) o8zz = some o' := q2zz
    unfold lb_X9_next_149 at q2zz
    have q2zz := z_f q2zz (by rw [g8]; exact (by decide : ¬ (0 : Int32) = 1))
    have q2zz : lb_X9_next_243 (lp_X9_next_243 99999) o8zz = some o' := q2zz
    unfold lb_X9_next_243 at q2zz
    have q2zz := z_f q2zz (by rw [g8]; exact (by decide : ¬ (0 : Int32) = 2))
    have f6' : FR6 rd r23 := f6zz.tr (FR6.tr (o' := r22) (by rw [d22zz]; exact FR6.sI (Or.inl rfl)) (by rw [d23zz]; exact FR6.sI (Or.inr (Or.inr (Or.inl rfl)))))
    have f9' : FR9 o o8zz := f9zz.tr (by rw [g8]; exact FR9.sI (Or.inr (Or.inr rfl)))
    rw [← Option.some.inj q1zz, ← Option.some.inj q2zz]
    refine ⟨⟨hz.fr f6' f9', by rw [d23zz, d22zz, g8]; rfl, ?_, ?_, mzz, mzz, ?_, ?_, Nat.le_refl _, ?_, Or.inl ⟨by rw [g8]; rfl, ?_, rfl⟩⟩, f6', f9', ?_⟩
    · rw [d23zz, d22zz, g8]; show gI r4 7 = gI p3zz 14; rw [s7, c14zz]
    · rw [d23zz, g8]; show uzz = gI p3zz 15; rw [c15zz]
    · rw [g8]; show (gI p3zz 14).toInt = _; rw [c14zz]; exact q4zz
    · rw [g8]; show (gI p3zz 15).toInt = _; rw [c15zz]; exact q4zz
    · rw [f9'.1 13 (by decide) (by decide) (by decide)]; omega
    · rw [f9'.1 13 (by decide) (by decide) (by decide)]; exact ce
    · rw [g8]; show _ ≤ (gI p3zz 14).toInt; rw [c14zz]; omega
  · have q2zz := z_f q2zz czz
    have cne : (mzz : Int) < (gI o 13).toInt := by
      have wzz := cv_ne (a := (mzz : Int)) (b := (gI p3zz 13).toInt) q4zz rfl czz
      rw [c13zz] at wzz; omega
    have q1zz := z_t q1zz (Int32.lt_iff_toInt_lt.mpr (by rw [z4.1, c13zz]; omega))
    obtain ⟨z5, ez5, q1zz⟩ := z_bd q1zz
    obtain ⟨z6, ez6, q1zz⟩ := z_bd q1zz
    obtain ⟨-, q2zz⟩ := z_gd q2zz
    obtain ⟨w5, ew5, q2zz⟩ := z_bd q2zz
    rw [iu] at ew5 q2zz
    have cm : (mzz : Int) < (gI p3zz 13).toInt := by rw [c13zz]; exact cne
    rw [byteT z4 q4zz cm ez5] at ez6
    have tu1 : (uzz + 1).toInt = (mzz : Int) + 1 := i32_add q4zz (by decide) (by omega) (by omega)
    rcases lt6 ez6 with ⟨x1', x2zz⟩ | ⟨x1', x2zz⟩ <;> rcases lt9 ew5 with ⟨y1, y2⟩ | ⟨y1, y2⟩
    · have q1zz := z_t q1zz x1'
      obtain ⟨z7, ez7, q1zz⟩ := z_bd q1zz
      obtain ⟨z8, ez8, q1zz⟩ := z_bd q1zz
      obtain ⟨-, q2zz⟩ := z_gd (z_t q2zz y1)
      obtain ⟨w7zz, ew7, q2zz⟩ := z_bd q2zz
      rw [byteT z4 q4zz cm ez7] at ez8
      rcases dg6 ez8 with ⟨u1zz, u2zz⟩ | ⟨u1zz, u2zz⟩ <;> rcases dg9 ew7 with ⟨t1zz, t2zz⟩ | ⟨t1zz, t2zz⟩
      · obtain ⟨r9, d9zz, q1zz⟩ := z_lt (z_t q1zz u1zz)
        have q2zz := z_t q2zz t1zz
        unfold bk_X9_next_114 at q2zz
        obtain ⟨o8zz, g8, q2zz⟩ := z_lt q2zz
        obtain ⟨-, q2zz⟩ := z_gd (z_t q2zz (by rw [g8]; rfl))
        obtain ⟨o20, g20, q2zz⟩ := z_lt q2zz
        obtain ⟨o21, g21, q2zz⟩ := z_lt q2zz
        have e16zz : gI o21 16 = 3 := by rw [g21, g20, g8]; rfl
        have q2zz : lb_X9_next_149 (lp_X9_next_149 99999) o21 = some o' := q2zz
        unfold lb_X9_next_149 at q2zz
        have q2zz := z_f q2zz (by rw [e16zz]; decide)
        have q2zz : lb_X9_next_243 (lp_X9_next_243 99999) o21 = some o' := q2zz
        unfold lb_X9_next_243 at q2zz
        have q2zz := z_f q2zz (by rw [e16zz]; decide)
        have f6' : FR6 rd r9 := f6zz.tr (by rw [d9zz]; exact FR6.sI (Or.inl rfl))
        have f9' : FR9 o o21 := f9zz.tr (FR9.tr (o' := o8zz) (by rw [g8]; exact FR9.sI (Or.inr (Or.inr rfl))) (FR9.tr (o' := o20) (by rw [g20]; exact FR9.sL) (by rw [g21]; exact FR9.sI (Or.inr (Or.inl rfl)))))
        have k14' : gI o21 14 = uzz := by rw [g21, g20, g8]; exact c14zz
        have k15' : gI o21 15 = uzz + 1 := by rw [g21, g20, g8]; show gI p3zz 15 + 1 = _; rw [c15zz]
        rw [← Option.some.inj q1zz, ← Option.some.inj q2zz]
        refine ⟨⟨hz.fr f6' f9', by rw [e16zz, d9zz]; rfl, by rw [k14', d9zz]; exact s7, by rw [k15', d9zz]; exact s8, mzz, mzz + 1, by rw [k14']; exact q4zz, by rw [k15']; omega, by omega, by rw [f9'.1 13 (by decide) (by decide) (by decide)]; omega, Or.inr (Or.inr (Or.inr ⟨e16zz, rfl, ?_⟩))⟩, f6', f9', by rw [k14']; omega⟩
        rw [f9'.gA 12, ← f9zz.gA 12, g21, g20, g8]
        show (gA p3zz 12 (gI p3zz 14).toNatClampNeg).toInt64 = _
        rw [c14zz, iu]
      · exact absurd t2zz u2zz
      · exact absurd u2zz t2zz
      · obtain ⟨r10, d10zz, q1zz⟩ := z_lt (z_f q1zz u1zz)
        obtain ⟨z11, ez11, q1zz⟩ := z_bd q1zz
        obtain ⟨r12, d12zz, q1zz⟩ := z_lt q1zz
        have q2zz := z_f q2zz t1zz
        have f10 : FR6 r4 r10 := by rw [d10zz]; exact FR6.sI (Or.inl rfl)
        rw [byteT (z4.fr f10 FR9.rf) q4zz cm ez11] at d12zz
        unfold bk_X9_next_114 at q2zz
        obtain ⟨o8zz, g8, q2zz⟩ := z_lt q2zz
        have e16zz : gI o8zz 16 = 2 := by rw [g8]; rfl
        have q2zz := z_f q2zz (by rw [e16zz]; decide)
        have q2zz : lb_X9_next_149 (lp_X9_next_149 99999) o8zz = some o' := q2zz
        unfold lb_X9_next_149 at q2zz
        have q2zz := z_f q2zz (by rw [e16zz]; decide)
        have q2zz : lb_X9_next_243 (lp_X9_next_243 99999) o8zz = some o' := q2zz
        unfold lb_X9_next_243 at q2zz
        have q2zz := z_t q2zz e16zz
        have f8zz : FR9 p3zz o8zz := by rw [g8]; exact FR9.sI (Or.inr (Or.inr rfl))
        have k13' := f8zz.1 13 (by decide) (by decide) (by decide)
        have k15' : gI o8zz 15 = uzz := by rw [g8]; exact c15zz
        have k17' : gL o8zz 17 = 0 := by rw [g8]; exact c17
        rw [k13', k15'] at q2zz
        have q2zz := z_f q2zz (fun wzz => by have wzz := cv_le (a := (gI p3zz 13).toInt) (b := (mzz : Int)) rfl q4zz wzz; omega)
        obtain ⟨-, q2zz⟩ := z_gd q2zz
        obtain ⟨w10zz, ew10, q2zz⟩ := z_bd q2zz
        rw [iu, f8zz.gA 12] at ew10 q2zz
        rcases dg9 ew10 with ⟨t3zz, t4zz⟩ | ⟨t3zz, t4zz⟩
        · exact absurd t2zz t4zz
        · have q2zz := z_f q2zz t3zz
          have q2zz := z_t q2zz (by rw [k17']; decide)
          obtain ⟨-, q2zz⟩ := z_gd q2zz
          unfold bk_X9_next_319 at q2zz
          obtain ⟨p12, g12, q2zz⟩ := z_lt q2zz
          obtain ⟨p13zz, g13, q2zz⟩ := z_lt q2zz
          have f9' : FR9 p3zz p13zz := f8zz.tr (FR9.tr (o' := p12) (by rw [g12]; exact FR9.sL) (by rw [g13]; exact FR9.sI (Or.inr (Or.inl rfl))))
          have f6' : FR6 r4 r12 := f10.tr (by rw [d12zz]; exact FR6.sI (Or.inr (Or.inr (Or.inr rfl))))
          have l14 : gI p13zz 14 = uzz := by rw [g13, g12, g8]; exact c14zz
          have l15 : gI p13zz 15 = uzz + 1 := by rw [g13, g12]; show gI o8zz 15 + 1 = _; rw [k15']
          have l9 : gI r12 9 = gA p3zz 12 mzz - 48 := by rw [d12zz]; rfl
          have l17 : gL p13zz 17 = ((gL o8zz 17 * (10 : Int64)) + (gA p3zz 12 mzz).toInt64) - (48 : Int64) := by rw [g13, g12]; rfl
          have m1zz : ((gL o8zz 17) * (10 : Int64)).toInt = 0 * 10 := i64_mul (by rw [k17']; decide) (by decide) (by omega) (by omega)
          have m2zz : (((gL o8zz 17) * (10 : Int64)) + (gA p3zz 12 mzz).toInt64).toInt = 0 * 10 + (gA p3zz 12 mzz).toInt := i64_add m1zz (Int32.toInt_toInt64 _) (by omega) (by omega)
          have m3zz := i64_sub (y := (48 : Int64)) (b := 48) m2zz (by decide) (by omega) (by omega)
          have m4zz : (gA p3zz 12 mzz - 48).toInt = (gA p3zz 12 mzz).toInt - 48 := i32_sub rfl (by decide) (by omega) (by omega)
          have nv : NV (gI r12 9) (gL p13zz 17) := by
            rw [l9, l17]
            exact ⟨by rw [m3zz]; omega, by rw [m3zz]; omega, Or.inl ⟨by rw [m3zz]; omega, by rw [m3zz, m4zz]; omega⟩⟩
          obtain ⟨v1zz, v2, v3, v4zz⟩ := tk_nb (azz := mzz) zfu 99999 r12 p13zz 1 (z4.fr f6' f9') (by rw [d12zz, d10zz]; rfl) (by rw [g13, g12]; exact e16zz) (by rw [l14, d12zz, d10zz]; exact s7) (by rw [l15, d12zz, d10zz]; exact s8) (by rw [l14]; exact q4zz) (by rw [l15]; omega) (by omega) (by rw [f9'.1 13 (by decide) (by decide) (by decide), c13zz]; omega) nv q1zz q2zz
          exact ⟨v1zz, f6zz.tr (f6'.tr v2), f9zz.tr (f9'.tr v3), by rw [v4zz, l14]; omega⟩
    · exact absurd y2 x2zz
    · exact absurd x2zz y2
    · obtain ⟨r18, d18zz, q1zz⟩ := z_lt (z_f q1zz x1')
      have q2zz := z_f q2zz y1
      unfold bk_X9_next_114 at q2zz
      obtain ⟨o8zz, g8, q2zz⟩ := z_lt q2zz
      have e16zz : gI o8zz 16 = 1 := by rw [g8]; rfl
      have q2zz := z_f q2zz (by rw [e16zz]; decide)
      have q2zz : lb_X9_next_149 (lp_X9_next_149 99999) o8zz = some o' := q2zz
      unfold lb_X9_next_149 at q2zz
      have q2zz := z_t q2zz e16zz
      have f8zz : FR9 p3zz o8zz := by rw [g8]; exact FR9.sI (Or.inr (Or.inr rfl))
      have k13' := f8zz.1 13 (by decide) (by decide) (by decide)
      have k14' : gI o8zz 14 = uzz := by rw [g8]; exact c14zz
      have k15' : gI o8zz 15 = uzz := by rw [g8]; exact c15zz
      have k17' : gL o8zz 17 = 0 := by rw [g8]; exact c17
      rw [k13', k15'] at q2zz
      have q2zz := z_f q2zz (fun wzz => by have wzz := cv_le (a := (gI p3zz 13).toInt) (b := (mzz : Int)) rfl q4zz wzz; omega)
      obtain ⟨-, q2zz⟩ := z_gd q2zz
      obtain ⟨w15, ew15, q2zz⟩ := z_bd q2zz
      rw [iu, f8zz.gA 12] at ew15 q2zz
      rcases lt9 ew15 with ⟨t3zz, t4zz⟩ | ⟨t3zz, t4zz⟩
      · exact absurd y2 t4zz
      · have q2zz := z_f q2zz t3zz
        have hdzz : (uzz - gI o8zz 14).toInt = (mzz : Int) - (mzz : Int) := by rw [k14']; exact i32_sub q4zz q4zz (by omega) (by omega)
        have q2zz := z_f q2zz (fun wzz => by have wzz := cv_le (a := 10) (b := (mzz : Int) - (mzz : Int)) (by decide) hdzz wzz; omega)
        obtain ⟨-, q2zz⟩ := z_gd q2zz
        unfold bk_X9_next_227 at q2zz
        obtain ⟨p12, g12, q2zz⟩ := z_lt q2zz
        obtain ⟨p13zz, g13, q2zz⟩ := z_lt q2zz
        have f9' : FR9 p3zz p13zz := f8zz.tr (FR9.tr (o' := p12) (by rw [g12]; exact FR9.sL) (by rw [g13]; exact FR9.sI (Or.inr (Or.inl rfl))))
        have f6' : FR6 r4 r18 := by rw [d18zz]; exact FR6.sI (Or.inl rfl)
        have l14 : gI p13zz 14 = uzz := by rw [g13, g12]; exact k14'
        have l15 : gI p13zz 15 = uzz + 1 := by rw [g13, g12]; show gI o8zz 15 + 1 = _; rw [k15']
        have l17 : gL p13zz 17 = ((gL o8zz 17 * (32 : Int64)) + (gA p3zz 12 mzz).toInt64) - (96 : Int64) := by rw [g13, g12]; rfl
        have m1zz : ((gL o8zz 17) * (32 : Int64)).toInt = 0 * 32 := i64_mul (by rw [k17']; decide) (by decide) (by omega) (by omega)
        have m2zz : (((gL o8zz 17) * (32 : Int64)) + (gA p3zz 12 mzz).toInt64).toInt = 0 * 32 + (gA p3zz 12 mzz).toInt := i64_add m1zz (Int32.toInt_toInt64 _) (by omega) (by omega)
        have m3zz := i64_sub (y := (96 : Int64)) (b := 96) m2zz (by decide) (by omega) (by omega)
        have lt1 : ltr (gA p13zz 12) mzz 1 := fun izz hizz => by
          have ezz : mzz + izz = mzz := by omega
          rw [ezz, f9'.gA 12]; exact y2
        have wv : WVl (gA p13zz 12) mzz 1 (gL p13zz 17) := by
          refine ⟨fun _ => ?_, fun qzz => by omega⟩
          rw [l17, m3zz, f9'.gA 12]
          show _ = (0 : Int) * 32 + ((gA p3zz 12 (mzz + 0)).toInt - 96)
          have ezz : mzz + 0 = mzz := rfl
          rw [ezz]; omega
        obtain ⟨v1zz, v2, v3, v4zz⟩ := tk_wd (azz := mzz) zfu 99999 r18 p13zz 1 (z4.fr f6' f9') (by rw [d18zz]; rfl) (by rw [g13, g12]; exact e16zz) (by rw [l14, d18zz]; exact s7) (by rw [l15, d18zz]; exact s8) (by rw [l14]; exact q4zz) (by rw [l15]; omega) (by omega) (by rw [f9'.1 13 (by decide) (by decide) (by decide), c13zz]; omega) lt1 wv q1zz q2zz
        exact ⟨v1zz, f6zz.tr (f6'.tr v2), f9zz.tr (f9'.tr v3), by rw [v4zz, l14]; omega⟩
def mat (gzz : Nat → Int32) (azz : Nat) : List Int → Prop
  | [] => True
  | d :: rzz => (gzz (azz + rzz.length)).toInt = 96 + d ∧ mat gzz azz rzz
def codR : List Int → Int
  | [] => 0
  | d :: rzz => codR rzz * 32 + d
def dig (R : List Int) : Prop := ∀ d ∈ R, 1 ≤ d ∧ d ≤ 26
set_option maxHeartbeats 200000 in
theorem codR_nn : ∀ (R : List Int), dig R → 0 ≤ codR R := by
  intro R
  induction R with
  | nil => intro _; exact Int.le_refl _
  | cons d rzz ihzz =>
    intro hzz
    have h1 := ihzz (fun xzz hx => hzz xzz (List.mem_cons_of_mem _ hx))
    have h2 := hzz d (List.mem_cons_self ..)
    show 0 ≤ codR rzz * 32 + d
    omega
set_option maxHeartbeats 200000 in
theorem cod_nn {gzz : Nat → Int32} {azz : Nat} : ∀ n, ltr gzz azz n → 0 ≤ cod gzz azz n := by
  intro n
  induction n with
  | zero => intro _; exact Int.le_refl _
  | succ n ihzz =>
    intro hl
    have hzz := ihzz (fun izz hizz => hl izz (by omega))
    have l := hl n (by omega)
    show 0 ≤ cod gzz azz n * 32 + ((gzz (azz + n)).toInt - 96)
    omega
set_option maxHeartbeats 200000 in
theorem cod_mat {gzz : Nat → Int32} {azz : Nat} : ∀ (R : List Int) (n : Nat), dig R → ltr gzz azz n → (cod gzz azz n = codR R ↔ n = R.length ∧ mat gzz azz R) := by
  intro R
  induction R with
  | nil =>
    intro n _ hl
    cases n with
    | zero => exact ⟨fun _ => ⟨rfl, trivial⟩, fun _ => rfl⟩
    | succ n =>
      have hzz := cod_nn (gzz := gzz) (azz := azz) n (fun izz hizz => hl izz (by omega))
      have l := hl n (by omega)
      refine ⟨fun qzz => ?_, fun qzz => ?_⟩
      · have qzz : cod gzz azz n * 32 + ((gzz (azz + n)).toInt - 96) = 0 := qzz
        omega
      · exact absurd qzz.1 (Nat.succ_ne_zero _)
  | cons d rzz ihzz =>
    intro n hdzz hl
    have h2 := hdzz d (List.mem_cons_self ..)
    have hr := codR_nn rzz (fun xzz hx => hdzz xzz (List.mem_cons_of_mem _ hx))
    cases n with
    | zero =>
      refine ⟨fun qzz => ?_, fun qzz => ?_⟩
      · have qzz : (0 : Int) = codR rzz * 32 + d := qzz
        omega
      · exact absurd qzz.1.symm (by rw [List.length_cons]; exact Nat.succ_ne_zero _)
    | succ n =>
      have hzz := ihzz n (fun xzz hx => hdzz xzz (List.mem_cons_of_mem _ hx)) (fun izz hizz => hl izz (by omega))
      have l := hl n (by omega)
      refine ⟨fun qzz => ?_, fun qzz => ?_⟩
      · have qzz : cod gzz azz n * 32 + ((gzz (azz + n)).toInt - 96) = codR rzz * 32 + d := qzz
        have q1zz : cod gzz azz n = codR rzz := by omega
        have q2zz := hzz.mp q1zz
        refine ⟨by rw [List.length_cons, q2zz.1], ?_, q2zz.2⟩
        rw [← q2zz.1]; omega
      · have ezz : n = rzz.length := by have := qzz.1; rw [List.length_cons] at this; omega
        have q1zz := hzz.mpr ⟨ezz, qzz.2.2⟩
        have q3zz : (gzz (azz + rzz.length)).toInt = 96 + d := qzz.2.1
        show cod gzz azz n * 32 + ((gzz (azz + n)).toInt - 96) = codR rzz * 32 + d
        rw [q1zz, ezz, q3zz]; omega
def IsW (o : Ob) (R : List Int) : Prop := gI o 16 = 1 ∧ ∃ azz : Nat, (gI o 14).toInt = (azz : Int) ∧ (gI o 15).toInt = ((azz + R.length : Nat) : Int) ∧ mat (gA o 12) azz R
set_option maxHeartbeats 200000 in
theorem IsW.cd {rd o : Ob} {R : List Int} (hzz : TT rd o) (hdzz : dig R) (hl : R.length ≤ 10) : IsW o R ↔ (gI o 16 = 1 ∧ (gL o 17).toInt = codR R) := by
  obtain ⟨-, -, -, -, azz, bzz, ea, eb, hab, hbzz, hx⟩ := hzz
  have hn := codR_nn R hdzz
  rcases hx with ⟨qzz, -⟩ | ⟨qzz, hlt, hl1, hw⟩ | ⟨qzz, -⟩ | ⟨qzz, -⟩
  · exact ⟨fun wzz => absurd (qzz.symm.trans wzz.1) (by decide), fun wzz => absurd (qzz.symm.trans wzz.1) (by decide)⟩
  · have keyzz := cod_mat R (bzz - azz) hdzz hl1
    refine ⟨fun wzz => ⟨qzz, ?_⟩, fun wzz => ⟨qzz, azz, ea, ?_, ?_⟩⟩
    · obtain ⟨-, a', ea', eb', mzz⟩ := wzz
      have ezz : a' = azz := by omega
      rw [ezz] at mzz eb'
      have e2zz : bzz - azz = R.length := by omega
      rw [hw.1 (by omega)]
      exact keyzz.mpr ⟨e2zz, mzz⟩
    · have e2zz : bzz - azz ≤ 10 := by
        rcases (show bzz - azz ≤ 10 ∨ 10 < bzz - azz by omega) with uzz | uzz
        · exact uzz
        · have := hw.2 uzz; omega
      have mzz := keyzz.mp ((hw.1 e2zz).symm.trans wzz.2)
      omega
    · have e2zz : bzz - azz ≤ 10 := by
        rcases (show bzz - azz ≤ 10 ∨ 10 < bzz - azz by omega) with uzz | uzz
        · exact uzz
        · have := hw.2 uzz; omega
      exact (keyzz.mp ((hw.1 e2zz).symm.trans wzz.2)).2
  · exact ⟨fun wzz => absurd (qzz.symm.trans wzz.1) (by decide), fun wzz => absurd (qzz.symm.trans wzz.1) (by decide)⟩
  · exact ⟨fun wzz => absurd (qzz.symm.trans wzz.1) (by decide), fun wzz => absurd (qzz.symm.trans wzz.1) (by decide)⟩
set_option maxHeartbeats 200000 in
theorem w9 {rd o : Ob} {R : List Int} {Czz : Int64} {zzz : Int32} (hzz : TT rd o) (hdzz : dig R) (hl : R.length ≤ 10) (hC : Czz.toInt = codR R) (hz : f_X9_isWord o Czz = some zzz) : (zzz = 0 ∧ ¬ IsW o R) ∨ (¬ zzz = 0 ∧ IsW o R) := by
  have keyzz := IsW.cd hzz hdzz hl
  unfold f_X9_isWord at hz
  by_cases czz : gI o 16 = 1
  · have hz := z_t hz czz
    by_cases gzz : lg_cmp (gL o 17) Czz = 0
    · have ezz := cvl_eq (a := (gL o 17).toInt) (b := codR R) rfl hC gzz
      exact Or.inr ⟨by rw [← Option.some.inj (z_t hz gzz)]; decide, keyzz.mpr ⟨czz, ezz⟩⟩
    · have ezz := cvl_ne (a := (gL o 17).toInt) (b := codR R) rfl hC gzz
      exact Or.inl ⟨(Option.some.inj (z_f hz gzz)).symm, fun wzz => ezz (keyzz.mp wzz).2⟩
  · exact Or.inl ⟨(Option.some.inj (z_f hz czz)).symm, fun wzz => czz wzz.1⟩
set_option maxHeartbeats 200000 in
theorem IsW.ne {rd o : Ob} {R R' : List Int} (hzz : TT rd o) (hdzz : dig R) (hl : R.length ≤ 10) (hd' : dig R') (hl' : R'.length ≤ 10) (hne : codR R ≠ codR R') (wzz : IsW o R) : ¬ IsW o R' := fun w' => hne (((IsW.cd hzz hdzz hl).mp wzz).2.symm.trans ((IsW.cd hzz hd' hl').mp w').2)
def chT (t kzz : Nat) : Int32 := (btS.getD t []).getD kzz 0
def mcb (t fzz : Nat) : List Int → Bool
  | [] => true
  | d :: rzz => decide ((chT t (fzz + rzz.length)).toInt = 96 + d) && mcb t fzz rzz
set_option maxHeartbeats 200000 in
theorem mcb_mat {gzz : Nat → Int32} {t fzz azz : Nat} : ∀ (R : List Int), mcb t fzz R = true → ((∀ izz, izz < R.length → gzz (azz + izz) = chT t (fzz + izz)) ↔ mat gzz azz R) := by
  intro R
  induction R with
  | nil => intro _; exact ⟨fun _ => trivial, fun _ izz hizz => absurd hizz (Nat.not_lt_zero _)⟩
  | cons d rzz ihzz =>
    intro hzz
    have hzz : (decide ((chT t (fzz + rzz.length)).toInt = 96 + d) && mcb t fzz rzz) = true := hzz
    obtain ⟨h1, h2⟩ := Bool.and_eq_true_iff.mp hzz
    have h1 := of_decide_eq_true h1
    have h2 := ihzz h2
    refine ⟨fun qzz => ⟨?_, h2.mp (fun izz hizz => qzz izz (by rw [List.length_cons]; omega))⟩, fun qzz izz hizz => ?_⟩
    · rw [qzz rzz.length (by rw [List.length_cons]; omega)]; exact h1
    · rw [List.length_cons] at hizz
      by_cases ezz : izz = rzz.length
      · rw [ezz]; exact Int32.toInt_inj.mp (qzz.1.trans h1.symm)
      · exact h2.mpr qzz.2 izz (by omega)
set_option maxHeartbeats 200000 in
theorem sm_lp {rd : Ob} {t fzz azz L : Nat} {v2 v4zz zzz : Int32} (ht : t < 9) (ea : (gI rd 7).toInt = (azz : Int)) (hL : azz + L ≤ 400) (e2zz : v2.toInt = (fzz : Int)) (hf : fzz + L ≤ lnS.getD t 0) (e4zz : v4zz.toInt = (L : Int)) : ∀ (Nzz : Nat) (v5 : Int32) (izz : Nat), v5.toInt = (izz : Int) → izz ≤ L → lp_X6_isSame_53 rd Nzz (t, v2, v4zz, v5) = some zzz →
    (zzz = 0 ∧ ∃ jzz, izz ≤ jzz ∧ jzz < L ∧ ¬ gA rd 0 (azz + jzz) = chT t (fzz + jzz)) ∨ (zzz = 1 ∧ ∀ jzz, izz ≤ jzz → jzz < L → gA rd 0 (azz + jzz) = chT t (fzz + jzz)) := by
  have hl := ln_le t ht
  intro Nzz
  induction Nzz with
  | zero => intro v5 izz _ _ hzz; cases hzz
  | succ Nzz ihzz =>
    intro v5 izz e5zz hizz hzz
    have hzz : lb_X6_isSame_53 rd (lp_X6_isSame_53 rd Nzz) t v2 v4zz v5 = some zzz := hzz
    unfold lb_X6_isSame_53 at hzz
    by_cases czz : v4zz ≤ v5
    · have d := cv_le (a := (L : Int)) (b := (izz : Int)) e4zz e5zz czz
      exact Or.inr ⟨(Option.some.inj (z_t hzz czz)).symm, fun jzz q1zz q2zz => by omega⟩
    · have d := cv_nle (a := (L : Int)) (b := (izz : Int)) e4zz e5zz czz
      obtain ⟨-, hzz⟩ := z_gd (z_f hzz czz)
      obtain ⟨-, hzz⟩ := z_gd hzz
      obtain ⟨z5, ez, hzz⟩ := z_bd hzz
      have t1zz : ((gI rd 7) + v5).toInt = (azz : Int) + (izz : Int) := i32_add ea e5zz (by omega) (by omega)
      have i1zz : ((gI rd 7) + v5).toNatClampNeg = azz + izz := tnc_eq (by omega)
      have t2zz : (v2 + v5).toInt = (fzz : Int) + (izz : Int) := i32_add e2zz e5zz (by omega) (by omega)
      have ek : v2 + v5 = Int32.ofNat (fzz + izz) := by
        refine Int32.toInt_inj.mp ?_
        rw [Int32.toInt_ofNat_of_lt (by omega), t2zz]
        omega
      rw [ek, tx_chr t ht (fzz + izz) (by omega)] at ez
      have ez : chT t (fzz + izz) = z5 := Option.some.inj ez
      rw [i1zz, ← ez] at hzz
      by_cases gzz : gA rd 0 (azz + izz) = chT t (fzz + izz)
      · obtain ⟨x7, e7zz, hzz⟩ := z_lt (z_t hzz gzz)
        have t7 : x7.toInt = (izz : Int) + 1 := by rw [e7zz]; exact i32_add e5zz (by decide) (by omega) (by omega)
        rcases ihzz x7 (izz + 1) (by omega) (by omega) hzz with ⟨q1zz, jzz, q2zz, q3zz, q4zz⟩ | ⟨q1zz, q2zz⟩
        · exact Or.inl ⟨q1zz, jzz, by omega, q3zz, q4zz⟩
        · refine Or.inr ⟨q1zz, fun jzz u1zz u2zz => ?_⟩
          by_cases wzz : jzz = izz
          · rw [wzz]; exact gzz
          · exact q2zz jzz (by omega) u2zz
      · exact Or.inl ⟨(Option.some.inj (z_f hzz gzz)).symm, izz, Nat.le_refl _, by omega, gzz⟩
set_option maxHeartbeats 200000 in
theorem same8 {rd o : Ob} {t fzz : Nat} {R : List Int} {p1zz p2zz zzz : Int32} (hzz : TT rd o) (h1 : gI o 16 = 1) (ht : t < 9) (e1zz : p1zz.toInt = (fzz : Int)) (e2zz : p2zz.toInt = ((fzz + R.length : Nat) : Int)) (hf : fzz + R.length ≤ lnS.getD t 0) (hmzz : mcb t fzz R = true) (hz : f_X6_isSame rd t p1zz p2zz = some zzz) : (zzz = 0 ∧ ¬ IsW o R) ∨ (¬ zzz = 0 ∧ IsW o R) := by
  obtain ⟨hz0, e6zz, e7zz, e8, azz, bzz, ea, eb, hab, hbzz, -⟩ := hzz
  have h400 := hz0.2.2.2
  have hl := ln_le t ht
  unfold f_X6_isSame at hz
  obtain ⟨x1zz, exzz, hz⟩ := z_lt hz
  have tx : x1zz.toInt = ((fzz + R.length : Nat) : Int) - (fzz : Int) := by rw [exzz]; exact i32_sub e2zz e1zz (by omega) (by omega)
  have hz := z_f hz (fun czz => by have czz := cv_lt (a := (fzz : Int)) (b := 0) e1zz (by decide) czz; omega)
  obtain ⟨-, hz⟩ := z_gd hz
  obtain ⟨z2, ez2, hz⟩ := z_bd hz
  rw [tx_len t ht] at ez2
  have t2zz : z2.toInt = (lnS.getD t 0 : Int) := by rw [← Option.some.inj ez2]; exact Int32.toInt_ofNat_of_lt (by omega)
  have hz := z_f hz (fun czz => by have czz := cv_lt (a := (lnS.getD t 0 : Int)) (b := ((fzz + R.length : Nat) : Int)) t2zz e2zz czz; omega)
  rw [e7zz, e8] at hz
  have td : (gI o 15 - gI o 14).toInt = (bzz : Int) - (azz : Int) := i32_sub eb ea (by omega) (by omega)
  by_cases czz : x1zz = gI o 15 - gI o 14
  · have d := cv_eq (a := ((fzz + R.length : Nat) : Int) - (fzz : Int)) (b := (bzz : Int) - (azz : Int)) tx td czz
    have hz := z_f (z_t hz czz) (fun czz => by have czz := cv_lt (a := (azz : Int)) (b := 0) ea (by decide) czz; omega)
    have hz := z_t hz (Int32.le_iff_toInt_le.mpr (by have : (400 : Int32).toInt = 400 := (by decide); omega))
    have keyzz := mcb_mat (gzz := gA o 12) (azz := azz) R hmzz
    rcases sm_lp (azz := azz) (fzz := fzz) (L := R.length) ht (by rw [e7zz]; exact ea) (by omega) e1zz hf (by omega) _ _ 0 (by decide) (Nat.zero_le _) hz with ⟨q1zz, jzz, -, q2zz, q3zz⟩ | ⟨q1zz, q2zz⟩
    · refine Or.inl ⟨q1zz, fun wzz => ?_⟩
      obtain ⟨-, a', ea', -, mzz⟩ := wzz
      have ezz : a' = azz := by omega
      rw [ezz] at mzz
      rw [hz0.2.1] at q3zz
      exact q3zz (keyzz.mpr mzz jzz q2zz)
    · refine Or.inr ⟨by rw [q1zz]; decide, h1, azz, ea, by omega, keyzz.mp (fun izz hizz => ?_)⟩
      rw [← hz0.2.1]; exact q2zz izz (Nat.zero_le _) hizz
  · have d := cv_ne (a := ((fzz + R.length : Nat) : Int) - (fzz : Int)) (b := (bzz : Int) - (azz : Int)) tx td czz
    refine Or.inl ⟨(Option.some.inj (z_f hz czz)).symm, fun wzz => ?_⟩
    obtain ⟨-, a', ea', eb', -⟩ := wzz
    omega
def chnT (t fzz : Nat) : List (List Int) → Bool
  | [] => false
  | [R] => mcb t fzz R && decide (fzz + R.length = lnS.getD t 0) && R.all (fun d => decide (1 ≤ d ∧ d ≤ 26)) && decide (R.length ≤ 10)
  | R :: R' :: wszz => mcb t fzz R && decide (fzz + R.length < lnS.getD t 0) && decide (chT t (fzz + R.length) = 32) && R.all (fun d => decide (1 ≤ d ∧ d ≤ 26)) && decide (R.length ≤ 10) && chnT t (fzz + R.length + 1) (R' :: wszz)
set_option maxHeartbeats 200000 in
theorem mcb_ns {t fzz : Nat} : ∀ (R : List Int), mcb t fzz R = true → dig R → ∀ izz, izz < R.length → ¬ chT t (fzz + izz) = 32 := by
  intro R
  induction R with
  | nil => intro _ _ izz hizz; exact absurd hizz (Nat.not_lt_zero _)
  | cons d rzz ihzz =>
    intro hzz hdzz izz hizz
    have hzz : (decide ((chT t (fzz + rzz.length)).toInt = 96 + d) && mcb t fzz rzz) = true := hzz
    obtain ⟨h1, h2⟩ := Bool.and_eq_true_iff.mp hzz
    have h1 := of_decide_eq_true h1
    rw [List.length_cons] at hizz
    by_cases ezz : izz = rzz.length
    · intro qzz
      rw [ezz] at qzz
      rw [qzz] at h1
      have := hdzz d (List.mem_cons_self ..)
      have e32 : (32 : Int32).toInt = 32 := by decide
      omega
    · exact ihzz h2 (fun xzz hx => hdzz xzz (List.mem_cons_of_mem _ hx)) izz (by omega)
set_option maxHeartbeats 200000 in
theorem wo_to {rd : Ob} {t fzz L : Nat} {v2 v3 zzz : Int32} (ht : t < 9) (hf : fzz + L ≤ lnS.getD t 0) (hns : ∀ izz, izz < L → ¬ chT t (fzz + izz) = 32) (hend : fzz + L = lnS.getD t 0 ∨ chT t (fzz + L) = 32) : ∀ (Nzz : Nat) (v4zz : Int32) (izz : Nat), v4zz.toInt = ((fzz + izz : Nat) : Int) → izz ≤ L → lp_X6_wordOf_17 rd Nzz (t, v2, v3, v4zz) = some zzz → ∃ (N' : Nat) (xzz : Int32), xzz.toInt = ((fzz + L : Nat) : Int) ∧ bk_X6_wordOf_46 rd (lp_X6_wordOf_17 rd N') t v2 v3 xzz = some zzz := by
  have hl := ln_le t ht
  intro Nzz
  induction Nzz with
  | zero => intro v4zz izz _ _ hzz; cases hzz
  | succ Nzz ihzz =>
    intro v4zz izz e4zz hizz hzz
    have hzz : lb_X6_wordOf_17 rd (lp_X6_wordOf_17 rd Nzz) t v2 v3 v4zz = some zzz := hzz
    unfold lb_X6_wordOf_17 at hzz
    obtain ⟨-, hzz⟩ := z_gd hzz
    obtain ⟨z1, ez1, hzz⟩ := z_bd hzz
    rw [tx_len t ht] at ez1
    have t1zz : z1.toInt = (lnS.getD t 0 : Int) := by rw [← Option.some.inj ez1]; exact Int32.toInt_ofNat_of_lt (by omega)
    have hzz := z_f hzz (fun czz => by have czz := cv_lt (a := (lnS.getD t 0 : Int)) (b := ((fzz + izz : Nat) : Int)) t1zz e4zz czz; omega)
    obtain ⟨-, hzz⟩ := z_gd hzz
    obtain ⟨z3, ez3, hzz⟩ := z_bd hzz
    rw [tx_len t ht] at ez3
    have t3zz : z3.toInt = (lnS.getD t 0 : Int) := by rw [← Option.some.inj ez3]; exact Int32.toInt_ofNat_of_lt (by omega)
    by_cases czz : v4zz = z3
    · have d := cv_eq (a := ((fzz + izz : Nat) : Int)) (b := (lnS.getD t 0 : Int)) e4zz t3zz czz
      have ezz : izz = L := by omega
      rw [ezz] at e4zz
      exact ⟨Nzz, v4zz, e4zz, z_t hzz czz⟩
    · have d := cv_ne (a := ((fzz + izz : Nat) : Int)) (b := (lnS.getD t 0 : Int)) e4zz t3zz czz
      obtain ⟨-, hzz⟩ := z_gd (z_f hzz czz)
      obtain ⟨z9, ez9, hzz⟩ := z_bd hzz
      have ek : v4zz = Int32.ofNat (fzz + izz) := by
        refine Int32.toInt_inj.mp ?_
        rw [Int32.toInt_ofNat_of_lt (by omega), e4zz]
      rw [ek, tx_chr t ht (fzz + izz) (by omega)] at ez9
      have ez9 : chT t (fzz + izz) = z9 := Option.some.inj ez9
      rw [← ez9] at hzz
      by_cases ezz : izz = L
      · rw [ezz] at hzz e4zz
        rcases hend with qzz | qzz
        · omega
        · exact ⟨Nzz, v4zz, e4zz, z_t hzz qzz⟩
      · have hzz := z_f hzz (hns izz (by omega))
        unfold bk_X6_wordOf_67 at hzz
        obtain ⟨x8, e8, hzz⟩ := z_lt hzz
        have t8 : x8.toInt = ((fzz + izz : Nat) : Int) + 1 := by rw [e8]; exact i32_add e4zz (by decide) (by omega) (by omega)
        exact ihzz x8 (izz + 1) (by omega) (by omega) hzz
set_option maxHeartbeats 200000 in
theorem all_dig {R : List Int} (hzz : R.all (fun d => decide (1 ≤ d ∧ d ≤ 26)) = true) : dig R := fun d hdzz => of_decide_eq_true (List.all_eq_true.mp hzz d hdzz)
set_option maxHeartbeats 200000 in
theorem wo_lp {rd o : Ob} {t : Nat} {zzz : Int32} (hzz : TT rd o) (h1 : gI o 16 = 1) (ht : t < 9) : ∀ (wszz : List (List Int)) (Nzz fzz wzz : Nat) (v2 v3 v4zz : Int32), chnT t fzz wszz = true → v2.toInt = (wzz : Int) → wzz + wszz.length ≤ 100 → v3.toInt = (fzz : Int) → v4zz.toInt = (fzz : Int) → lp_X6_wordOf_17 rd Nzz (t, v2, v3, v4zz) = some zzz →
    (∃ (jzz : Nat) (R : List Int), wszz[jzz]? = some R ∧ zzz.toInt = ((wzz + jzz : Nat) : Int) ∧ IsW o R) ∨ (zzz = -1 ∧ ∀ R ∈ wszz, ¬ IsW o R) := by
  have hl := ln_le t ht
  intro wszz
  induction wszz with
  | nil => intro Nzz fzz wzz v2 v3 v4zz hczz; cases hczz
  | cons R wszz ihzz =>
    intro Nzz fzz wzz v2 v3 v4zz hczz e2zz hw e3zz e4zz hz
    have hcc : mcb t fzz R = true ∧ dig R ∧ fzz + R.length ≤ lnS.getD t 0 ∧ (fzz + R.length = lnS.getD t 0 ∧ wszz = [] ∨ fzz + R.length < lnS.getD t 0 ∧ chT t (fzz + R.length) = 32 ∧ chnT t (fzz + R.length + 1) wszz = true) := by
      cases wszz with
      | nil =>
        have hczz : (mcb t fzz R && decide (fzz + R.length = lnS.getD t 0) && R.all (fun d => decide (1 ≤ d ∧ d ≤ 26)) && decide (R.length ≤ 10)) = true := hczz
        obtain ⟨hczz, -⟩ := Bool.and_eq_true_iff.mp hczz
        obtain ⟨hczz, c3zz⟩ := Bool.and_eq_true_iff.mp hczz
        obtain ⟨c1zz, c2zz⟩ := Bool.and_eq_true_iff.mp hczz
        have c2zz := of_decide_eq_true c2zz
        exact ⟨c1zz, all_dig c3zz, by omega, Or.inl ⟨c2zz, rfl⟩⟩
      | cons R' wszz =>
        have hczz : (mcb t fzz R && decide (fzz + R.length < lnS.getD t 0) && decide (chT t (fzz + R.length) = 32) && R.all (fun d => decide (1 ≤ d ∧ d ≤ 26)) && decide (R.length ≤ 10) && chnT t (fzz + R.length + 1) (R' :: wszz)) = true := hczz
        obtain ⟨hczz, c5zz⟩ := Bool.and_eq_true_iff.mp hczz
        obtain ⟨hczz, -⟩ := Bool.and_eq_true_iff.mp hczz
        obtain ⟨hczz, c4zz⟩ := Bool.and_eq_true_iff.mp hczz
        obtain ⟨hczz, c3zz⟩ := Bool.and_eq_true_iff.mp hczz
        obtain ⟨c1zz, c2zz⟩ := Bool.and_eq_true_iff.mp hczz
        have c2zz := of_decide_eq_true c2zz
        exact ⟨c1zz, all_dig c4zz, by omega, Or.inr ⟨c2zz, of_decide_eq_true c3zz, c5zz⟩⟩
    obtain ⟨hmzz, hdzz, hf, hx⟩ := hcc
    have hnx : fzz + R.length = lnS.getD t 0 ∨ chT t (fzz + R.length) = 32 := by
      rcases hx with ⟨qzz, -⟩ | ⟨-, qzz, -⟩
      · exact Or.inl qzz
      · exact Or.inr qzz
    obtain ⟨N', xzz, exzz, hz⟩ := wo_to (fzz := fzz) (L := R.length) ht hf (mcb_ns R hmzz hdzz) hnx Nzz v4zz 0 (by omega) (Nat.zero_le _) hz
    unfold bk_X6_wordOf_46 at hz
    obtain ⟨z5, ez5, hz⟩ := z_bd hz
    rcases same8 hzz h1 ht e3zz exzz hf hmzz ez5 with ⟨q1zz, q2zz⟩ | ⟨q1zz, q2zz⟩
    · obtain ⟨x6, e6zz, hz⟩ := z_lt (z_t hz q1zz)
      obtain ⟨x7, e7zz, hz⟩ := z_lt hz
      unfold bk_X6_wordOf_67 at hz
      obtain ⟨x8, e8, hz⟩ := z_lt hz
      rw [List.length_cons] at hw
      have t6 : x6.toInt = (wzz : Int) + 1 := by rw [e6zz]; exact i32_add e2zz (by decide) (by omega) (by omega)
      have t7 : x7.toInt = ((fzz + R.length : Nat) : Int) + 1 := by rw [e7zz]; exact i32_add exzz (by decide) (by omega) (by omega)
      have t8 : x8.toInt = ((fzz + R.length : Nat) : Int) + 1 := by rw [e8]; exact i32_add exzz (by decide) (by omega) (by omega)
      rcases hx with ⟨u1zz, u2zz⟩ | ⟨u1zz, u2zz, u3⟩
      · subst u2zz
        have hend : zzz = -1 := by
          cases N' with
          | zero => cases hz
          | succ N' =>
            have hz : lb_X6_wordOf_17 rd (lp_X6_wordOf_17 rd N') t x6 x7 x8 = some zzz := hz
            unfold lb_X6_wordOf_17 at hz
            obtain ⟨-, hz⟩ := z_gd hz
            obtain ⟨z1, ez1, hz⟩ := z_bd hz
            rw [tx_len t ht] at ez1
            have t1zz : z1.toInt = (lnS.getD t 0 : Int) := by rw [← Option.some.inj ez1]; exact Int32.toInt_ofNat_of_lt (by omega)
            exact (Option.some.inj (z_t hz (Int32.lt_iff_toInt_lt.mpr (by omega)))).symm
        refine Or.inr ⟨hend, fun R' hR' => ?_⟩
        rw [List.mem_singleton.mp hR']; exact q2zz
      · rcases ihzz N' (fzz + R.length + 1) (wzz + 1) x6 x7 x8 u3 (by omega) (by omega) (by omega) (by omega) hz with ⟨jzz, R', g1, g2, g3zz⟩ | ⟨g1, g2⟩
        · exact Or.inl ⟨jzz + 1, R', by rw [List.getElem?_cons_succ]; exact g1, by omega, g3zz⟩
        · refine Or.inr ⟨g1, fun R' hR' => ?_⟩
          rcases List.mem_cons.mp hR' with ezz | ezz
          · rw [ezz]; exact q2zz
          · exact g2 R' ezz
    · exact Or.inl ⟨0, R, List.getElem?_cons_zero .., by rw [← Option.some.inj (z_f hz q1zz)]; omega, q2zz⟩
set_option maxHeartbeats 200000 in
theorem wo8 {rd o : Ob} {t : Nat} {wszz : List (List Int)} {zzz : Int32} (hzz : TT rd o) (ht : t < 9) (hczz : chnT t 0 wszz = true) (hw : wszz.length ≤ 20) (hz : f_X6_wordOf rd t = some zzz) : (∃ (jzz : Nat) (R : List Int), wszz[jzz]? = some R ∧ zzz.toInt = (jzz : Int) ∧ IsW o R) ∨ (zzz = -1 ∧ ∀ R ∈ wszz, ¬ IsW o R) := by
  unfold f_X6_wordOf at hz
  rw [hzz.2.1] at hz
  by_cases czz : gI o 16 = 1
  · rcases wo_lp hzz czz ht wszz zfu 0 0 0 0 0 hczz (by decide) (by omega) (by decide) (by decide) (z_t hz czz) with ⟨jzz, R, q1zz, q2zz, q3zz⟩ | qzz
    · exact Or.inl ⟨jzz, R, q1zz, by omega, q3zz⟩
    · exact Or.inr qzz
  · exact Or.inr ⟨(Option.some.inj (z_f hz czz)).symm, fun R _ wzz => czz wzz.1⟩
def tx0 : List (List Int) := [[19, 14, 21, 18], [19, 14, 18, 21, 20], [19, 14, 9, 23], [19, 18, 1, 2]]
set_option maxRecDepth 100000 in
theorem tx0_ok : chnT 0 0 tx0 = true := by decide +kernel
def tx1 : List (List Int) := [[5, 3, 1, 18], [18, 5, 20, 14, 5], [5, 11, 1, 20], [19, 19, 1, 16]]
set_option maxRecDepth 100000 in
theorem tx1_ok : chnT 1 0 tx1 = true := by decide +kernel
def tx2 : List (List Int) := [[19, 5, 13, 9, 20]]
set_option maxRecDepth 100000 in
theorem tx2_ok : chnT 2 0 tx2 = true := by decide +kernel
def tx3 : List (List Int) := [[6, 9]]
set_option maxRecDepth 100000 in
theorem tx3_ok : chnT 3 0 tx3 = true := by decide +kernel
def tx4 : List (List Int) := [[18, 15]]
set_option maxRecDepth 100000 in
theorem tx4_ok : chnT 4 0 tx4 = true := by decide +kernel
def tx5 : List (List Int) := [[4, 14, 1]]
set_option maxRecDepth 100000 in
theorem tx5_ok : chnT 5 0 tx5 = true := by decide +kernel
def tx6 : List (List Int) := [[20, 15, 14]]
set_option maxRecDepth 100000 in
theorem tx6_ok : chnT 6 0 tx6 = true := by decide +kernel
def tx7 : List (List Int) := [[14, 15, 19, 18, 5, 16], [5, 3, 1, 18], [8, 20, 7, 14, 5, 18, 20, 19], [5, 4, 1, 18, 20], [19, 5, 26, 9, 18, 16], [5, 3, 1, 12, 16], [16, 1, 7], [18, 1, 5, 25], [4, 15, 15, 13]]
set_option maxRecDepth 100000 in
theorem tx7_ok : chnT 7 0 tx7 = true := by decide +kernel
def tx8 : List (List Int) := [[18, 1, 5, 25], [5, 14, 15, 4], [20, 19, 5, 20, 1, 12], [16, 1, 7], [4, 5, 18, 5, 20, 14, 5], [19, 5, 26, 9, 18, 16], [5, 4, 1, 18, 20]]
set_option maxRecDepth 100000 in
theorem tx8_ok : chnT 8 0 tx8 = true := by decide +kernel
def bnd (op : Int32) : Int32 := if op < 31 then (if op = 30 then 1 else if op = 29 then 2 else if op = 28 then 3 else if op < 25 then (if op < 22 then 5 else 6) else 4) else 0
set_option maxHeartbeats 200000 in
theorem bnd_eq {op zzz : Int32} (hzz : f_X9_binds op = some zzz) : zzz = bnd op := by
  unfold f_X9_binds at hzz
  unfold bnd
  by_cases c1zz : op < (31 : Int32)
  · have hzz := z_t hzz c1zz
    rw [if_pos c1zz]
    by_cases c2zz : op = (30 : Int32)
    · rw [if_pos c2zz]; exact (Option.some.inj (z_t hzz c2zz)).symm
    · have hzz := z_f hzz c2zz
      rw [if_neg c2zz]
      by_cases c3zz : op = (29 : Int32)
      · rw [if_pos c3zz]; exact (Option.some.inj (z_t hzz c3zz)).symm
      · have hzz := z_f hzz c3zz
        rw [if_neg c3zz]
        by_cases c4zz : op = (28 : Int32)
        · rw [if_pos c4zz]; exact (Option.some.inj (z_t hzz c4zz)).symm
        · have hzz := z_f hzz c4zz
          rw [if_neg c4zz]
          by_cases c5zz : op < (25 : Int32)
          · have hzz := z_t hzz c5zz
            rw [if_pos c5zz]
            by_cases c6zz : op < (22 : Int32)
            · rw [if_pos c6zz]; exact (Option.some.inj (z_t hzz c6zz)).symm
            · rw [if_neg c6zz]; exact (Option.some.inj (z_f hzz c6zz)).symm
          · rw [if_neg c5zz]; exact (Option.some.inj (z_f hzz c5zz)).symm
  · rw [if_neg c1zz]; exact (Option.some.inj (z_f hzz c1zz)).symm
def FP (o o' : Ob) : Prop := (∀ izz, izz ≠ 23 → izz ≠ 29 → gI o' izz = gI o izz) ∧ o'.2.1 = o.2.1 ∧ (∀ izz, izz ≠ 24 → izz ≠ 25 → gA o' izz = gA o izz) ∧ o'.2.2.2 = o.2.2.2
set_option maxHeartbeats 200000 in
theorem FP.rf {o : Ob} : FP o o := ⟨fun _ _ _ => rfl, rfl, fun _ _ _ => rfl, rfl⟩
set_option maxHeartbeats 200000 in
theorem FP.tr {o o' o'' : Ob} (hzz : FP o o') (h' : FP o' o'') : FP o o'' := ⟨fun izz azz bzz => (h'.1 izz azz bzz).trans (hzz.1 izz azz bzz), h'.2.1.trans hzz.2.1, fun izz azz bzz => (h'.2.2.1 izz azz bzz).trans (hzz.2.2.1 izz azz bzz), h'.2.2.2.trans hzz.2.2.2⟩
def ckp (kzz : Nat) (o o' : Ob) : Prop := ∀ jzz, jzz < kzz → gA o' 24 jzz = gA o 24 jzz ∧ gA o' 25 jzz = gA o 25 jzz
set_option maxHeartbeats 200000 in
theorem ckp.rf {kzz : Nat} {o : Ob} : ckp kzz o o := fun _ _ => ⟨rfl, rfl⟩
set_option maxHeartbeats 200000 in
theorem ckp.tr {kzz : Nat} {o o' o'' : Ob} (hzz : ckp kzz o o') (h' : ckp kzz o' o'') : ckp kzz o o'' := fun jzz hj => ⟨(h' jzz hj).1.trans (hzz jzz hj).1, (h' jzz hj).2.trans (hzz jzz hj).2⟩
set_option maxHeartbeats 200000 in
theorem ckp.le {kzz k' : Nat} {o o' : Ob} (hzz : ckp kzz o o') (hk : k' ≤ kzz) : ckp k' o o' := fun jzz hj => hzz jzz (by omega)
set_option maxHeartbeats 200000 in
theorem emit9 {o o' : Ob} {p0zz p1zz : Int32} {czz : Nat} (ec : (gI o 23).toInt = (czz : Int)) (hczz : czz ≤ 400) (hzz : f_X9_emit o p0zz p1zz = some o') : FP o o' ∧ ckp czz o o' ∧ (gI o' 23).toInt = (czz : Int) + 1 ∧ gI o' 29 = gI o 29 ∧ gA o' 24 czz = p0zz ∧ gA o' 25 czz = p1zz ∧ czz < 400 := by
  unfold f_X9_emit at hzz
  obtain ⟨gzz, hzz⟩ := z_gd hzz
  obtain ⟨o2, e2zz, hzz⟩ := z_lt hzz
  obtain ⟨-, hzz⟩ := z_gd hzz
  obtain ⟨o4zz, e4zz, hzz⟩ := z_lt hzz
  obtain ⟨o5zz, e5zz, hzz⟩ := z_lt hzz
  have gk := (of_decide_eq_true gzz).2
  have ic : (gI o 23).toNatClampNeg = czz := tnc_eq ec
  have k2zz : gI o2 23 = gI o 23 := by rw [e2zz]; rfl
  rw [ic] at e2zz
  rw [k2zz, ic] at e4zz
  rw [← Option.some.inj hzz]
  have k23 : gI o5zz 23 = gI o 23 + 1 := by rw [e5zz, e4zz, e2zz]; rfl
  refine ⟨⟨fun izz azz bzz => ?_, by rw [e5zz, e4zz, e2zz]; rfl, fun izz azz bzz => ?_, by rw [e5zz, e4zz, e2zz]; rfl⟩, fun jzz hj => ⟨?_, ?_⟩, ?_, by rw [e5zz, e4zz, e2zz]; rfl, ?_, ?_, by omega⟩
  · rw [e5zz]; exact (fset_ne azz).trans (by rw [e4zz, e2zz]; rfl)
  · rw [e5zz, e4zz, e2zz]
    have w1zz : gA (tA (tA o 24 czz p0zz) 25 czz p1zz) izz = gA (tA o 24 czz p0zz) izz := fset_ne (f := fun izz => gA (tA o 24 czz p0zz) izz) bzz
    have w2zz : gA (tA o 24 czz p0zz) izz = gA o izz := fset_ne (f := fun izz => gA o izz) azz
    exact w1zz.trans w2zz
  · rw [e5zz, e4zz, e2zz]; exact if_neg (show ¬ jzz = czz by omega)
  · rw [e5zz, e4zz, e2zz]; exact if_neg (show ¬ jzz = czz by omega)
  · rw [k23]; exact i32_add ec (by decide) (by omega) (by omega)
  · rw [e5zz, e4zz, e2zz]; exact if_pos rfl
  · rw [e5zz, e4zz]; exact if_pos rfl
set_option maxHeartbeats 200000 in
theorem st_stop {Nzz : Nat} {lv : Int32} {o yzz : Ob} {bzz : Nat} (eb : (gI o 29).toInt = (bzz : Int)) (hbzz : bzz ≤ 400) (hs : bzz = 0 ∨ (bnd (gA o 27 (bzz - 1))).toInt < lv.toInt) (hzz : lp_X9_settle_0 Nzz (lv, o) = some yzz) : yzz = o := by
  cases Nzz with
  | zero => cases hzz
  | succ Nzz =>
  have hzz : lb_X9_settle_0 (lp_X9_settle_0 Nzz) lv o = some yzz := hzz
  unfold lb_X9_settle_0 at hzz
  by_cases czz : gI o 29 ≤ (0 : Int32)
  · exact (Option.some.inj (z_t hzz czz)).symm
  · have d := cv_nle (a := (bzz : Int)) (b := 0) eb (by decide) czz
    obtain ⟨-, hzz⟩ := z_gd (z_f hzz czz)
    obtain ⟨z2, ez, hzz⟩ := z_bd hzz
    have t : (gI o 29 - (1 : Int32)).toInt = (bzz : Int) - 1 := i32_sub eb (by decide) (by omega) (by omega)
    have izz : (gI o 29 - (1 : Int32)).toNatClampNeg = bzz - 1 := tnc_eq (by omega)
    rw [izz] at ez
    have ezz := bnd_eq ez
    rcases hs with qzz | qzz
    · omega
    · exact (Option.some.inj (z_t hzz (Int32.lt_iff_toInt_lt.mpr (by rw [ezz]; exact qzz)))).symm
set_option maxHeartbeats 200000 in
theorem st_op {Nzz : Nat} {lv : Int32} {o yzz : Ob} {bzz czz : Nat} (eb : (gI o 29).toInt = (bzz : Int) + 1) (hbzz : bzz < 400) (ec : (gI o 23).toInt = (czz : Int)) (hczz : czz ≤ 400) (hop : ¬ gA o 27 bzz = 29 ∧ ¬ gA o 27 bzz = 30) (hl : lv.toInt ≤ (bnd (gA o 27 bzz)).toInt) (hzz : lp_X9_settle_0 Nzz (lv, o) = some yzz) :
    ∃ (N' : Nat) (o' : Ob), lp_X9_settle_0 N' (lv, o') = some yzz ∧ FP o o' ∧ ckp czz o o' ∧ (gI o' 23).toInt = (czz : Int) + 1 ∧ (gI o' 29).toInt = (bzz : Int) ∧ gA o' 24 czz = gA o 27 bzz ∧ gA o' 25 czz = 0 ∧ czz < 400 := by
  cases Nzz with
  | zero => cases hzz
  | succ Nzz =>
  have hzz : lb_X9_settle_0 (lp_X9_settle_0 Nzz) lv o = some yzz := hzz
  unfold lb_X9_settle_0 at hzz
  have t : (gI o 29 - (1 : Int32)).toInt = (bzz : Int) + 1 - 1 := i32_sub eb (by decide) (by omega) (by omega)
  have izz : (gI o 29 - (1 : Int32)).toNatClampNeg = bzz := tnc_eq (by omega)
  have hzz := z_f hzz (fun qzz => by have qzz := cv_le (a := (bzz : Int) + 1) (b := 0) eb (by decide) qzz; omega)
  obtain ⟨-, hzz⟩ := z_gd hzz
  obtain ⟨z2, ez, hzz⟩ := z_bd hzz
  rw [izz] at ez
  have ezz := bnd_eq ez
  have hzz := z_f hzz (fun qzz => by have qzz := cv_lt (a := (bnd (gA o 27 bzz)).toInt) (b := lv.toInt) (by rw [ezz]) rfl qzz; omega)
  obtain ⟨o3zz, e3zz, hzz⟩ := z_lt hzz
  have k29 : gI o3zz 29 = gI o 29 - 1 := by rw [e3zz]; rfl
  have kAzz : gA o3zz 27 = gA o 27 := by rw [e3zz]; rfl
  rw [k29, izz, kAzz] at hzz
  obtain ⟨-, hzz⟩ := z_gd hzz
  have hzz := z_f hzz hop.1
  obtain ⟨-, hzz⟩ := z_gd hzz
  have hzz := z_f hzz hop.2
  obtain ⟨-, hzz⟩ := z_gd hzz
  obtain ⟨z10, ez10, hzz⟩ := z_bd hzz
  have f3zz : FP o o3zz := by rw [e3zz]; exact ⟨fun izz azz bzz => fset_ne bzz, rfl, fun _ _ _ => rfl, rfl⟩
  obtain ⟨g1, g2, g3zz, g4, g5zz, g6, g7⟩ := emit9 (czz := czz) (by rw [e3zz]; exact ec) hczz ez10
  exact ⟨Nzz, z10, hzz, f3zz.tr g1, ckp.tr (by rw [e3zz]; exact ckp.rf) g2, g3zz, by rw [g4, k29, t]; omega, g5zz, g6, g7⟩
set_option maxHeartbeats 200000 in
theorem st_ao {Nzz : Nat} {lv : Int32} {o yzz : Ob} {bzz czz azz : Nat} (eb : (gI o 29).toInt = (bzz : Int) + 1) (hbzz : bzz < 400) (hop : gA o 27 bzz = 29 ∨ gA o 27 bzz = 30) (ea : (gA o 28 bzz).toInt = (azz : Int)) (hl : lv.toInt ≤ (bnd (gA o 27 bzz)).toInt) (hzz : lp_X9_settle_0 Nzz (lv, o) = some yzz) :
    ∃ (N' : Nat) (o' : Ob), lp_X9_settle_0 N' (lv, o') = some yzz ∧ FP o o' ∧ gI o' 23 = gI o 23 ∧ (gI o' 29).toInt = (bzz : Int) ∧ gA o' 24 = gA o 24 ∧ ∀ jzz, gA o' 25 jzz = if jzz = azz then gI o 23 else gA o 25 jzz := by
  cases Nzz with
  | zero => cases hzz
  | succ Nzz =>
  have hzz : lb_X9_settle_0 (lp_X9_settle_0 Nzz) lv o = some yzz := hzz
  unfold lb_X9_settle_0 at hzz
  have t : (gI o 29 - (1 : Int32)).toInt = (bzz : Int) + 1 - 1 := i32_sub eb (by decide) (by omega) (by omega)
  have izz : (gI o 29 - (1 : Int32)).toNatClampNeg = bzz := tnc_eq (by omega)
  have hzz := z_f hzz (fun qzz => by have qzz := cv_le (a := (bzz : Int) + 1) (b := 0) eb (by decide) qzz; omega)
  obtain ⟨-, hzz⟩ := z_gd hzz
  obtain ⟨z2, ez, hzz⟩ := z_bd hzz
  rw [izz] at ez
  have ezz := bnd_eq ez
  have hzz := z_f hzz (fun qzz => by have qzz := cv_lt (a := (bnd (gA o 27 bzz)).toInt) (b := lv.toInt) (by rw [ezz]) rfl qzz; omega)
  obtain ⟨o3zz, e3zz, hzz⟩ := z_lt hzz
  have k29 : gI o3zz 29 = gI o 29 - 1 := by rw [e3zz]; rfl
  have kAzz : gA o3zz 27 = gA o 27 := by rw [e3zz]; rfl
  have kBzz : gA o3zz 28 = gA o 28 := by rw [e3zz]; rfl
  have k23 : gI o3zz 23 = gI o 23 := by rw [e3zz]; rfl
  have f3zz : FP o o3zz := by rw [e3zz]; exact ⟨fun izz azz bzz => fset_ne bzz, rfl, fun _ _ _ => rfl, rfl⟩
  have ia : (gA o 28 bzz).toNatClampNeg = azz := tnc_eq ea
  have h63 : bk_X9_settle_63 (lp_X9_settle_0 Nzz) lv o3zz = some yzz → ∃ (N' : Nat) (o' : Ob), lp_X9_settle_0 N' (lv, o') = some yzz ∧ FP o o' ∧ gI o' 23 = gI o 23 ∧ (gI o' 29).toInt = (bzz : Int) ∧ gA o' 24 = gA o 24 ∧ ∀ jzz, gA o' 25 jzz = if jzz = azz then gI o 23 else gA o 25 jzz := by
    intro hzz
    unfold bk_X9_settle_63 at hzz
    obtain ⟨-, hzz⟩ := z_gd hzz
    obtain ⟨-, hzz⟩ := z_gd hzz
    obtain ⟨o7, e7zz, hzz⟩ := z_lt hzz
    rw [k29, izz, kBzz, ia, k23] at e7zz
    refine ⟨Nzz, o7, hzz, f3zz.tr ?_, by rw [e7zz]; exact k23, by rw [e7zz]; show (gI o3zz 29).toInt = _; rw [k29, t]; omega, by rw [e7zz, e3zz]; rfl, fun jzz => by rw [e7zz, e3zz]; rfl⟩
    rw [e7zz]
    exact ⟨fun _ _ _ => rfl, rfl, fun izz _ bzz => fset_ne (f := fun izz => gA o3zz izz) bzz, rfl⟩
  rw [k29, izz, kAzz] at hzz
  obtain ⟨-, hzz⟩ := z_gd hzz
  by_cases c29zz : gA o 27 bzz = 29
  · exact h63 (z_t hzz c29zz)
  · obtain ⟨-, hzz⟩ := z_gd (z_f hzz c29zz)
    rcases hop with qzz | qzz
    · exact absurd qzz c29zz
    · exact h63 (z_t hzz qzz)
def PEs (L : Int) (o : Ob) (bzz : Nat) (R : Ob → Prop) : Prop := ∀ o' : Ob, FR9 o o' → ∀ (Nzz : Nat) (lv : Int32) (yzz : Ob), 1 ≤ lv.toInt → lv.toInt ≤ L → lp_X9_settle_0 Nzz (lv, o') = some yzz → ∃ (N' : Nat) (o3zz : Ob), lp_X9_settle_0 N' (lv, o3zz) = some yzz ∧ (gI o3zz 29).toInt = (bzz : Int) ∧ FP o' o3zz ∧ R o3zz
set_option maxHeartbeats 200000 in
theorem PEs.none {L : Int} {o : Ob} {bzz : Nat} {R : Ob → Prop} (eb : (gI o 29).toInt = (bzz : Int)) (hzz : ∀ o', FR9 o o' → R o') : PEs L o bzz R := fun o' fzz Nzz lv yzz _ _ hy => ⟨Nzz, o', hy, by rw [fzz.1 29 (by decide) (by decide) (by decide)]; exact eb, FP.rf, hzz o' fzz⟩
set_option maxHeartbeats 200000 in
theorem PEs.le {L L' : Int} {o : Ob} {bzz : Nat} {R : Ob → Prop} (hzz : PEs L o bzz R) (hl : L' ≤ L) : PEs L' o bzz R := fun o' fzz Nzz lv yzz h1 h2 hy => hzz o' fzz Nzz lv yzz h1 (by omega) hy
set_option maxHeartbeats 200000 in
theorem PEs.done {L : Int} {o o' yzz : Ob} {bzz : Nat} {R : Ob → Prop} (hzz : PEs L o bzz R) (fzz : FR9 o o') (hbzz : bzz ≤ 400) {Nzz : Nat} {lv : Int32} (h1 : 1 ≤ lv.toInt) (h2 : lv.toInt ≤ L) (hs : bzz = 0 ∨ (bnd (gA o 27 (bzz - 1))).toInt < lv.toInt) (hy : lp_X9_settle_0 Nzz (lv, o') = some yzz) : (gI yzz 29).toInt = (bzz : Int) ∧ FP o' yzz ∧ R yzz := by
  obtain ⟨N', o3zz, q1zz, q2zz, q3zz, q4zz⟩ := hzz o' fzz Nzz lv yzz h1 h2 hy
  have ezz := st_stop q2zz hbzz (by rw [q3zz.2.2.1 27 (by decide) (by decide), fzz.gA 27]; exact hs) q1zz
  rw [ezz]; exact ⟨q2zz, q3zz, q4zz⟩
def IsS (o : Ob) (czz : Int32) : Prop := gI o 16 = 3 ∧ ∃ azz : Nat, (gI o 14).toInt = (azz : Int) ∧ gA o 12 azz = czz
set_option maxHeartbeats 200000 in
theorem s8 {rd o : Ob} {czz zzz : Int32} (hzz : TT rd o) (hz : f_X6_isSign rd czz = some zzz) : (zzz = 0 ∧ ¬ IsS o czz) ∨ (¬ zzz = 0 ∧ IsS o czz) := by
  obtain ⟨hz0, e6zz, e7zz, e8, azz, bzz, ea, eb, hab, hbzz, hx⟩ := hzz
  unfold f_X6_isSign at hz
  rw [e6zz, e7zz] at hz
  by_cases gzz : gI o 16 = 3
  · obtain ⟨z1, ez1, hz⟩ := z_bd (z_t hz gzz)
    have hlt : (azz : Int) < (gI o 13).toInt := by
      rcases hx with ⟨qzz, -⟩ | ⟨qzz, -⟩ | ⟨qzz, -⟩ | ⟨-, qzz, -⟩
      · exact absurd (qzz.symm.trans gzz) (by decide)
      · exact absurd (qzz.symm.trans gzz) (by decide)
      · exact absurd (qzz.symm.trans gzz) (by decide)
      · omega
    rw [byteT hz0 ea hlt ez1] at hz
    by_cases kzz : gA o 12 azz = czz
    · exact Or.inr ⟨by rw [← Option.some.inj (z_t hz kzz)]; decide, gzz, azz, ea, kzz⟩
    · refine Or.inl ⟨(Option.some.inj (z_f hz kzz)).symm, fun wzz => ?_⟩
      obtain ⟨-, a', ea', k'⟩ := wzz
      have ezz : a' = azz := by omega
      rw [ezz] at k'; exact kzz k'
  · exact Or.inl ⟨(Option.some.inj (z_f hz gzz)).symm, fun wzz => gzz wzz.1⟩
set_option maxHeartbeats 200000 in
theorem s9 {rd o : Ob} {czz zzz : Int32} (hzz : TT rd o) (hz : f_X9_isSign o czz = some zzz) : (zzz = 0 ∧ ¬ IsS o czz) ∨ (¬ zzz = 0 ∧ IsS o czz) := by
  obtain ⟨hz0, e6zz, e7zz, e8, azz, bzz, ea, eb, hab, hbzz, hx⟩ := hzz
  unfold f_X9_isSign at hz
  by_cases gzz : gI o 16 = 3
  · have hz := z_t hz gzz
    have hw : gL o 17 = (gA o 12 azz).toInt64 := by
      rcases hx with ⟨qzz, -⟩ | ⟨qzz, -⟩ | ⟨qzz, -⟩ | ⟨-, -, qzz⟩
      · exact absurd (qzz.symm.trans gzz) (by decide)
      · exact absurd (qzz.symm.trans gzz) (by decide)
      · exact absurd (qzz.symm.trans gzz) (by decide)
      · exact qzz
    have t1zz : (gL o 17).toInt = (gA o 12 azz).toInt := by rw [hw]; exact Int32.toInt_toInt64 _
    by_cases kzz : lg_cmp (gL o 17) czz.toInt64 = 0
    · have ezz := cvl_eq (a := (gA o 12 azz).toInt) (b := czz.toInt) t1zz (Int32.toInt_toInt64 _) kzz
      exact Or.inr ⟨by rw [← Option.some.inj (z_t hz kzz)]; decide, gzz, azz, ea, Int32.toInt_inj.mp ezz⟩
    · have ezz := cvl_ne (a := (gA o 12 azz).toInt) (b := czz.toInt) t1zz (Int32.toInt_toInt64 _) kzz
      refine Or.inl ⟨(Option.some.inj (z_f hz kzz)).symm, fun wzz => ?_⟩
      obtain ⟨-, a', ea', k'⟩ := wzz
      have e' : a' = azz := by omega
      rw [e'] at k'; exact ezz (by rw [k'])
  · exact Or.inl ⟨(Option.some.inj (z_f hz gzz)).symm, fun wzz => gzz wzz.1⟩
set_option maxHeartbeats 200000 in
theorem IsS.ne {o : Ob} {czz c' : Int32} (hzz : IsS o czz) (hn : ¬ czz = c') : ¬ IsS o c' := by
  intro wzz
  obtain ⟨-, azz, ea, ezz⟩ := hzz
  obtain ⟨-, a', ea', e'⟩ := wzz
  have qzz : a' = azz := by omega
  rw [qzz] at e'
  exact hn (ezz.symm.trans e')
set_option maxHeartbeats 200000 in
theorem IsS.nw {o : Ob} {czz : Int32} {R : List Int} (hzz : IsS o czz) : ¬ IsW o R := fun wzz => absurd (hzz.1.symm.trans wzz.1) (by decide)
set_option maxHeartbeats 200000 in
theorem mu_ok {o o' : Ob} {vzz : Int32} (h19 : gI o 19 = 0) (hv : ¬ vzz = 0) (hzz : f_X9_must o vzz = some o') : f_X9_next o = some o' := by
  unfold f_X9_must at hzz
  have hzz := z_f (z_t hzz h19) hv
  unfold bk_X9_must_24 at hzz
  obtain ⟨z1, ez, hzz⟩ := z_bd (z_t hzz h19)
  rw [← Option.some.inj hzz]; exact ez
set_option maxHeartbeats 200000 in
theorem mu_no {o o' : Ob} (h19 : gI o 19 = 0) (hzz : f_X9_must o 0 = some o') : o' = sI (sI o 19 1) 18 (gI o 14) := by
  unfold f_X9_must at hzz
  obtain ⟨o2, e2zz, hzz⟩ := z_lt (z_t (z_t hzz h19) rfl)
  obtain ⟨o3zz, e3zz, hzz⟩ := z_lt hzz
  unfold bk_X9_must_24 at hzz
  have k19 : gI o3zz 19 = 1 := by rw [e3zz, e2zz]; rfl
  have hzz := z_f hzz (by rw [k19]; decide)
  rw [← Option.some.inj hzz, e3zz, e2zz]; rfl
set_option maxHeartbeats 200000 in
theorem emit_FP {o o' : Ob} {p0zz p1zz : Int32} (hzz : f_X9_emit o p0zz p1zz = some o') : FP o o' := by
  unfold f_X9_emit at hzz
  obtain ⟨-, hzz⟩ := z_gd hzz
  obtain ⟨o2, e2zz, hzz⟩ := z_lt hzz
  obtain ⟨-, hzz⟩ := z_gd hzz
  obtain ⟨o4zz, e4zz, hzz⟩ := z_lt hzz
  obtain ⟨o5zz, e5zz, hzz⟩ := z_lt hzz
  rw [← Option.some.inj hzz]
  refine ⟨fun izz azz bzz => ?_, by rw [e5zz, e4zz, e2zz]; rfl, fun izz azz bzz => ?_, by rw [e5zz, e4zz, e2zz]; rfl⟩
  · rw [e5zz]; exact (fset_ne azz).trans (by rw [e4zz, e2zz]; rfl)
  · have w0zz : gA o5zz izz = gA o4zz izz := by rw [e5zz]; rfl
    have w1zz : gA o4zz izz = gA o2 izz := by rw [e4zz]; exact fset_ne (f := fun izz => gA o2 izz) bzz
    have w2zz : gA o2 izz = gA o izz := by rw [e2zz]; exact fset_ne (f := fun izz => gA o izz) azz
    exact w0zz.trans (w1zz.trans w2zz)
set_option maxHeartbeats 200000 in
theorem st_FP {yzz : Ob} {lv : Int32} : ∀ (Nzz : Nat) (o : Ob), lp_X9_settle_0 Nzz (lv, o) = some yzz → FP o yzz := by
  intro Nzz
  induction Nzz with
  | zero => intro o hzz; cases hzz
  | succ Nzz ihzz =>
    intro o hzz
    have hzz : lb_X9_settle_0 (lp_X9_settle_0 Nzz) lv o = some yzz := hzz
    unfold lb_X9_settle_0 at hzz
    by_cases czz : gI o 29 ≤ (0 : Int32)
    · rw [← Option.some.inj (z_t hzz czz)]; exact FP.rf
    · obtain ⟨-, hzz⟩ := z_gd (z_f hzz czz)
      obtain ⟨z2, -, hzz⟩ := z_bd hzz
      by_cases c2zz : z2 < lv
      · rw [← Option.some.inj (z_t hzz c2zz)]; exact FP.rf
      · obtain ⟨o3zz, e3zz, hzz⟩ := z_lt (z_f hzz c2zz)
        have f3zz : FP o o3zz := by rw [e3zz]; exact ⟨fun izz azz bzz => fset_ne bzz, rfl, fun _ _ _ => rfl, rfl⟩
        have h63 : bk_X9_settle_63 (lp_X9_settle_0 Nzz) lv o3zz = some yzz → FP o yzz := by
          intro hzz
          unfold bk_X9_settle_63 at hzz
          obtain ⟨-, hzz⟩ := z_gd hzz
          obtain ⟨-, hzz⟩ := z_gd hzz
          obtain ⟨o7, e7zz, hzz⟩ := z_lt hzz
          have f7zz : FP o3zz o7 := by rw [e7zz]; exact ⟨fun _ _ _ => rfl, rfl, fun izz _ bzz => fset_ne (f := fun izz => gA o3zz izz) bzz, rfl⟩
          exact f3zz.tr (f7zz.tr (ihzz o7 hzz))
        obtain ⟨-, hzz⟩ := z_gd hzz
        by_cases c3zz : gA o3zz 27 (gI o3zz 29).toNatClampNeg = 29
        · exact h63 (z_t hzz c3zz)
        · obtain ⟨-, hzz⟩ := z_gd (z_f hzz c3zz)
          by_cases c4zz : gA o3zz 27 (gI o3zz 29).toNatClampNeg = 30
          · exact h63 (z_t hzz c4zz)
          · obtain ⟨-, hzz⟩ := z_gd (z_f hzz c4zz)
            obtain ⟨z10, ez, hzz⟩ := z_bd hzz
            exact f3zz.tr ((emit_FP ez).tr (ihzz z10 hzz))
set_option maxHeartbeats 200000 in
theorem ex_bad {Nzz : Nat} {v1zz v2 : Int32} {o yzz : Ob} (h19 : ¬ gI o 19 = 0) (hzz : lp_X9_readExpression_20 Nzz (v1zz, v2, o) = some yzz) : FP o yzz := by
  cases Nzz with
  | zero => cases hzz
  | succ Nzz =>
  have hzz : lb_X9_readExpression_20 (lp_X9_readExpression_20 Nzz) v1zz v2 o = some yzz := hzz
  unfold lb_X9_readExpression_20 at hzz
  have hzz := z_f hzz h19
  unfold bk_X9_readExpression_76 at hzz
  obtain ⟨z3, ez, hzz⟩ := z_bd hzz
  rw [← Option.some.inj hzz]
  exact st_FP _ _ ez
set_option maxHeartbeats 200000 in
theorem ex_part {Nzz : Nat} {v1zz : Int32} {o yzz : Ob} (h19 : gI o 19 = 0) (hzz : lp_X9_readExpression_20 Nzz (v1zz, 1, o) = some yzz) : ∃ (N' : Nat) (zzz : Int32 × Ob), f_X9_readPart o = some zzz ∧ lp_X9_readExpression_20 N' (v1zz, zzz.1, zzz.2) = some yzz := by
  cases Nzz with
  | zero => cases hzz
  | succ Nzz =>
  have hzz : lb_X9_readExpression_20 (lp_X9_readExpression_20 Nzz) v1zz 1 o = some yzz := hzz
  unfold lb_X9_readExpression_20 at hzz
  obtain ⟨zzz, ez, hzz⟩ := z_bd (z_t (z_f (z_f (z_t hzz h19) (by decide)) (by decide)) rfl)
  exact ⟨Nzz, zzz, ez, hzz⟩
set_option maxHeartbeats 200000 in
theorem ex_plain {Nzz : Nat} {v1zz : Int32} {o yzz : Ob} (h19 : gI o 19 = 0) (hzz : lp_X9_readExpression_20 Nzz (v1zz, 0, o) = some yzz) : ∃ (N' : Nat) (zzz : Int32 × Ob), f_X9_readPlain o = some zzz ∧ lp_X9_readExpression_20 N' (v1zz, zzz.1, zzz.2) = some yzz := by
  cases Nzz with
  | zero => cases hzz
  | succ Nzz =>
  have hzz : lb_X9_readExpression_20 (lp_X9_readExpression_20 Nzz) v1zz 0 o = some yzz := hzz
  unfold lb_X9_readExpression_20 at hzz
  obtain ⟨zzz, ez, hzz⟩ := z_bd (z_t (z_f (z_t hzz h19) (by decide)) rfl)
  exact ⟨Nzz, zzz, ez, hzz⟩
set_option maxHeartbeats 200000 in
theorem ex_sum {Nzz : Nat} {v1zz : Int32} {o yzz : Ob} (h19 : gI o 19 = 0) (hzz : lp_X9_readExpression_20 Nzz (v1zz, 3, o) = some yzz) : ∃ (N' : Nat) (zzz : Int32 × Ob), f_X9_behindSum o v1zz = some zzz ∧ lp_X9_readExpression_20 N' (v1zz, zzz.1, zzz.2) = some yzz := by
  cases Nzz with
  | zero => cases hzz
  | succ Nzz =>
  have hzz : lb_X9_readExpression_20 (lp_X9_readExpression_20 Nzz) v1zz 3 o = some yzz := hzz
  unfold lb_X9_readExpression_20 at hzz
  obtain ⟨zzz, ez, hzz⟩ := z_bd (z_t (z_f (z_f (z_f (z_t hzz h19) (by decide)) (by decide)) (by decide)) rfl)
  exact ⟨Nzz, zzz, ez, hzz⟩
set_option maxHeartbeats 200000 in
theorem ex_test {Nzz : Nat} {v1zz : Int32} {o yzz : Ob} (h19 : gI o 19 = 0) (hzz : lp_X9_readExpression_20 Nzz (v1zz, 2, o) = some yzz) : ∃ (N' : Nat) (zzz : Int32 × Ob), f_X9_behindTest o = some zzz ∧ lp_X9_readExpression_20 N' (v1zz, zzz.1, zzz.2) = some yzz := by
  cases Nzz with
  | zero => cases hzz
  | succ Nzz =>
  have hzz : lb_X9_readExpression_20 (lp_X9_readExpression_20 Nzz) v1zz 2 o = some yzz := hzz
  unfold lb_X9_readExpression_20 at hzz
  obtain ⟨zzz, ez, hzz⟩ := z_bd (z_f (z_f (z_f (z_f (z_t hzz h19) (by decide)) (by decide)) (by decide)) (by decide))
  exact ⟨Nzz, zzz, ez, hzz⟩
set_option maxHeartbeats 200000 in
theorem ex_over {Nzz : Nat} {v1zz : Int32} {o yzz : Ob} (h19 : gI o 19 = 0) (hzz : lp_X9_readExpression_20 Nzz (v1zz, 4, o) = some yzz) : f_X9_settle o 1 = some yzz := by
  cases Nzz with
  | zero => cases hzz
  | succ Nzz =>
  have hzz : lb_X9_readExpression_20 (lp_X9_readExpression_20 Nzz) v1zz 4 o = some yzz := hzz
  unfold lb_X9_readExpression_20 at hzz
  have hzz := z_t (z_t hzz h19) rfl
  unfold bk_X9_readExpression_76 at hzz
  obtain ⟨z3, ez, hzz⟩ := z_bd hzz
  rw [← Option.some.inj hzz]; exact ez
set_option maxHeartbeats 200000 in
theorem add8 {oc : Ob} {s wzz : Int32} {zzz : Int32 × Ob} {kzz : Nat} (ek : (gI oc 8).toInt = (kzz : Int)) (hk : kzz < 400) (hzz : f_X0_add 12 400 oc s wzz = some zzz) : zzz.1.toInt = (kzz : Int) ∧ (gI zzz.2 8).toInt = (kzz : Int) + 1 ∧ gA zzz.2 5 kzz = s ∧ gA zzz.2 6 kzz = wzz ∧ (∀ jzz, jzz ≠ kzz → gA zzz.2 5 jzz = gA oc 5 jzz ∧ gA zzz.2 6 jzz = gA oc 6 jzz) ∧ (∀ izz, izz ≠ 8 → gI zzz.2 izz = gI oc izz) ∧ (∀ izz, izz ≠ 5 → izz ≠ 6 → gA zzz.2 izz = gA oc izz) := by
  unfold f_X0_add at hzz
  have hzz := z_t hzz (Int32.lt_iff_toInt_lt.mpr (by have : (Int32.ofNat 400).toInt = 400 := (by decide); omega))
  obtain ⟨-, hzz⟩ := z_gd hzz
  obtain ⟨o2, e2zz, hzz⟩ := z_lt hzz
  obtain ⟨-, hzz⟩ := z_gd hzz
  obtain ⟨o4zz, e4zz, hzz⟩ := z_lt hzz
  obtain ⟨o5zz, e5zz, hzz⟩ := z_lt hzz
  have ik : (gI oc 8).toNatClampNeg = kzz := tnc_eq ek
  have k2zz : gI o2 8 = gI oc 8 := by rw [e2zz]; rfl
  rw [ik] at e2zz
  rw [k2zz, ik] at e4zz
  have k8zz : gI o5zz 8 = gI oc 8 + 1 := by rw [e5zz, e4zz, e2zz]; rfl
  have t8 : (gI o5zz 8).toInt = (kzz : Int) + 1 := by rw [k8zz]; exact i32_add ek (by decide) (by omega) (by omega)
  rw [← Option.some.inj hzz]
  refine ⟨?_, t8, ?_, ?_, fun jzz hj => ⟨?_, ?_⟩, fun izz hizz => ?_, fun izz azz bzz => ?_⟩
  · have : (gI o5zz 8 - (1 : Int32)).toInt = (kzz : Int) + 1 - 1 := i32_sub t8 (by decide) (by omega) (by omega)
    show (gI o5zz 8 - (1 : Int32)).toInt = _
    omega
  · show gA o5zz 5 kzz = _
    rw [e5zz, e4zz, e2zz]; exact if_pos rfl
  · show gA o5zz 6 kzz = _
    rw [e5zz, e4zz]; exact if_pos rfl
  · show gA o5zz 5 jzz = _
    rw [e5zz, e4zz, e2zz]; exact if_neg hj
  · show gA o5zz 6 jzz = _
    rw [e5zz, e4zz, e2zz]; exact if_neg hj
  · show gI o5zz izz = _
    rw [e5zz]; exact (fset_ne hizz).trans (by rw [e4zz, e2zz]; rfl)
  · show gA o5zz izz = _
    have w0zz : gA o5zz izz = gA o4zz izz := by rw [e5zz]; rfl
    have w1zz : gA o4zz izz = gA o2 izz := by rw [e4zz]; exact fset_ne (f := fun izz => gA o2 izz) bzz
    have w2zz : gA o2 izz = gA oc izz := by rw [e2zz]; exact fset_ne (f := fun izz => gA oc izz) azz
    exact w0zz.trans (w1zz.trans w2zz)
set_option maxHeartbeats 200000 in
theorem stop8 {rd : Ob} {zzz : Int32 × Ob} (hzz : f_X6_stop rd = some zzz) : zzz.1 = 0 ∧ zzz.2 = sI rd 3 (gI rd 7) := by
  unfold f_X6_stop at hzz
  obtain ⟨o1, e1zz, hzz⟩ := z_lt hzz
  rw [← Option.some.inj hzz]; exact ⟨rfl, e1zz⟩
def MD (od : Bool) (rd o : Ob) : Prop := (od = true → gI rd 4 = 0 ∧ ¬ gI o 20 = 0) ∧ (od = false → ¬ gI rd 4 = 0 ∧ gI o 20 = 0) ∧ (∀ kzz, kzz < 9 → (gM o 31 kzz).toInt = codR (tx7.getD kzz [])) ∧ (∀ kzz, kzz < 7 → (gM o 32 kzz).toInt = codR (tx8.getD kzz []))
set_option maxRecDepth 100000 in
theorem tx7_d : ∀ kzz, kzz < 9 → tx7[kzz]? = some (tx7.getD kzz []) ∧ (tx7.getD kzz []).length ≤ 10 ∧ (tx7.getD kzz []).all (fun d => decide (1 ≤ d ∧ d ≤ 26)) = true := by decide +kernel
set_option maxRecDepth 100000 in
theorem tx8_d : ∀ kzz, kzz < 7 → tx8[kzz]? = some (tx8.getD kzz []) ∧ (tx8.getD kzz []).length ≤ 10 ∧ (tx8.getD kzz []).all (fun d => decide (1 ≤ d ∧ d ≤ 26)) = true := by decide +kernel
set_option maxRecDepth 100000 in
theorem tx7_n : ∀ jzz, jzz < 9 → ∀ kzz, kzz < 9 → jzz ≠ kzz → codR (tx7.getD jzz []) ≠ codR (tx7.getD kzz []) := by decide +kernel
set_option maxRecDepth 100000 in
theorem tx8_n : ∀ jzz, jzz < 7 → ∀ kzz, kzz < 7 → jzz ≠ kzz → codR (tx8.getD jzz []) ≠ codR (tx8.getD kzz []) := by decide +kernel
set_option maxHeartbeats 200000 in
theorem p7_lp {rd o : Ob} {zzz : Int32} (hzz : TT rd o) (ht : ∀ kzz, kzz < 9 → (gM o 31 kzz).toInt = codR (tx7.getD kzz [])) : ∀ (Nzz : Nat) (v1zz v2 : Int32) (izz : Nat), v2.toInt = (izz : Int) → izz ≤ 9 → ((v1zz = -1 ∧ ∀ jzz, jzz < izz → ¬ IsW o (tx7.getD jzz [])) ∨ (∃ jzz : Nat, jzz < izz ∧ v1zz.toInt = (jzz : Int) + 1 ∧ IsW o (tx7.getD jzz []))) → lp_X9_partAt_4 o Nzz (v1zz, v2) = some zzz →
    (zzz = -1 ∧ ∀ jzz, jzz < 9 → ¬ IsW o (tx7.getD jzz [])) ∨ (∃ jzz : Nat, jzz < 9 ∧ zzz.toInt = (jzz : Int) + 1 ∧ IsW o (tx7.getD jzz [])) := by
  intro Nzz
  induction Nzz with
  | zero => intro v1zz v2 izz _ _ _ hzz; cases hzz
  | succ Nzz ihzz =>
    intro v1zz v2 izz e2zz hizz hv hz
    have hz : lb_X9_partAt_4 o (lp_X9_partAt_4 o Nzz) v1zz v2 = some zzz := hz
    unfold lb_X9_partAt_4 at hz
    by_cases czz : (9 : Int32) ≤ v2
    · have d := cv_le (a := 9) (b := (izz : Int)) (by decide) e2zz czz
      rw [← Option.some.inj (z_t hz czz)]
      rcases hv with ⟨q1zz, q2zz⟩ | ⟨jzz, q1zz, q2zz, q3zz⟩
      · exact Or.inl ⟨q1zz, fun jzz hj => q2zz jzz (by omega)⟩
      · exact Or.inr ⟨jzz, by omega, q2zz, q3zz⟩
    · have d := cv_nle (a := 9) (b := (izz : Int)) (by decide) e2zz czz
      obtain ⟨-, hz⟩ := z_gd (z_f hz czz)
      obtain ⟨z2, ez2, hz⟩ := z_bd hz
      have i2zz : v2.toNatClampNeg = izz := tnc_eq e2zz
      rw [i2zz] at ez2
      have hdzz := tx7_d izz (by omega)
      have hst : ∀ s0zz : Int32, bk_X9_partAt_30 o (lp_X9_partAt_4 o Nzz) v2 s0zz = some zzz → ((s0zz = -1 ∧ ∀ jzz, jzz < izz + 1 → ¬ IsW o (tx7.getD jzz [])) ∨ (∃ jzz : Nat, jzz < izz + 1 ∧ s0zz.toInt = (jzz : Int) + 1 ∧ IsW o (tx7.getD jzz []))) → (zzz = -1 ∧ ∀ jzz, jzz < 9 → ¬ IsW o (tx7.getD jzz [])) ∨ (∃ jzz : Nat, jzz < 9 ∧ zzz.toInt = (jzz : Int) + 1 ∧ IsW o (tx7.getD jzz [])) := by
        intro s0zz kzz hs
        unfold bk_X9_partAt_30 at kzz
        obtain ⟨x3, e3zz, kzz⟩ := z_lt kzz
        have t3zz : x3.toInt = (izz : Int) + 1 := by rw [e3zz]; exact i32_add e2zz (by decide) (by omega) (by omega)
        exact ihzz s0zz x3 (izz + 1) (by omega) (by omega) hs kzz
      rcases w9 hzz (all_dig hdzz.2.2) hdzz.2.1 (ht izz (by omega)) ez2 with ⟨g1, g2⟩ | ⟨g1, g2⟩
      · refine hst v1zz (z_t hz g1) ?_
        rcases hv with ⟨q1zz, q2zz⟩ | ⟨jzz, q1zz, q2zz, q3zz⟩
        · refine Or.inl ⟨q1zz, fun jzz hj => ?_⟩
          by_cases ezz : jzz = izz
          · rw [ezz]; exact g2
          · exact q2zz jzz (by omega)
        · exact Or.inr ⟨jzz, by omega, q2zz, q3zz⟩
      · exact hst (v2 + 1) (z_f hz g1) (Or.inr ⟨izz, by omega, i32_add e2zz (by decide) (by omega) (by omega), g2⟩)
set_option maxHeartbeats 200000 in
theorem p8_lp {rd o : Ob} {zzz : Int32} (hzz : TT rd o) (ht : ∀ kzz, kzz < 7 → (gM o 32 kzz).toInt = codR (tx8.getD kzz [])) : ∀ (Nzz : Nat) (v1zz v2 : Int32) (izz : Nat), v2.toInt = (izz : Int) → izz ≤ 7 → ((v1zz = -1 ∧ ∀ jzz, jzz < izz → ¬ IsW o (tx8.getD jzz [])) ∨ (∃ jzz : Nat, jzz < izz ∧ v1zz.toInt = (jzz : Int) + 1 ∧ IsW o (tx8.getD jzz []))) → lp_X9_orderPartAt_4 o Nzz (v1zz, v2) = some zzz →
    (zzz = -1 ∧ ∀ jzz, jzz < 7 → ¬ IsW o (tx8.getD jzz [])) ∨ (∃ jzz : Nat, jzz < 7 ∧ zzz.toInt = (jzz : Int) + 1 ∧ IsW o (tx8.getD jzz [])) := by
  intro Nzz
  induction Nzz with
  | zero => intro v1zz v2 izz _ _ _ hzz; cases hzz
  | succ Nzz ihzz =>
    intro v1zz v2 izz e2zz hizz hv hz
    have hz : lb_X9_orderPartAt_4 o (lp_X9_orderPartAt_4 o Nzz) v1zz v2 = some zzz := hz
    unfold lb_X9_orderPartAt_4 at hz
    by_cases czz : (7 : Int32) ≤ v2
    · have d := cv_le (a := 7) (b := (izz : Int)) (by decide) e2zz czz
      rw [← Option.some.inj (z_t hz czz)]
      rcases hv with ⟨q1zz, q2zz⟩ | ⟨jzz, q1zz, q2zz, q3zz⟩
      · exact Or.inl ⟨q1zz, fun jzz hj => q2zz jzz (by omega)⟩
      · exact Or.inr ⟨jzz, by omega, q2zz, q3zz⟩
    · have d := cv_nle (a := 7) (b := (izz : Int)) (by decide) e2zz czz
      obtain ⟨-, hz⟩ := z_gd (z_f hz czz)
      obtain ⟨z2, ez2, hz⟩ := z_bd hz
      have i2zz : v2.toNatClampNeg = izz := tnc_eq e2zz
      rw [i2zz] at ez2
      have hdzz := tx8_d izz (by omega)
      have hst : ∀ s0zz : Int32, bk_X9_orderPartAt_30 o (lp_X9_orderPartAt_4 o Nzz) v2 s0zz = some zzz → ((s0zz = -1 ∧ ∀ jzz, jzz < izz + 1 → ¬ IsW o (tx8.getD jzz [])) ∨ (∃ jzz : Nat, jzz < izz + 1 ∧ s0zz.toInt = (jzz : Int) + 1 ∧ IsW o (tx8.getD jzz []))) → (zzz = -1 ∧ ∀ jzz, jzz < 7 → ¬ IsW o (tx8.getD jzz [])) ∨ (∃ jzz : Nat, jzz < 7 ∧ zzz.toInt = (jzz : Int) + 1 ∧ IsW o (tx8.getD jzz [])) := by
        intro s0zz kzz hs
        unfold bk_X9_orderPartAt_30 at kzz
        obtain ⟨x3, e3zz, kzz⟩ := z_lt kzz
        have t3zz : x3.toInt = (izz : Int) + 1 := by rw [e3zz]; exact i32_add e2zz (by decide) (by omega) (by omega)
        exact ihzz s0zz x3 (izz + 1) (by omega) (by omega) hs kzz
      rcases w9 hzz (all_dig hdzz.2.2) hdzz.2.1 (ht izz (by omega)) ez2 with ⟨g1, g2⟩ | ⟨g1, g2⟩
      · refine hst v1zz (z_t hz g1) ?_
        rcases hv with ⟨q1zz, q2zz⟩ | ⟨jzz, q1zz, q2zz, q3zz⟩
        · refine Or.inl ⟨q1zz, fun jzz hj => ?_⟩
          by_cases ezz : jzz = izz
          · rw [ezz]; exact g2
          · exact q2zz jzz (by omega)
        · exact Or.inr ⟨jzz, by omega, q2zz, q3zz⟩
      · exact hst (v2 + 1) (z_f hz g1) (Or.inr ⟨izz, by omega, i32_add e2zz (by decide) (by omega) (by omega), g2⟩)
set_option maxHeartbeats 200000 in
theorem part7 {rd o : Ob} {z1 z2 : Int32} (hzz : TT rd o) (ht : ∀ kzz, kzz < 9 → (gM o 31 kzz).toInt = codR (tx7.getD kzz [])) (h1 : f_X6_wordOf rd 7 = some z1) (h2 : f_X9_partAt o = some z2) : (z1 = -1 ∧ z2 = -1) ∨ (∃ jzz : Nat, jzz < 9 ∧ z1.toInt = (jzz : Int) ∧ z2.toInt = (jzz : Int) + 1 ∧ gI o 16 = 1) := by
  have azz := wo8 hzz (by decide) tx7_ok (by decide) h1
  have bzz := p7_lp hzz ht zfu (-1) 0 0 (by decide) (by decide) (Or.inl ⟨rfl, fun jzz hj => absurd hj (Nat.not_lt_zero _)⟩) h2
  have hlen : tx7.length = 9 := by decide
  have memzz : ∀ jzz, jzz < 9 → tx7.getD jzz [] ∈ tx7 := fun jzz hj => List.mem_of_getElem? (tx7_d jzz hj).1
  rcases azz with ⟨jzz, R, a1zz, a2, a3⟩ | ⟨a1zz, a2⟩ <;> rcases bzz with ⟨b1, b2⟩ | ⟨kzz, b1, b2, b3⟩
  · have hj : jzz < 9 := by
      rcases (show jzz < 9 ∨ 9 ≤ jzz by omega) with uzz | uzz
      · exact uzz
      · rw [List.getElem?_eq_none (by rw [hlen]; exact uzz)] at a1zz; cases a1zz
    have ezz : tx7.getD jzz [] = R := Option.some.inj ((tx7_d jzz hj).1.symm.trans a1zz)
    rw [← ezz] at a3
    exact absurd a3 (b2 jzz hj)
  · have hj : jzz < 9 := by
      rcases (show jzz < 9 ∨ 9 ≤ jzz by omega) with uzz | uzz
      · exact uzz
      · rw [List.getElem?_eq_none (by rw [hlen]; exact uzz)] at a1zz; cases a1zz
    have ezz : tx7.getD jzz [] = R := Option.some.inj ((tx7_d jzz hj).1.symm.trans a1zz)
    rw [← ezz] at a3
    have ejk : jzz = kzz := by
      rcases (show jzz = kzz ∨ jzz ≠ kzz by omega) with uzz | uzz
      · exact uzz
      · have dj := tx7_d jzz hj
        have dk := tx7_d kzz b1
        exact absurd b3 (IsW.ne hzz (all_dig dj.2.2) dj.2.1 (all_dig dk.2.2) dk.2.1 (tx7_n jzz hj kzz b1 uzz) a3)
    exact Or.inr ⟨jzz, hj, a2, by rw [ejk]; exact b2, a3.1⟩
  · exact Or.inl ⟨a1zz, b1⟩
  · exact absurd b3 (a2 _ (memzz kzz b1))
set_option maxHeartbeats 200000 in
theorem part8 {rd o : Ob} {z1 z2 : Int32} (hzz : TT rd o) (ht : ∀ kzz, kzz < 7 → (gM o 32 kzz).toInt = codR (tx8.getD kzz [])) (h1 : f_X6_wordOf rd 8 = some z1) (h2 : f_X9_orderPartAt o = some z2) : (z1 = -1 ∧ z2 = -1) ∨ (∃ jzz : Nat, jzz < 7 ∧ z1.toInt = (jzz : Int) ∧ z2.toInt = (jzz : Int) + 1 ∧ gI o 16 = 1) := by
  have azz := wo8 hzz (by decide) tx8_ok (by decide) h1
  have bzz := p8_lp hzz ht zfu (-1) 0 0 (by decide) (by decide) (Or.inl ⟨rfl, fun jzz hj => absurd hj (Nat.not_lt_zero _)⟩) h2
  have hlen : tx8.length = 7 := by decide
  have memzz : ∀ jzz, jzz < 7 → tx8.getD jzz [] ∈ tx8 := fun jzz hj => List.mem_of_getElem? (tx8_d jzz hj).1
  rcases azz with ⟨jzz, R, a1zz, a2, a3⟩ | ⟨a1zz, a2⟩ <;> rcases bzz with ⟨b1, b2⟩ | ⟨kzz, b1, b2, b3⟩
  · have hj : jzz < 7 := by
      rcases (show jzz < 7 ∨ 7 ≤ jzz by omega) with uzz | uzz
      · exact uzz
      · rw [List.getElem?_eq_none (by rw [hlen]; exact uzz)] at a1zz; cases a1zz
    have ezz : tx8.getD jzz [] = R := Option.some.inj ((tx8_d jzz hj).1.symm.trans a1zz)
    rw [← ezz] at a3
    exact absurd a3 (b2 jzz hj)
  · have hj : jzz < 7 := by
      rcases (show jzz < 7 ∨ 7 ≤ jzz by omega) with uzz | uzz
      · exact uzz
      · rw [List.getElem?_eq_none (by rw [hlen]; exact uzz)] at a1zz; cases a1zz
    have ezz : tx8.getD jzz [] = R := Option.some.inj ((tx8_d jzz hj).1.symm.trans a1zz)
    rw [← ezz] at a3
    have ejk : jzz = kzz := by
      rcases (show jzz = kzz ∨ jzz ≠ kzz by omega) with uzz | uzz
      · exact uzz
      · have dj := tx8_d jzz hj
        have dk := tx8_d kzz b1
        exact absurd b3 (IsW.ne hzz (all_dig dj.2.2) dj.2.1 (all_dig dk.2.2) dk.2.1 (tx8_n jzz hj kzz b1 uzz) a3)
    exact Or.inr ⟨jzz, hj, a2, by rw [ejk]; exact b2, a3.1⟩
  · exact Or.inl ⟨a1zz, b1⟩
  · exact absurd b3 (a2 _ (memzz kzz b1))
def RF (o o' : Ob) : Prop := (∀ izz, izz ≠ 14 → izz ≠ 15 → izz ≠ 16 → izz ≠ 18 → izz ≠ 19 → izz ≠ 23 → izz ≠ 26 → izz ≠ 29 → izz ≠ 30 → gI o' izz = gI o izz) ∧ (∀ izz, izz ≠ 24 → izz ≠ 25 → izz ≠ 27 → izz ≠ 28 → gA o' izz = gA o izz) ∧ o'.2.2.2 = o.2.2.2
set_option maxHeartbeats 200000 in
theorem RF.rf {o : Ob} : RF o o := ⟨fun _ _ _ _ _ _ _ _ _ _ => rfl, fun _ _ _ _ _ => rfl, rfl⟩
set_option maxHeartbeats 200000 in
theorem RF.tr {o o' o'' : Ob} (hzz : RF o o') (h' : RF o' o'') : RF o o'' := ⟨fun izz azz bzz czz d ezz fzz gzz kzz l => (h'.1 izz azz bzz czz d ezz fzz gzz kzz l).trans (hzz.1 izz azz bzz czz d ezz fzz gzz kzz l), fun izz azz bzz czz d => (h'.2.1 izz azz bzz czz d).trans (hzz.2.1 izz azz bzz czz d), h'.2.2.trans hzz.2.2⟩
set_option maxHeartbeats 200000 in
theorem FR9.rr {o o' : Ob} (hzz : FR9 o o') : RF o o' := ⟨fun izz azz bzz czz _ _ _ _ _ _ => hzz.1 izz azz bzz czz, fun izz _ _ _ _ => hzz.gA izz, congrArg Prod.snd hzz.2.2⟩
set_option maxHeartbeats 200000 in
theorem FP.rr {o o' : Ob} (hzz : FP o o') : RF o o' := ⟨fun izz _ _ _ _ _ azz _ bzz _ => hzz.1 izz azz bzz, fun izz azz bzz _ _ => hzz.2.2.1 izz azz bzz, hzz.2.2.2⟩
def CF (rd oc rd' oc' : Ob) : Prop := (∀ izz, izz ≠ 3 → izz ≠ 5 → izz ≠ 6 → izz ≠ 7 → izz ≠ 8 → izz ≠ 9 → gI rd' izz = gI rd izz) ∧ rd'.2 = rd.2 ∧ (∀ izz, izz ≠ 8 → gI oc' izz = gI oc izz) ∧ (∀ izz, izz ≠ 5 → izz ≠ 6 → gA oc' izz = gA oc izz)
set_option maxHeartbeats 200000 in
theorem CF.rf {rd oc : Ob} : CF rd oc rd oc := ⟨fun _ _ _ _ _ _ _ => rfl, rfl, fun _ _ => rfl, fun _ _ _ => rfl⟩
set_option maxHeartbeats 200000 in
theorem CF.tr {rd oc rd' oc' rd'' oc'' : Ob} (hzz : CF rd oc rd' oc') (h' : CF rd' oc' rd'' oc'') : CF rd oc rd'' oc'' := ⟨fun izz azz bzz czz d ezz fzz => (h'.1 izz azz bzz czz d ezz fzz).trans (hzz.1 izz azz bzz czz d ezz fzz), h'.2.1.trans hzz.2.1, fun izz azz => (h'.2.2.1 izz azz).trans (hzz.2.2.1 izz azz), fun izz azz bzz => (h'.2.2.2 izz azz bzz).trans (hzz.2.2.2 izz azz bzz)⟩
set_option maxHeartbeats 200000 in
theorem FR6.cc {rd rd' oc : Ob} (hzz : FR6 rd rd') : CF rd oc rd' oc := ⟨fun izz _ _ azz bzz czz d => hzz.1 izz azz bzz czz d, hzz.2, fun _ _ => rfl, fun _ _ _ => rfl⟩
def PSt (od : Bool) (rd oc o : Ob) (k1zz k2zz pzz bzz : Nat) : Prop := TT rd o ∧ gI o 19 = 0 ∧ gI rd 5 = gI o 26 ∧ (0 ≤ (gI o 26).toInt ∧ (gI o 26).toInt ≤ 50) ∧ (gI oc 8).toInt = (k1zz : Int) ∧ (gI o 23).toInt = (k2zz : Int) ∧ ((k1zz + pzz : Nat) : Int) ≤ (gI o 14).toInt ∧ (gI o 29).toInt = (bzz : Int) ∧ bzz ≤ 400 ∧ k2zz ≤ 400 ∧ MD od rd o
set_option maxHeartbeats 200000 in
theorem MD.fr {od : Bool} {rd o rd' o' oc oc' : Ob} (hzz : MD od rd o) (czz : CF rd oc rd' oc') (rzz : RF o o') : MD od rd' o' := by
  have e4zz := czz.1 4 (by decide) (by decide) (by decide) (by decide) (by decide) (by decide)
  have e20 := rzz.1 20 (by decide) (by decide) (by decide) (by decide) (by decide) (by decide) (by decide) (by decide) (by decide)
  have em : ∀ izz, gM o' izz = gM o izz := fun izz => congrFun (congrArg Prod.fst rzz.2.2) izz
  exact ⟨fun qzz => by rw [e4zz, e20]; exact hzz.1 qzz, fun qzz => by rw [e4zz, e20]; exact hzz.2.1 qzz, fun kzz hk => by rw [em 31]; exact hzz.2.2.1 kzz hk, fun kzz hk => by rw [em 32]; exact hzz.2.2.2 kzz hk⟩
def Bad (rd oc o : Ob) (zzz : Int32 × Ob × Ob) (yzz : Ob) : Prop := zzz.1 = 0 ∧ gI yzz 19 = 1 ∧ gI yzz 18 = gI zzz.2.1 3 ∧ RF o yzz ∧ CF rd oc zzz.2.1 zzz.2.2
set_option maxHeartbeats 200000 in
theorem bad_no {rd oc o oc' o' yzz : Ob} {Nzz : Nat} {v1zz v2 : Int32} (hzz : TT rd o) (eo : o' = sI (sI o 19 1) 18 (gI o 14)) (hy : lp_X9_readExpression_20 Nzz (v1zz, v2, o') = some yzz) (hczz : CF rd oc (sI rd 3 (gI rd 7)) oc') : Bad rd oc o (0, sI rd 3 (gI rd 7), oc') yzz := by
  have k19 : gI o' 19 = 1 := by rw [eo]; rfl
  have fzz := ex_bad (by rw [k19]; decide) hy
  have rzz : RF o o' := by
    rw [eo]
    exact ⟨fun izz _ _ _ azz bzz _ _ _ _ => (fset_ne azz).trans (fset_ne bzz), fun _ _ _ _ _ => rfl, rfl⟩
  refine ⟨rfl, (fzz.1 19 (by decide) (by decide)).trans k19, ?_, rzz.tr fzz.rr, hczz⟩
  rw [fzz.1 18 (by decide) (by decide), eo]
  show gI o 14 = gI rd 7
  exact hzz.2.2.1.symm
set_option maxHeartbeats 200000 in
theorem CF.stop {rd oc : Ob} {vzz : Int32} : CF rd oc (sI rd 3 vzz) oc := ⟨fun izz azz _ _ _ _ _ => fset_ne azz, rfl, fun _ _ => rfl, fun _ _ _ => rfl⟩
set_option maxHeartbeats 200000 in
theorem CF.add {rd oc oc' : Ob} (h1 : ∀ izz, izz ≠ 8 → gI oc' izz = gI oc izz) (h2 : ∀ izz, izz ≠ 5 → izz ≠ 6 → gA oc' izz = gA oc izz) : CF rd oc rd oc' := ⟨fun _ _ _ _ _ _ _ => rfl, rfl, h1, h2⟩
set_option maxHeartbeats 200000 in
theorem l32 {xzz : Int64} (h0 : 0 ≤ xzz.toInt) (h1 : xzz.toInt ≤ 10000009) : xzz.toInt32.toInt = xzz.toInt := by
  rw [Int64.toInt_toInt32]; exact Int.bmod_eq_of_le (by omega) (by omega)
set_option maxHeartbeats 200000 in
theorem leaf_no {o zzz : Ob} {p0zz p1zz p2zz : Int32} (h19 : gI o 19 = 0) (hn : p0zz = 0 ∨ 50 ≤ (gI o 26).toInt) (hzz : f_X9_leaf o p0zz p1zz p2zz = some zzz) : zzz = sI (sI o 19 1) 18 (gI o 14) := by
  unfold f_X9_leaf at hzz
  have h18 : bk_X9_leaf_18 p1zz p2zz o = some zzz → zzz = sI (sI o 19 1) 18 (gI o 14) := by
    intro hzz
    unfold bk_X9_leaf_18 bk_X9_leaf_19 at hzz
    obtain ⟨z1, ez, hzz⟩ := z_bd hzz
    have ezz := mu_no h19 ez
    have kzz : gI z1 19 = 1 := by rw [ezz]; rfl
    rw [← Option.some.inj (z_f hzz (by rw [kzz]; decide))]; exact ezz
  by_cases czz : p0zz = 0
  · exact h18 (z_t hzz czz)
  · rcases hn with qzz | qzz
    · exact absurd qzz czz
    · exact h18 (z_t (z_f hzz czz) (Int32.le_iff_toInt_le.mpr (by have : (50 : Int32).toInt = 50 := (by decide); omega)))
set_option maxHeartbeats 200000 in
theorem leaf_ok {o zzz : Ob} {p1zz p2zz : Int32} {k2zz : Nat} (h19 : gI o 19 = 0) (hn : (gI o 26).toInt < 50) (h0 : 0 ≤ (gI o 26).toInt) (ek : (gI o 23).toInt = (k2zz : Int)) (hk : k2zz ≤ 400) (hzz : f_X9_leaf o 1 p1zz p2zz = some zzz) : ∃ o1, f_X9_next o = some o1 ∧ (FR9 o o1 → RF o zzz ∧ ckp k2zz o zzz ∧ (gI zzz 23).toInt = (k2zz : Int) + 1 ∧ gI zzz 29 = gI o 29 ∧ gA zzz 24 k2zz = p1zz ∧ gA zzz 25 k2zz = p2zz ∧ k2zz < 400 ∧ gA zzz 27 = gA o 27 ∧ gA zzz 28 = gA o 28 ∧ gI zzz 30 = gI o 30 ∧ gI zzz 19 = 0 ∧ gI zzz 26 = gI o 26 + 1 ∧ gI zzz 14 = gI o1 14 ∧ gI zzz 15 = gI o1 15 ∧ gI zzz 16 = gI o1 16 ∧ gL zzz 17 = gL o1 17) := by
  unfold f_X9_leaf at hzz
  have hzz := z_f (z_f hzz (by decide)) (fun czz => by have czz := cv_le (a := 50) (b := (gI o 26).toInt) (by decide) rfl czz; omega)
  unfold bk_X9_leaf_19 at hzz
  obtain ⟨o1, ez, hzz⟩ := z_bd hzz
  have ez := mu_ok h19 (by decide) ez
  refine ⟨o1, ez, fun fzz => ?_⟩
  have k19 : gI o1 19 = 0 := (fzz.1 19 (by decide) (by decide) (by decide)).trans h19
  obtain ⟨z2, ez2, hzz⟩ := z_bd (z_t hzz k19)
  obtain ⟨o3zz, e3zz, hzz⟩ := z_lt hzz
  obtain ⟨g1, g2, g3zz, g4, g5zz, g6, g7⟩ := emit9 (czz := k2zz) (by rw [fzz.1 23 (by decide) (by decide) (by decide)]; exact ek) hk ez2
  have f3zz : RF z2 o3zz := by rw [e3zz]; exact ⟨fun izz _ _ _ _ _ _ azz _ _ => fset_ne azz, fun _ _ _ _ _ => rfl, rfl⟩
  rw [← Option.some.inj hzz]
  have kAzz : ∀ izz, izz ≠ 24 → izz ≠ 25 → gA o3zz izz = gA o izz := fun izz azz bzz => by
    have wzz : gA o3zz izz = gA z2 izz := by rw [e3zz]; rfl
    exact wzz.trans ((g1.2.2.1 izz azz bzz).trans (fzz.gA izz))
  have k26 : gI z2 26 = gI o 26 := (g1.1 26 (by decide) (by decide)).trans (fzz.1 26 (by decide) (by decide) (by decide))
  refine ⟨fzz.rr.tr (g1.rr.tr f3zz), fun jzz hj => ⟨?_, ?_⟩, by rw [e3zz]; exact g3zz, ?_, by rw [e3zz]; exact g5zz, by rw [e3zz]; exact g6, g7, kAzz 27 (by decide) (by decide), kAzz 28 (by decide) (by decide), ?_, ?_, ?_, ?_, ?_, ?_, ?_⟩
  · have wzz : gA o3zz 24 jzz = gA z2 24 jzz := by rw [e3zz]; rfl
    rw [wzz, (g2 jzz hj).1, fzz.gA 24]
  · have wzz : gA o3zz 25 jzz = gA z2 25 jzz := by rw [e3zz]; rfl
    rw [wzz, (g2 jzz hj).2, fzz.gA 25]
  · have wzz : gI o3zz 29 = gI z2 29 := by rw [e3zz]; rfl
    rw [wzz, g4]; exact fzz.1 29 (by decide) (by decide) (by decide)
  · have wzz : gI o3zz 30 = gI z2 30 := by rw [e3zz]; rfl
    rw [wzz, g1.1 30 (by decide) (by decide)]; exact fzz.1 30 (by decide) (by decide) (by decide)
  · have wzz : gI o3zz 19 = gI z2 19 := by rw [e3zz]; rfl
    rw [wzz, g1.1 19 (by decide) (by decide)]; exact k19
  · rw [e3zz]; show gI z2 26 + 1 = _; rw [k26]
  · have wzz : gI o3zz 14 = gI z2 14 := by rw [e3zz]; rfl
    rw [wzz]; exact g1.1 14 (by decide) (by decide)
  · have wzz : gI o3zz 15 = gI z2 15 := by rw [e3zz]; rfl
    rw [wzz]; exact g1.1 15 (by decide) (by decide)
  · have wzz : gI o3zz 16 = gI z2 16 := by rw [e3zz]; rfl
    rw [wzz]; exact g1.1 16 (by decide) (by decide)
  · have wzz : gL o3zz 17 = gL z2 17 := by rw [e3zz]; rfl
    rw [wzz]; exact congrFun g1.2.1 17
set_option maxHeartbeats 200000 in
theorem TT.cg {rd o rd' o' : Ob} (hzz : TT rd o) (a2 : gI rd' 2 = gI rd 2) (aA : gA rd' 0 = gA rd 0) (a6 : gI rd' 6 = gI rd 6) (a7 : gI rd' 7 = gI rd 7) (a8 : gI rd' 8 = gI rd 8) (a9 : gI rd' 9 = gI rd 9) (b13 : gI o' 13 = gI o 13) (bA : gA o' 12 = gA o 12) (b14 : gI o' 14 = gI o 14) (b15 : gI o' 15 = gI o 15) (b16zz : gI o' 16 = gI o 16) (b17 : gL o' 17 = gL o 17) : TT rd' o' := by
  obtain ⟨⟨z1, z2, z3, z4⟩, e6zz, e7zz, e8, azz, bzz, ea, eb, hab, hbzz, hx⟩ := hzz
  refine ⟨⟨by rw [a2, b13]; exact z1, by rw [aA, bA]; exact z2, by rw [b13]; exact z3, by rw [b13]; exact z4⟩, by rw [a6, b16zz]; exact e6zz, by rw [a7, b14]; exact e7zz, by rw [a8, b15]; exact e8, azz, bzz, by rw [b14]; exact ea, by rw [b15]; exact eb, hab, by rw [b13]; exact hbzz, ?_⟩
  rw [b16zz, b13, bA, b17, a9]; exact hx
def Good1 (od : Bool) (rd oc o rd' oc' o' : Ob) (k1zz k2zz pzz bzz n k1' k2' : Nat) : Prop := PSt od rd' oc' o' k1' k2' pzz bzz ∧ RF o o' ∧ CF rd oc rd' oc' ∧ (∀ jzz, jzz < bzz → gA o' 27 jzz = gA o 27 jzz ∧ gA o' 28 jzz = gA o 28 jzz) ∧ gI o' 30 = gI o 30 ∧ (∀ jzz, jzz < k1zz → gA oc' 5 jzz = gA oc 5 jzz ∧ gA oc' 6 jzz = gA oc 6 jzz) ∧ ckp k2zz o o' ∧ (gI o' 26).toInt = (gI o 26).toInt + (n : Int) ∧ Sx od (gA oc' 5) (gA oc' 6) (gA o' 24) (gA o' 25) false k1zz k1' k2zz k2' n
set_option maxHeartbeats 200000 in
theorem leaf_fin {od : Bool} {rd oc o rd2 oc2 o1 zo : Ob} {k1zz k2zz pzz bzz : Nat} {s wzz op arg : Int32} (hzz : PSt od rd oc o k1zz k2zz pzz bzz) (hTzz : TT rd2 o1) (f9zz : FR9 o o1) (c6zz : ∀ izz, izz ≠ 5 → izz ≠ 6 → izz ≠ 7 → izz ≠ 8 → izz ≠ 9 → gI rd2 izz = gI rd izz) (c62 : rd2.2 = rd.2) (c5zz : gI rd2 5 = gI rd 5 + 1) (hpos : ((k1zz + 1 + pzz : Nat) : Int) ≤ (gI o1 14).toInt) (h50 : (gI o 26).toInt < 50)
    (a1zz : (gI oc2 8).toInt = (k1zz : Int) + 1) (a2 : gA oc2 5 k1zz = s) (a3 : gA oc2 6 k1zz = wzz) (a4 : ∀ jzz, jzz ≠ k1zz → gA oc2 5 jzz = gA oc 5 jzz ∧ gA oc2 6 jzz = gA oc 6 jzz) (a5 : ∀ izz, izz ≠ 8 → gI oc2 izz = gI oc izz) (a6 : ∀ izz, izz ≠ 5 → izz ≠ 6 → gA oc2 izz = gA oc izz)
    (hz : RF o zo ∧ ckp k2zz o zo ∧ (gI zo 23).toInt = (k2zz : Int) + 1 ∧ gI zo 29 = gI o 29 ∧ gA zo 24 k2zz = op ∧ gA zo 25 k2zz = arg ∧ k2zz < 400 ∧ gA zo 27 = gA o 27 ∧ gA zo 28 = gA o 28 ∧ gI zo 30 = gI o 30 ∧ gI zo 19 = 0 ∧ gI zo 26 = gI o 26 + 1 ∧ gI zo 14 = gI o1 14 ∧ gI zo 15 = gI o1 15 ∧ gI zo 16 = gI o1 16 ∧ gL zo 17 = gL o1 17)
    (hs : (s = 0 ∧ op = 0 ∧ wzz = arg) ∨ (s = 1 ∧ WD od wzz op arg)) : Good1 od rd oc o rd2 oc2 zo k1zz k2zz pzz bzz 1 (k1zz + 1) (k2zz + 1) := by
  obtain ⟨-, h19, e5zz, hr, ek1, ek2, hp, eb, hbzz, hk2, hMzz⟩ := hzz
  obtain ⟨r1zz, r2, r3, r4, r5zz, r6, r7, r8, r9, r10, r11, r12, r13, r14, r15, r16⟩ := hz
  have t26 : (gI zo 26).toInt = (gI o 26).toInt + 1 := by rw [r12]; exact i32_add rfl (by decide) (by omega) (by omega)
  have cfzz : CF rd oc rd2 oc2 := ⟨fun izz _ azz bzz czz d ezz => c6zz izz azz bzz czz d ezz, c62, a5, a6⟩
  have k13 : gI zo 13 = gI o1 13 := (r1zz.1 13 (by decide) (by decide) (by decide) (by decide) (by decide) (by decide) (by decide) (by decide) (by decide)).trans (f9zz.1 13 (by decide) (by decide) (by decide)).symm
  have kAzz : gA zo 12 = gA o1 12 := (r1zz.2.1 12 (by decide) (by decide) (by decide) (by decide)).trans (f9zz.gA 12).symm
  refine ⟨⟨hTzz.cg rfl rfl rfl rfl rfl rfl k13 kAzz r13 r14 r15 r16, r11, by rw [c5zz, r12, e5zz], ⟨by omega, by omega⟩, by omega, by omega, by rw [r13]; omega, by rw [r4]; exact eb, hbzz, by omega, hMzz.fr cfzz r1zz⟩, r1zz, cfzz, fun jzz hj => by rw [r8, r9]; exact ⟨rfl, rfl⟩, r10, fun jzz hj => a4 jzz (by omega), r2, by rw [t26]; rfl, ?_⟩
  have cl := Sx.cl od (gA oc2 5) (gA oc2 6) (gA zo 24) (gA zo 25)
  rcases hs with ⟨s1zz, s2zz, s3zz⟩ | ⟨s1zz, s2zz⟩
  · exact cl.1 k1zz k2zz (by rw [a2]; exact s1zz) (by rw [r5zz]; exact s2zz) (by rw [a3, r6]; exact s3zz)
  · exact cl.2.1 k1zz k2zz (by rw [a2]; exact s1zz) (by rw [a3, r5zz, r6]; exact s2zz)
set_option maxHeartbeats 200000 in
theorem c_norm {rd oc : Ob} {zzz : Int32 × Ob × Ob} {t : Nat} (ht : (gI rd 4 = 0 ∧ t = 8) ∨ (¬ gI rd 4 = 0 ∧ t = 7)) (hzz : f_X6_readSinglePart 12 400 rd oc = some zzz) : ∃ z1 : Int32, f_X6_wordOf rd t = some z1 ∧ (((gI rd 6 = 2 ∧ (gI rd 9).toInt ≤ 1000) ∧ bk_X6_readSinglePart_52 12 400 1 z1 rd oc = some zzz) ∨ (¬ (gI rd 6 = 2 ∧ (gI rd 9).toInt ≤ 1000) ∧ ((z1 = -1 ∧ bk_X6_readSinglePart_61 12 400 rd oc = some zzz) ∨ (¬ z1 = -1 ∧ bk_X6_readSinglePart_52 12 400 0 z1 rd oc = some zzz)))) := by
  have h23 : ∀ s0zz : Int32, bk_X6_readSinglePart_23 12 400 s0zz rd oc = some zzz → bk_X6_readSinglePart_39 12 400 s0zz t rd oc = some zzz := by
    intro s0zz hzz
    unfold bk_X6_readSinglePart_23 at hzz
    rcases ht with ⟨azz, bzz⟩ | ⟨azz, bzz⟩
    · rw [bzz]; exact z_t hzz azz
    · rw [bzz]; exact z_f hzz azz
  have h1 : bk_X6_readSinglePart_39 12 400 1 t rd oc = some zzz → ∃ z1 : Int32, f_X6_wordOf rd t = some z1 ∧ bk_X6_readSinglePart_52 12 400 1 z1 rd oc = some zzz := by
    intro hzz
    unfold bk_X6_readSinglePart_39 at hzz
    obtain ⟨z1, ez, hzz⟩ := z_bd hzz
    exact ⟨z1, ez, z_f hzz (by decide)⟩
  have h0 : bk_X6_readSinglePart_39 12 400 0 t rd oc = some zzz → ∃ z1 : Int32, f_X6_wordOf rd t = some z1 ∧ ((z1 = -1 ∧ bk_X6_readSinglePart_61 12 400 rd oc = some zzz) ∨ (¬ z1 = -1 ∧ bk_X6_readSinglePart_52 12 400 0 z1 rd oc = some zzz)) := by
    intro hzz
    unfold bk_X6_readSinglePart_39 at hzz
    obtain ⟨z1, ez, hzz⟩ := z_bd hzz
    have hzz := z_t hzz rfl
    by_cases czz : z1 = -1
    · exact ⟨z1, ez, Or.inl ⟨czz, z_t hzz czz⟩⟩
    · exact ⟨z1, ez, Or.inr ⟨czz, z_f hzz czz⟩⟩
  unfold f_X6_readSinglePart bk_X6_readSinglePart_22 at hzz
  by_cases czz : gI rd 6 = 2
  · have hzz := z_t hzz czz
    by_cases d : (1000 : Int32) < gI rd 9
    · have d' := cv_lt (a := 1000) (b := (gI rd 9).toInt) (by decide) rfl d
      obtain ⟨z1, azz, bzz⟩ := h0 (h23 0 (z_t hzz d))
      exact ⟨z1, azz, Or.inr ⟨fun qzz => by omega, bzz⟩⟩
    · have d' := cv_nlt (a := 1000) (b := (gI rd 9).toInt) (by decide) rfl d
      obtain ⟨z1, azz, bzz⟩ := h1 (h23 1 (z_f hzz d))
      exact ⟨z1, azz, Or.inl ⟨⟨czz, d'⟩, bzz⟩⟩
  · obtain ⟨z1, azz, bzz⟩ := h0 (h23 0 (z_f hzz czz))
    exact ⟨z1, azz, Or.inr ⟨fun qzz => czz qzz.1, bzz⟩⟩
set_option maxHeartbeats 200000 in
theorem r_norm {o : Ob} {z2 : Int32} {zr : Int32 × Ob} (hzz : bk_X9_readPart_35 z2 o = some zr) : ((gI o 16 = 2 ∧ (gL o 17).toInt ≤ 1000) ∧ (z2 = -1 → bk_X9_readPart_99 (-1) (gL o 17).toInt32 0 1 o = some zr)) ∨ (¬ (gI o 16 = 2 ∧ (gL o 17).toInt ≤ 1000) ∧ ((z2 = -1 ∧ bk_X9_readPart_99 (-1) 0 0 0 o = some zr) ∨ (¬ z2 = -1 ∧ bk_X9_readPart_99 z2 0 z2 1 o = some zr))) := by
  have h1 : bk_X9_readPart_60 z2 1 o = some zr → z2 = -1 → bk_X9_readPart_99 (-1) (gL o 17).toInt32 0 1 o = some zr := by
    intro hzz ezz
    rw [ezz] at hzz
    unfold bk_X9_readPart_60 at hzz
    have hzz := z_f (z_t hzz rfl) (by decide)
    unfold bk_X9_readPart_71 bk_X9_readPart_76 at hzz
    have hzz := z_t hzz rfl
    unfold bk_X9_readPart_86 at hzz
    exact z_f hzz (by decide)
  have h0 : bk_X9_readPart_60 z2 0 o = some zr → (z2 = -1 ∧ bk_X9_readPart_99 (-1) 0 0 0 o = some zr) ∨ (¬ z2 = -1 ∧ bk_X9_readPart_99 z2 0 z2 1 o = some zr) := by
    intro hzz
    unfold bk_X9_readPart_60 at hzz
    by_cases czz : z2 = -1
    · rw [czz] at hzz
      have hzz := z_t (z_t hzz rfl) rfl
      unfold bk_X9_readPart_76 at hzz
      have hzz := z_t hzz rfl
      unfold bk_X9_readPart_86 at hzz
      exact Or.inl ⟨czz, z_t hzz rfl⟩
    · have hzz := z_f hzz czz
      unfold bk_X9_readPart_71 bk_X9_readPart_76 at hzz
      have hzz := z_f hzz czz
      unfold bk_X9_readPart_86 at hzz
      exact Or.inr ⟨czz, z_t hzz rfl⟩
  unfold bk_X9_readPart_35 bk_X9_readPart_59 at hzz
  by_cases czz : gI o 16 = 2
  · have hzz := z_t hzz czz
    by_cases d : (0 : Int32) < lg_cmp (gL o 17) (1000 : Int64)
    · have d' := cvl_gt (a := (gL o 17).toInt) (b := 1000) rfl (by decide) d
      exact Or.inr ⟨fun qzz => by omega, h0 (z_t hzz d)⟩
    · have d' := cvl_ngt (a := (gL o 17).toInt) (b := 1000) rfl (by decide) d
      exact Or.inl ⟨⟨czz, d'⟩, h1 (z_f hzz d)⟩
  · exact Or.inr ⟨fun qzz => czz qzz.1, h0 (z_f hzz czz)⟩
set_option maxHeartbeats 200000 in
theorem single_eq {od : Bool} {rd oc o yzz : Ob} {k1zz k2zz pzz bzz Nzz : Nat} {tst : Int32} {zzz : Int32 × Ob × Ob} {zr : Int32 × Ob} (hzz : PSt od rd oc o k1zz k2zz pzz bzz) (nb : ¬ IsS o 91) (h1 : f_X6_readSinglePart 12 400 rd oc = some zzz) (h2 : f_X9_readPart o = some zr) (hy : lp_X9_readExpression_20 Nzz (tst, zr.1, zr.2) = some yzz) : Bad rd oc o zzz yzz ∨ (zzz.1 = 1 ∧ zr.1 = 3 ∧ Good1 od rd oc o zzz.2.1 zzz.2.2 zr.2 k1zz k2zz pzz bzz 1 (k1zz + 1) (k2zz + 1)) := by
  have hP := hzz
  obtain ⟨hTzz, h19, e5zz, hr, ek1, ek2, hp, eb, hbzz, hk2, hMzz⟩ := hzz
  have hT' := hTzz
  obtain ⟨hz0, t6, t7, t8, azz, bb, ea, ebb, hab, hbb, hx⟩ := hT'
  have h400 := hz0.2.2.2
  obtain ⟨t, ht, hword⟩ : ∃ t : Nat, ((gI rd 4 = 0 ∧ t = 8) ∨ (¬ gI rd 4 = 0 ∧ t = 7)) ∧ (∀ z1, f_X6_wordOf rd t = some z1 → ∃ z2, bk_X9_readPart_35 z2 o = some zr ∧ ((z1 = -1 ∧ z2 = -1) ∨ (∃ jzz : Nat, (od = false ∧ jzz < 9 ∨ od = true ∧ jzz < 7) ∧ z1.toInt = (jzz : Int) ∧ z2.toInt = (jzz : Int) + 1 ∧ gI o 16 = 1))) := by
    unfold f_X9_readPart at h2
    obtain ⟨zs, ezs, h2⟩ := z_bd h2
    rcases s9 hTzz ezs with ⟨q1zz, -⟩ | ⟨-, q2zz⟩
    · have h2 := z_t h2 q1zz
      cases od with
      | false =>
        obtain ⟨m1zz, m2zz⟩ := hMzz.2.1 rfl
        obtain ⟨z2, ez2, h2⟩ := z_bd (z_t h2 m2zz)
        refine ⟨7, Or.inr ⟨m1zz, rfl⟩, fun z1 ez1 => ⟨z2, h2, ?_⟩⟩
        rcases part7 hTzz hMzz.2.2.1 ez1 ez2 with qzz | ⟨jzz, q1zz, q2zz, q3zz, q4zz⟩
        · exact Or.inl qzz
        · exact Or.inr ⟨jzz, Or.inl ⟨rfl, q1zz⟩, q2zz, q3zz, q4zz⟩
      | true =>
        obtain ⟨m1zz, m2zz⟩ := hMzz.1 rfl
        obtain ⟨z2, ez2, h2⟩ := z_bd (z_f h2 m2zz)
        refine ⟨8, Or.inl ⟨m1zz, rfl⟩, fun z1 ez1 => ⟨z2, h2, ?_⟩⟩
        rcases part8 hTzz hMzz.2.2.2 ez1 ez2 with qzz | ⟨jzz, q1zz, q2zz, q3zz, q4zz⟩
        · exact Or.inl qzz
        · exact Or.inr ⟨jzz, Or.inr ⟨rfl, q1zz⟩, q2zz, q3zz, q4zz⟩
    · exact absurd q2zz nb
  obtain ⟨z1, ez1, hczz⟩ := c_norm ht h1
  obtain ⟨z2, hr2, hw⟩ := hword z1 ez1
  have hrn := r_norm hr2
  have hfail : ∀ v1zz s0zz s1zz s2zz : Int32, (s2zz = 0 ∨ 50 ≤ (gI o 26).toInt) → bk_X9_readPart_99 v1zz s0zz s1zz s2zz o = some zr → bk_X6_readSinglePart_61 12 400 rd oc = some zzz → Bad rd oc o zzz yzz := by
    intro v1zz s0zz s1zz s2zz hs k2' k1'
    unfold bk_X9_readPart_99 at k2'
    obtain ⟨z3, ez3, k2'⟩ := z_bd k2'
    have e3zz := leaf_no h19 hs ez3
    have k19 : gI z3 19 = 1 := by rw [e3zz]; rfl
    have ezr : zr.2 = z3 := by
      by_cases c1zz : gI z3 20 = 0
      · rw [← Option.some.inj (z_t k2' c1zz)]
      · have k2' := z_f k2' c1zz
        by_cases c2zz : v1zz < 6
        · rw [← Option.some.inj (z_t k2' c2zz)]
        · have k2' := z_f (z_f k2' c2zz) (by rw [k19]; decide)
          rw [← Option.some.inj k2']
    unfold bk_X6_readSinglePart_61 at k1'
    obtain ⟨z12, ez12, k1'⟩ := z_bd k1'
    obtain ⟨-, k1'⟩ := z_gd k1'
    obtain ⟨u1zz, u2zz⟩ := stop8 ez12
    rw [← Option.some.inj k1', u1zz, u2zz]
    exact bad_no hTzz (ezr.trans e3zz) hy CF.stop
  have h61 : 50 ≤ (gI o 26).toInt → ∀ v1zz z1 : Int32, bk_X6_readSinglePart_52 12 400 v1zz z1 rd oc = some zzz → bk_X6_readSinglePart_61 12 400 rd oc = some zzz := by
    intro qzz v1zz z1 kzz
    unfold bk_X6_readSinglePart_52 at kzz
    exact z_f kzz (fun czz => by have czz := cv_lt (a := (gI o 26).toInt) (b := 50) (by rw [e5zz]) (by decide) czz; omega)
  rcases hczz with ⟨⟨n1zz, n2zz⟩, hczz⟩ | ⟨hn, hczz⟩
  ·
    have n16 : gI o 16 = 2 := by rw [← t6]; exact n1zz
    have hnv : azz < bb ∧ NV (gI rd 9) (gL o 17) := by
      rcases hx with ⟨qzz, -⟩ | ⟨qzz, -⟩ | ⟨-, q1zz, q2zz⟩ | ⟨qzz, -⟩
      · exact absurd (qzz.symm.trans n16) (by decide)
      · exact absurd (qzz.symm.trans n16) (by decide)
      · exact ⟨q1zz, q2zz⟩
      · exact absurd (qzz.symm.trans n16) (by decide)
    obtain ⟨hlt, v0zz, v1zz, vv⟩ := hnv
    have vw : (gL o 17).toInt ≤ 1000 ∧ (gI rd 9).toInt = (gL o 17).toInt := by rcases vv with qzz | ⟨q1zz, q2zz⟩ <;> omega
    have hz2 : z2 = -1 := by
      rcases hw with ⟨-, qzz⟩ | ⟨jzz, -, -, -, qzz⟩
      · exact qzz
      · exact absurd (n16.symm.trans qzz) (by decide)
    have hr3 : bk_X9_readPart_99 (-1) (gL o 17).toInt32 0 1 o = some zr := by
      rcases hrn with ⟨-, qzz⟩ | ⟨qzz, -⟩
      · exact qzz hz2
      · exact absurd ⟨n16, vw.1⟩ qzz
    rcases (show 50 ≤ (gI o 26).toInt ∨ (gI o 26).toInt < 50 by omega) with q50 | q50
    · exact Or.inl (hfail _ _ _ _ (Or.inr q50) hr3 (h61 q50 _ _ hczz))
    · unfold bk_X6_readSinglePart_52 at hczz
      have hczz := z_t hczz (Int32.lt_iff_toInt_lt.mpr (by rw [e5zz]; have : (50 : Int32).toInt = 50 := (by decide); omega))
      obtain ⟨o2, f2zz, hczz⟩ := z_lt hczz
      have hczz := z_f hczz (by decide)
      obtain ⟨z10, ez10, hczz⟩ := z_bd hczz
      obtain ⟨z11, ez11, hczz⟩ := z_bd hczz
      unfold bk_X9_readPart_99 at hr3
      obtain ⟨z3, ez3, hr3⟩ := z_bd hr3
      obtain ⟨o1, en, hl⟩ := leaf_ok h19 q50 hr.1 ek2 hk2 ez3
      have zz : TZ o2 o := by rw [f2zz]; exact hz0
      obtain ⟨T1, T2, T3, T4⟩ := tk_eq zz (by rw [f2zz]; exact t8) (by omega) (by omega) ez11 en
      have hl := hl T3
      obtain ⟨d1zz, d2zz, d3zz, d4zz, d5zz, d6zz, d7zz⟩ := add8 ek1 (by omega) ez10
      have ezr : zr = (3, z3) := by
        by_cases c1zz : gI z3 20 = 0
        · exact (Option.some.inj (z_t hr3 c1zz)).symm
        · exact (Option.some.inj (z_t (z_f hr3 c1zz) (by decide))).symm
      have e9zz : gI o2 9 = gI rd 9 := by rw [f2zz]; rfl
      have ew : gI o2 9 = (gL o 17).toInt32 := by rw [e9zz]; exact Int32.toInt_inj.mp (by rw [l32 v0zz (by omega)]; exact vw.2)
      refine Or.inr ⟨by rw [← Option.some.inj hczz], by rw [ezr], ?_⟩
      rw [← Option.some.inj hczz, ezr]
      refine leaf_fin (rd2 := z11) (oc2 := z10.2) (o1 := o1) (zo := z3) hP T1 T3 (fun izz x1zz x2zz x3 x4zz x5zz => ?_) ?_ ?_ (by omega) q50 d2zz d3zz d4zz d5zz d6zz d7zz hl (Or.inl ⟨rfl, rfl, ew⟩)
      · rw [T2.1 izz x2zz x3 x4zz x5zz, f2zz]; exact fset_ne x1zz
      · rw [T2.2, f2zz]; rfl
      · rw [T2.1 5 (by decide) (by decide) (by decide) (by decide), f2zz]; rfl
  · have hn' : ¬ (gI o 16 = 2 ∧ (gL o 17).toInt ≤ 1000) := by
      intro qzz
      rcases hx with ⟨uzz, -⟩ | ⟨uzz, -⟩ | ⟨-, -, uzz⟩ | ⟨uzz, -⟩
      · exact absurd (uzz.symm.trans qzz.1) (by decide)
      · exact absurd (uzz.symm.trans qzz.1) (by decide)
      · refine hn ⟨by rw [t6]; exact qzz.1, ?_⟩
        rcases uzz.2.2 with wzz | wzz <;> omega
      · exact absurd (uzz.symm.trans qzz.1) (by decide)
    have hrn : (z2 = -1 ∧ bk_X9_readPart_99 (-1) 0 0 0 o = some zr) ∨ (¬ z2 = -1 ∧ bk_X9_readPart_99 z2 0 z2 1 o = some zr) := by
      rcases hrn with ⟨qzz, -⟩ | ⟨-, qzz⟩
      · exact absurd qzz hn'
      · exact qzz
    have m1zz : (-1 : Int32).toInt = -1 := by decide
    rcases hw with ⟨w1zz, w2zz⟩ | ⟨jzz, hj, w1zz, w2zz, w16⟩
    · have hczz : bk_X6_readSinglePart_61 12 400 rd oc = some zzz := by
        rcases hczz with ⟨-, qzz⟩ | ⟨qzz, -⟩
        · exact qzz
        · exact absurd w1zz qzz
      rcases hrn with ⟨-, qzz⟩ | ⟨qzz, -⟩
      · exact Or.inl (hfail _ _ _ _ (Or.inl rfl) qzz hczz)
      · exact absurd w2zz qzz
    · have hj9 : jzz < 9 := by rcases hj with ⟨-, qzz⟩ | ⟨-, qzz⟩ <;> omega
      have hczz : bk_X6_readSinglePart_52 12 400 0 z1 rd oc = some zzz := by
        rcases hczz with ⟨qzz, -⟩ | ⟨-, qzz⟩
        · rw [qzz] at w1zz; omega
        · exact qzz
      have hr3 : bk_X9_readPart_99 z2 0 z2 1 o = some zr := by
        rcases hrn with ⟨qzz, -⟩ | ⟨-, qzz⟩
        · rw [qzz] at w2zz; omega
        · exact qzz
      have hlt : azz < bb := by
        rcases hx with ⟨uzz, -⟩ | ⟨-, uzz, -⟩ | ⟨uzz, -⟩ | ⟨uzz, -⟩
        · exact absurd (uzz.symm.trans w16) (by decide)
        · exact uzz
        · exact absurd (uzz.symm.trans w16) (by decide)
        · exact absurd (uzz.symm.trans w16) (by decide)
      rcases (show 50 ≤ (gI o 26).toInt ∨ (gI o 26).toInt < 50 by omega) with q50 | q50
      · exact Or.inl (hfail _ _ _ _ (Or.inr q50) hr3 (h61 q50 _ _ hczz))
      · unfold bk_X6_readSinglePart_52 at hczz
        have hczz := z_t hczz (Int32.lt_iff_toInt_lt.mpr (by rw [e5zz]; have : (50 : Int32).toInt = 50 := (by decide); omega))
        obtain ⟨o2, f2zz, hczz⟩ := z_lt hczz
        have hczz := z_t hczz rfl
        obtain ⟨z3c, ez3c, hczz⟩ := z_bd hczz
        unfold bk_X9_readPart_99 at hr3
        obtain ⟨z3, ez3, hr3⟩ := z_bd hr3
        obtain ⟨o1, en, hl⟩ := leaf_ok h19 q50 hr.1 ek2 hk2 ez3
        have zz : TZ o2 o := by rw [f2zz]; exact hz0
        obtain ⟨T1, T2, T3, T4⟩ := tk_eq zz (by rw [f2zz]; exact t8) (by omega) (by omega) ez3c en
        have hl := hl T3
        have c6zz : ∀ izz, izz ≠ 5 → izz ≠ 6 → izz ≠ 7 → izz ≠ 8 → izz ≠ 9 → gI z3c izz = gI rd izz := fun izz x1zz x2zz x3 x4zz x5zz => by rw [T2.1 izz x2zz x3 x4zz x5zz, f2zz]; exact fset_ne x1zz
        have c62 : z3c.2 = rd.2 := by rw [T2.2, f2zz]; rfl
        have c5zz : gI z3c 5 = gI rd 5 + 1 := by rw [T2.1 5 (by decide) (by decide) (by decide) (by decide), f2zz]; rfl
        have k4zz : gI z3c 4 = gI rd 4 := c6zz 4 (by decide) (by decide) (by decide) (by decide) (by decide)
        have k20 : gI z3 20 = gI o 20 := hl.1.1 20 (by decide) (by decide) (by decide) (by decide) (by decide) (by decide) (by decide) (by decide) (by decide)
        have plainzz : (od = false ∨ jzz < 5) → zr = (3, z3) → bk_X6_readSinglePart_115 12 400 z1 z3c oc = some zzz → zzz.1 = 1 ∧ zr.1 = 3 ∧ Good1 od rd oc o zzz.2.1 zzz.2.2 zr.2 k1zz k2zz pzz bzz 1 (k1zz + 1) (k2zz + 1) := by
          intro hod ezr kzz
          unfold bk_X6_readSinglePart_115 at kzz
          obtain ⟨z4, ez4, kzz⟩ := z_bd kzz
          obtain ⟨d1zz, d2zz, d3zz, d4zz, d5zz, d6zz, d7zz⟩ := add8 ek1 (by omega) ez4
          refine ⟨by rw [← Option.some.inj kzz], by rw [ezr], ?_⟩
          rw [← Option.some.inj kzz, ezr]
          refine leaf_fin (rd2 := z3c) (oc2 := z4.2) (o1 := o1) (zo := z3) hP T1 T3 c6zz c62 c5zz (by omega) q50 d2zz d3zz d4zz d5zz d6zz d7zz hl (Or.inr ⟨rfl, Or.inl ⟨jzz, ?_, w1zz, w2zz⟩⟩)
          rcases hod with qzz | qzz
          · exact Or.inr ⟨qzz, hj9⟩
          · exact Or.inl qzz
        cases od with
        | false =>
          obtain ⟨m1', m2'⟩ := hMzz.2.1 rfl
          have ezr : zr = (3, z3) := (Option.some.inj (z_t hr3 (by rw [k20]; exact m2'))).symm
          exact Or.inr (plainzz (Or.inl rfl) ezr (z_f hczz (by rw [k4zz]; exact m1')))
        | true =>
          obtain ⟨m1', m2'⟩ := hMzz.1 rfl
          have hczz := z_t hczz (by rw [k4zz]; exact m1')
          have hr3 := z_f hr3 (by rw [k20]; exact m2')
          have hj7 : jzz < 7 := by
            rcases hj with ⟨qzz, -⟩ | ⟨-, qzz⟩
            · cases qzz
            · exact qzz
          by_cases c5' : (5 : Int32) ≤ z1
          · have d5' := cv_le (a := 5) (b := (jzz : Int)) (by decide) w1zz c5'
            have hczz := z_t hczz c5'
            have hr3 := z_f hr3 (fun czz => by have czz := cv_lt (a := (jzz : Int) + 1) (b := 6) w2zz (by decide) czz; omega)
            obtain ⟨r1zz, r2, r3, r4, r5zz, r6, r7, r8, r9, r10, r11, r12, r13, r14, r15, r16⟩ := hl
            have hr3 := z_t hr3 r11
            obtain ⟨x4zz, g4, hr3⟩ := z_lt hr3
            obtain ⟨z5, ez5, hr3⟩ := z_bd hr3
            obtain ⟨-, hr3⟩ := z_gd hr3
            obtain ⟨o7, g7, hr3⟩ := z_lt hr3
            have tx4 : x4zz.toInt = (k2zz : Int) + 1 - 1 := by rw [g4]; exact i32_sub r3 (by decide) (by omega) (by omega)
            have ix4 : x4zz.toNatClampNeg = k2zz := tnc_eq (by omega)
            rw [ix4] at g7
            have k13 : gI z3 13 = gI o1 13 := (r1zz.1 13 (by decide) (by decide) (by decide) (by decide) (by decide) (by decide) (by decide) (by decide) (by decide)).trans (T3.1 13 (by decide) (by decide) (by decide)).symm
            have kAzz : gA z3 12 = gA o1 12 := (r1zz.2.1 12 (by decide) (by decide) (by decide) (by decide)).trans (T3.gA 12).symm
            have TT3 : TT z3c z3 := T1.cg rfl rfl rfl rfl rfl rfl k13 kAzz r13 r14 r15 r16
            have ezr : zr = (3, o7) := (Option.some.inj hr3).symm
            unfold f_X9_number at ez5
            obtain ⟨x1zz, g1, ez5⟩ := z_lt ez5
            have nfail : f_X9_must z3 0 = some z5.2 → bk_X6_readSinglePart_144 12 400 z3c oc = some zzz → Bad rd oc o zzz yzz := by
              intro k2' k1'
              have ezz := mu_no r11 k2'
              unfold bk_X6_readSinglePart_144 at k1'
              obtain ⟨zs, ezs, k1'⟩ := z_bd k1'
              obtain ⟨-, k1'⟩ := z_gd k1'
              obtain ⟨u1zz, u2zz⟩ := stop8 ezs
              have k19 : gI o7 19 = 1 := by rw [g7, ezz]; rfl
              have hy' : lp_X9_readExpression_20 Nzz (tst, zr.1, o7) = some yzz := by rw [ezr] at hy ⊢; exact hy
              have fzz := ex_bad (by rw [k19]; decide) hy'
              have rr : RF z3 o7 := by
                rw [g7, ezz]
                exact ⟨fun izz _ _ _ azz bzz _ _ _ _ => (fset_ne azz).trans (fset_ne bzz), fun izz _ bzz _ _ => fset_ne (f := fun izz => gA (sI (sI z3 19 1) 18 (gI z3 14)) izz) bzz, rfl⟩
              rw [← Option.some.inj k1', u1zz, u2zz]
              refine ⟨rfl, (fzz.1 19 (by decide) (by decide)).trans k19, ?_, r1zz.tr (rr.tr fzz.rr), ⟨fun izz x0zz x1zz x2zz x3 x4zz x5zz => (fset_ne x0zz).trans (c6zz izz x1zz x2zz x3 x4zz x5zz), c62, fun _ _ => rfl, fun _ _ _ => rfl⟩⟩
              rw [fzz.1 18 (by decide) (by decide), g7, ezz]
              show gI z3 14 = gI z3c 7
              exact TT3.2.2.1.symm
            have tok : gI z3c 6 = gI z3 16 := TT3.2.1
            obtain ⟨a3, b3, ea3, eb3, hab3, hb3, hx3⟩ := TT3.2.2.2.2
            by_cases c16 : gI z3 16 = 2
            · have hnv3 : a3 < b3 ∧ NV (gI z3c 9) (gL z3 17) := by
                rcases hx3 with ⟨qzz, -⟩ | ⟨qzz, -⟩ | ⟨-, q1zz, q2zz⟩ | ⟨qzz, -⟩
                · exact absurd (qzz.symm.trans c16) (by decide)
                · exact absurd (qzz.symm.trans c16) (by decide)
                · exact ⟨q1zz, q2zz⟩
                · exact absurd (qzz.symm.trans c16) (by decide)
              obtain ⟨hlt3, v0zz, v1zz, vv⟩ := hnv3
              obtain ⟨zi, ezi, ez5⟩ := z_bd (z_t ez5 c16)
              have hczz := z_t hczz (by rw [tok]; exact c16)
              have l0 : (0 : Int64).toInt = 0 := by decide
              have l6 : (6 : Int64).toInt = 6 := by decide
              rcases in_iff _ _ _ _ ezi with ⟨q1zz, q2zz⟩ | ⟨q1zz, q2zz, q3zz⟩
              · have ez5 := z_t ez5 q1zz
                unfold bk_X9_number_32 bk_X9_number_33 at ez5
                obtain ⟨zm, ezm, ez5⟩ := z_bd ez5
                have e52 : z5.2 = zm := by rw [← Option.some.inj ez5]
                have hczz := z_f hczz (fun czz => by
                  have czz := cv_lt (a := (gI z3c 9).toInt) (b := 7) rfl (by decide) czz
                  rcases vv with ⟨wzz, w'⟩ | ⟨wzz, w'⟩ <;> omega)
                exact Or.inl (nfail (by rw [e52]; exact ezm) hczz)
              · have ez5 := z_f ez5 q1zz
                unfold bk_X9_number_33 at ez5
                obtain ⟨zm, ezm, ez5⟩ := z_bd ez5
                have e52 : z5 = (x1zz, zm) := (Option.some.inj ez5).symm
                have vw : (gI z3c 9).toInt = (gL z3 17).toInt := by rcases vv with ⟨wzz, w'⟩ | ⟨wzz, w'⟩ <;> omega
                have hczz := z_t hczz (Int32.lt_iff_toInt_lt.mpr (by have : (7 : Int32).toInt = 7 := (by decide); omega))
                obtain ⟨z7, ez7, hczz⟩ := z_bd hczz
                obtain ⟨z8, ez8, hczz⟩ := z_bd hczz
                obtain ⟨z9, ez9, hczz⟩ := z_bd hczz
                have ezm := mu_ok r11 (by decide) ezm
                obtain ⟨V1, V2, V3, V4⟩ := tk_eq TT3.1 TT3.2.2.2.1 (by omega) (by omega) ez9 ezm
                obtain ⟨d1zz, d2zz, d3zz, d4zz, d5zz, d6zz, d7zz⟩ := add8 ek1 (by omega) ez8
                have tx1 : x1zz.toInt = (gL z3 17).toInt := by rw [g1]; exact l32 v0zz (by omega)
                have ho7 : o7 = tA zm 25 k2zz x1zz := by rw [g7, e52]
                have q27 : gA o7 27 = gA o 27 := by rw [ho7]; show gA zm 27 = _; rw [V3.gA 27, r8]
                have q28 : gA o7 28 = gA o 28 := by rw [ho7]; show gA zm 28 = _; rw [V3.gA 28, r9]
                have qI : ∀ izz, izz ≠ 14 → izz ≠ 15 → izz ≠ 16 → gI o7 izz = gI z3 izz := fun izz azz bzz czz => by rw [ho7]; exact V3.1 izz azz bzz czz
                have q25 : ∀ izz, gA o7 25 izz = if izz = k2zz then x1zz else gA z3 25 izz := fun izz => by
                  rw [ho7]; show (if izz = k2zz then x1zz else gA zm 25 izz) = _; rw [V3.gA 25]
                have q24 : gA o7 24 = gA z3 24 := by rw [ho7]; show gA zm 24 = _; rw [V3.gA 24]
                have rr : RF o o7 := r1zz.tr (V3.rr.tr (by rw [ho7]; exact ⟨fun _ _ _ _ _ _ _ _ _ _ => rfl, fun izz _ bzz _ _ => fset_ne (f := fun izz => gA zm izz) bzz, rfl⟩))
                have fz : FR9 o1 o1 := FR9.rf
                refine Or.inr ⟨by rw [← Option.some.inj hczz], by rw [ezr], ?_⟩
                rw [← Option.some.inj hczz, ezr]
                have t26 : (gI z3 26).toInt = (gI o 26).toInt + 1 := by rw [r12]; exact i32_add rfl (by decide) (by omega) (by omega)
                have cfzz : CF rd oc z9 z8.2 := ⟨fun izz _ azz bzz czz d ezz => (V2.1 izz bzz czz d ezz).trans (c6zz izz azz bzz czz d ezz), V2.2.trans c62, d6zz, d7zz⟩
                have z7v : ((z7.toInt = 5 + (gL z3 17).toInt ∧ z2.toInt = 6) ∨ (z7.toInt = 12 + (gL z3 17).toInt ∧ z2.toInt = 7)) := by
                  unfold f_X3_wordOfPerson bk_X3_wordOfPerson_11 at ez7
                  by_cases e5' : z1 = 5
                  · have qzz := cv_eq (a := (jzz : Int)) (b := 5) w1zz (by decide) e5'
                    refine Or.inl ⟨?_, by omega⟩
                    rw [← Option.some.inj (z_t ez7 e5')]; exact i32_add (by decide) vw (by omega) (by omega)
                  · have qzz := cv_ne (a := (jzz : Int)) (b := 5) w1zz (by decide) e5'
                    refine Or.inr ⟨?_, by omega⟩
                    rw [← Option.some.inj (z_f ez7 e5')]; exact i32_add (by decide) vw (by omega) (by omega)
                refine ⟨⟨V1.cg rfl rfl rfl rfl rfl rfl (by rw [ho7]; rfl) (by rw [ho7]; rfl) (by rw [ho7]; rfl) (by rw [ho7]; rfl) (by rw [ho7]; rfl) (by rw [ho7]; rfl), by rw [qI 19 (by decide) (by decide) (by decide)]; exact r11, ?_, ?_, by first | omega | (dsimp only; omega), ?_, ?_, ?_, hbzz, by omega, hMzz.fr cfzz rr⟩, rr, cfzz, fun izz hizz => by rw [q27, q28]; exact ⟨rfl, rfl⟩, ?_, fun izz hizz => d5zz izz (by omega), fun izz hizz => ⟨?_, ?_⟩, ?_, ?_⟩
                · rw [V2.1 5 (by decide) (by decide) (by decide) (by decide), c5zz, qI 26 (by decide) (by decide) (by decide), r12, e5zz]
                · rw [qI 26 (by decide) (by decide) (by decide)]; omega
                · rw [qI 23 (by decide) (by decide) (by decide)]; omega
                · rw [ho7]; show _ ≤ (gI zm 14).toInt; rw [r13] at ea3; omega
                · rw [qI 29 (by decide) (by decide) (by decide), r4]; exact eb
                · rw [qI 30 (by decide) (by decide) (by decide)]; exact r10
                · rw [q24]; exact (r2 izz hizz).1
                · rw [q25 izz, if_neg (by omega)]; exact (r2 izz hizz).2
                · rw [qI 26 (by decide) (by decide) (by decide)]; omega
                · refine (Sx.cl true (gA z8.2 5) (gA z8.2 6) (gA o7 24) (gA o7 25)).2.1 k1zz k2zz d3zz ?_
                  rw [d4zz, q24, r5zz, q25 k2zz, if_pos rfl]
                  exact Or.inr ⟨rfl, (gL z3 17).toInt.toNat, by omega, by omega, by omega⟩
            · have ez5 := z_f ez5 c16
              unfold bk_X9_number_32 bk_X9_number_33 at ez5
              obtain ⟨zm, ezm, ez5⟩ := z_bd ez5
              have e52 : z5.2 = zm := by rw [← Option.some.inj ez5]
              exact Or.inl (nfail (by rw [e52]; exact ezm) (z_f hczz (by rw [tok]; exact c16)))
          · have d5' := cv_nle (a := 5) (b := (jzz : Int)) (by decide) w1zz c5'
            have ezr : zr = (3, z3) := (Option.some.inj (z_t hr3 (Int32.lt_iff_toInt_lt.mpr (by have : (6 : Int32).toInt = 6 := (by decide); omega)))).symm
            exact Or.inr (plainzz (Or.inr (by omega)) ezr (z_f hczz c5'))
set_option maxHeartbeats 200000 in
theorem Bad.tr {rd oc o rd' oc' o' yzz : Ob} {zzz : Int32 × Ob × Ob} (rzz : RF o o') (czz : CF rd oc rd' oc') (hzz : Bad rd' oc' o' zzz yzz) : Bad rd oc o zzz yzz := ⟨hzz.1, hzz.2.1, hzz.2.2.1, rzz.tr hzz.2.2.2.1, czz.tr hzz.2.2.2.2⟩
set_option maxHeartbeats 200000 in
theorem push9 {o o' : Ob} {op at' : Int32} {bzz : Nat} (eb : (gI o 29).toInt = (bzz : Int)) (hbzz : bzz ≤ 400) (hzz : f_X9_push o op at' = some o') : bzz < 400 ∧ (gI o' 29).toInt = (bzz : Int) + 1 ∧ gA o' 27 bzz = op ∧ gA o' 28 bzz = at' ∧ (∀ jzz, jzz ≠ bzz → gA o' 27 jzz = gA o 27 jzz ∧ gA o' 28 jzz = gA o 28 jzz) ∧ (∀ izz, izz ≠ 29 → gI o' izz = gI o izz) ∧ (∀ izz, izz ≠ 27 → izz ≠ 28 → gA o' izz = gA o izz) ∧ o'.2.1 = o.2.1 ∧ o'.2.2.2 = o.2.2.2 := by
  unfold f_X9_push at hzz
  obtain ⟨gzz, hzz⟩ := z_gd hzz
  obtain ⟨o2, e2zz, hzz⟩ := z_lt hzz
  obtain ⟨-, hzz⟩ := z_gd hzz
  obtain ⟨o4zz, e4zz, hzz⟩ := z_lt hzz
  obtain ⟨o5zz, e5zz, hzz⟩ := z_lt hzz
  have gk := (of_decide_eq_true gzz).2
  have ib : (gI o 29).toNatClampNeg = bzz := tnc_eq eb
  have k2zz : gI o2 29 = gI o 29 := by rw [e2zz]; rfl
  rw [ib] at e2zz
  rw [k2zz, ib] at e4zz
  have k29 : gI o5zz 29 = gI o 29 + 1 := by rw [e5zz, e4zz, e2zz]; rfl
  rw [← Option.some.inj hzz]
  refine ⟨by omega, by rw [k29]; exact i32_add eb (by decide) (by omega) (by omega), ?_, ?_, fun jzz hj => ⟨?_, ?_⟩, fun izz hizz => ?_, fun izz azz czz => ?_, by rw [e5zz, e4zz, e2zz]; rfl, by rw [e5zz, e4zz, e2zz]; rfl⟩
  · rw [e5zz, e4zz, e2zz]; exact if_pos rfl
  · rw [e5zz, e4zz]; exact if_pos rfl
  · rw [e5zz, e4zz, e2zz]; exact if_neg hj
  · rw [e5zz, e4zz, e2zz]; exact if_neg hj
  · rw [e5zz]; exact (fset_ne hizz).trans (by rw [e4zz, e2zz]; rfl)
  · have w0zz : gA o5zz izz = gA o4zz izz := by rw [e5zz]; rfl
    have w1zz : gA o4zz izz = gA o2 izz := by rw [e4zz]; exact fset_ne (f := fun izz => gA o2 izz) czz
    have w2zz : gA o2 izz = gA o izz := by rw [e2zz]; exact fset_ne (f := fun izz => gA o izz) azz
    exact w0zz.trans (w1zz.trans w2zz)
def GoodT (L : Int) (od : Bool) (rd oc o rd' oc' o' : Ob) (k1zz k2zz pzz bzz n k1' : Nat) : Prop := ∃ k2' b' : Nat, k1zz ≤ k1' ∧ PSt od rd' oc' o' k1' k2' pzz b' ∧ bzz ≤ b' ∧ RF o o' ∧ CF rd oc rd' oc' ∧ (∀ jzz, jzz < bzz → gA o' 27 jzz = gA o 27 jzz ∧ gA o' 28 jzz = gA o 28 jzz) ∧ (∀ jzz, bzz ≤ jzz → jzz < b' → 20 ≤ (gA o' 27 jzz).toInt ∧ (gA o' 27 jzz).toInt ≤ 24) ∧ gI o' 30 = gI o 30 ∧ (∀ jzz, jzz < k1zz → gA oc' 5 jzz = gA oc 5 jzz ∧ gA oc' 6 jzz = gA oc 6 jzz) ∧ ckp k2zz o o' ∧ (gI o' 26).toInt = (gI o 26).toInt + (n : Int) ∧
  PEs L o' bzz (fun o3zz => ∃ k3zz : Nat, (gI o3zz 23).toInt = (k3zz : Int) ∧ k3zz ≤ 400 ∧ ckp k2zz o o3zz ∧ Sx od (gA oc' 5) (gA oc' 6) (gA o3zz 24) (gA o3zz 25) false k1zz k1' k2zz k3zz n)
set_option maxHeartbeats 200000 in
theorem Good1.t {L : Int} {od : Bool} {rd oc o rd' oc' o' : Ob} {k1zz k2zz pzz bzz n k1' k2' : Nat} (hzz : Good1 od rd oc o rd' oc' o' k1zz k2zz pzz bzz n k1' k2') : GoodT L od rd oc o rd' oc' o' k1zz k2zz pzz bzz n k1' := by
  obtain ⟨h1, h2, h3, h4, h5, h6, h7, h8, h9⟩ := hzz
  have l9 := h9.lt
  exact ⟨k2', bzz, by omega, h1, Nat.le_refl _, h2, h3, h4, fun jzz azz czz => by omega, h5, h6, h7, h8, PEs.none h1.2.2.2.2.2.2.2.1 (fun o'' fzz => ⟨k2', by rw [fzz.1 23 (by decide) (by decide) (by decide)]; exact h1.2.2.2.2.2.1, h1.2.2.2.2.2.2.2.2.2.1, fun jzz hj => by rw [fzz.gA 24, fzz.gA 25]; exact h7 jzz hj, by rw [fzz.gA 24, fzz.gA 25]; exact h9⟩)⟩
set_option maxHeartbeats 200000 in
theorem GoodT.le {L L' : Int} {od : Bool} {rd oc o rd' oc' o' : Ob} {k1zz k2zz pzz bzz n k1' : Nat} (hzz : GoodT L od rd oc o rd' oc' o' k1zz k2zz pzz bzz n k1') (hl : L' ≤ L) : GoodT L' od rd oc o rd' oc' o' k1zz k2zz pzz bzz n k1' := by
  obtain ⟨k2', b', h0, h1, h2, h3, h4, h5, h6, h7, h8, h9, h10, h11⟩ := hzz
  exact ⟨k2', b', h0, h1, h2, h3, h4, h5, h6, h7, h8, h9, h10, h11.le hl⟩
set_option maxHeartbeats 200000 in
theorem op_in {L : Int} {od : Bool} {rd oc o rd1 oc1 o1 rd2 : Ob} {k1zz k2zz pzz bzz n k1' : Nat} {op : Int32} {z19 : Int32} {z20 z21 z22 : Ob} (gzz : GoodT L od rd oc o rd1 oc1 o1 k1zz k2zz pzz bzz n k1') (hbzz : bzz ≤ 400) (hop : 20 ≤ op.toInt ∧ op.toInt ≤ 24) (hl : z19.toInt ≤ L ∧ 1 ≤ z19.toInt) (hbase : bzz = 0 ∨ (bnd (gA o 27 (bzz - 1))).toInt < z19.toInt) (hs : gI o1 16 = 3)
    (e20 : f_X9_settle o1 z19 = some z20) (e21zz : f_X9_push z20 op 0 = some z21) (e22zz : f_X9_next z21 = some z22) (ec : f_X6_step rd1 = some rd2) :
    ∃ k3zz : Nat, PSt od rd2 oc1 z22 k1' k3zz (pzz + 1) (bzz + 1) ∧ RF o z22 ∧ CF rd oc rd2 oc1 ∧ (∀ jzz, jzz < bzz → gA z22 27 jzz = gA o 27 jzz ∧ gA z22 28 jzz = gA o 28 jzz) ∧ gA z22 27 bzz = op ∧ gI z22 30 = gI o 30 ∧ ckp k2zz o z22 ∧ (gI z22 26).toInt = (gI o 26).toInt + (n : Int) ∧ Sx od (gA oc1 5) (gA oc1 6) (gA z22 24) (gA z22 25) false k1zz k1' k2zz k3zz n ∧ bzz < 400 := by
  obtain ⟨k2', b', h0, h1, h2, h3, h4, h5, h6, h7, h8, h9, h10, h11⟩ := gzz
  obtain ⟨hTzz, h19, e5zz, hr, ek1, ek2, hp, eb, hb', hk2, hMzz⟩ := h1
  have topzz : bzz = 0 ∨ (bnd (gA o1 27 (bzz - 1))).toInt < z19.toInt := by
    rcases hbase with qzz | qzz
    · exact Or.inl qzz
    · rcases (show bzz = 0 ∨ 0 < bzz by omega) with uzz | uzz
      · exact Or.inl uzz
      · exact Or.inr (by rw [(h5 (bzz - 1) (by omega)).1]; exact qzz)
  obtain ⟨s1zz, s2zz, k3zz, s3zz, s4zz, s5, s6zz⟩ := h11.done FR9.rf hbzz hl.2 hl.1 topzz e20
  obtain ⟨p1zz, p2zz, p3zz, p4zz, p5zz, p6zz, p7zz, p8zz, p9zz⟩ := push9 s1zz hbzz e21zz
  have hT2 : TT rd1 z21 := by
    refine hTzz.cg rfl rfl rfl rfl rfl rfl ?_ ?_ ?_ ?_ ?_ ?_
    · rw [p6zz 13 (by decide)]; exact s2zz.1 13 (by decide) (by decide)
    · rw [p7zz 12 (by decide) (by decide)]; exact s2zz.2.2.1 12 (by decide) (by decide)
    · rw [p6zz 14 (by decide)]; exact s2zz.1 14 (by decide) (by decide)
    · rw [p6zz 15 (by decide)]; exact s2zz.1 15 (by decide) (by decide)
    · rw [p6zz 16 (by decide)]; exact s2zz.1 16 (by decide) (by decide)
    · exact (congrFun p8zz 17).trans (congrFun s2zz.2.1 17)
  obtain ⟨azz, bb, ea, ebb, hab, hbb, hx⟩ := hT2.2.2.2.2
  have q16zz : gI z21 16 = 3 := by rw [p6zz 16 (by decide), s2zz.1 16 (by decide) (by decide)]; exact hs
  have hbb' : bb = azz + 1 := by
    rcases hx with ⟨uzz, -⟩ | ⟨uzz, -⟩ | ⟨uzz, -⟩ | ⟨-, uzz, -⟩
    · exact absurd (uzz.symm.trans q16zz) (by decide)
    · exact absurd (uzz.symm.trans q16zz) (by decide)
    · exact absurd (uzz.symm.trans q16zz) (by decide)
    · exact uzz
  obtain ⟨T1, T2, T3, T4⟩ := tk_eq hT2.1 hT2.2.2.2.1 (by omega) (by omega) ec e22zz
  have k14 : gI z21 14 = gI o1 14 := (p6zz 14 (by decide)).trans (s2zz.1 14 (by decide) (by decide))
  have rp : RF z20 z21 := ⟨fun izz _ _ _ _ _ _ _ azz _ => p6zz izz azz, fun izz _ _ azz czz => p7zz izz azz czz, p9zz⟩
  have rr : RF o z22 := h3.tr (s2zz.rr.tr (rp.tr T3.rr))
  have cfzz : CF rd oc rd2 oc1 := h4.tr T2.cc
  have i26 : gI z22 26 = gI o1 26 := (T3.1 26 (by decide) (by decide) (by decide)).trans ((p6zz 26 (by decide)).trans (s2zz.1 26 (by decide) (by decide)))
  have i23 : (gI z22 23).toInt = (k3zz : Int) := by rw [T3.1 23 (by decide) (by decide) (by decide), p6zz 23 (by decide)]; exact s3zz
  have cA : ∀ izz, izz ≠ 27 → izz ≠ 28 → gA z22 izz = gA z20 izz := fun izz azz czz => (T3.gA izz).trans (p7zz izz azz czz)
  refine ⟨k3zz, ⟨T1, ?_, ?_, by rw [i26]; exact hr, ek1, i23, ?_, ?_, by omega, s4zz, hMzz.fr (oc := oc1) (oc' := oc1) T2.cc (s2zz.rr.tr (rp.tr T3.rr))⟩, rr, cfzz, fun jzz hj => ?_, ?_, ?_, fun jzz hj => ?_, by rw [i26]; exact h10, ?_, p1zz⟩
  · rw [T3.1 19 (by decide) (by decide) (by decide), p6zz 19 (by decide), s2zz.1 19 (by decide) (by decide)]; exact h19
  · rw [T2.1 5 (by decide) (by decide) (by decide) (by decide), i26]; exact e5zz
  · rw [k14] at ea; omega
  · rw [T3.1 29 (by decide) (by decide) (by decide)]; omega
  · rw [T3.gA 27, T3.gA 28, (p5zz jzz (by omega)).1, (p5zz jzz (by omega)).2, s2zz.2.2.1 27 (by decide) (by decide), s2zz.2.2.1 28 (by decide) (by decide)]; exact h5 jzz hj
  · rw [T3.gA 27]; exact p3zz
  · rw [T3.1 30 (by decide) (by decide) (by decide), p6zz 30 (by decide), s2zz.1 30 (by decide) (by decide)]; exact h7
  · rw [cA 24 (by decide) (by decide), cA 25 (by decide) (by decide)]; exact s5 jzz hj
  · rw [cA 24 (by decide) (by decide), cA 25 (by decide) (by decide)]; exact s6zz
set_option maxHeartbeats 200000 in
theorem op_out {L L' : Int} {od : Bool} {rd oc o rd2 oc1 o2 rd3 oc3 o3zz oc4 : Ob} {k1zz k2zz pzz bzz n n' k1' k3zz k1'' : Nat} {op s : Int32} {z7 : Int32 × Ob} (hSzz : Sx od (gA oc1 5) (gA oc1 6) (gA o2 24) (gA o2 25) false k1zz k1' k2zz k3zz n) (rzz : RF o o2) (czz : CF rd oc rd2 oc1) (hpl : ∀ jzz, jzz < bzz → gA o2 27 jzz = gA o 27 jzz ∧ gA o2 28 jzz = gA o 28 jzz) (hop : gA o2 27 bzz = op) (h30 : gI o2 30 = gI o 30) (hck : ckp k2zz o o2) (h26 : (gI o2 26).toInt = (gI o 26).toInt + (n : Int)) (hbzz : bzz < 400) (hk13 : ∀ jzz, jzz < k1zz → gA oc1 5 jzz = gA oc 5 jzz ∧ gA oc1 6 jzz = gA oc 6 jzz)
    (gzz : GoodT L' od rd2 oc1 o2 rd3 oc3 o3zz k1' k3zz (pzz + 1) (bzz + 1) n' k1'') (hL : L ≤ L') (hbn : L ≤ (bnd op).toInt) (hopr : 20 ≤ op.toInt ∧ op.toInt ≤ 24) (hBO : opB s op) (ez : f_X0_add 12 400 oc3 s 0 = some z7) (e4zz : oc4 = z7.2) :
    GoodT L od rd oc o rd3 oc4 o3zz k1zz k2zz pzz bzz (n + n') (k1'' + 1) := by
  have hlt := hSzz.lt
  obtain ⟨k2', b', h0, h1, h2, h3, h4, h5, h6, h7, h8, h9, h10, h11⟩ := gzz
  obtain ⟨hTzz, h19, e5zz, hr, ek1, ek2, hp, eb, hb', hk2, hMzz⟩ := h1
  obtain ⟨azz, bb, ea, ebb, hab, hbb, -⟩ := hTzz.2.2.2.2
  have h400 := hTzz.1.2.2.2
  obtain ⟨d1zz, d2zz, d3zz, d4zz, d5zz, d6zz, d7zz⟩ := add8 ek1 (by omega) ez
  subst e4zz
  have cfzz : CF rd oc rd3 z7.2 := czz.tr (h4.tr (CF.add d6zz d7zz))
  refine ⟨k2', b', by omega, ⟨hTzz, h19, e5zz, hr, by omega, ek2, by omega, eb, hb', hk2, hMzz⟩, by omega, rzz.tr h3, cfzz, fun jzz hj => ?_, fun jzz azz czz => ?_, h7.trans h30, fun jzz hj => ?_, hck.tr (h9.le (by omega)), by omega, fun o3' f3zz Nzz lv yzz hl1 hl2 hy => ?_⟩
  · rw [(h5 jzz (by omega)).1, (h5 jzz (by omega)).2]; exact hpl jzz hj
  · rcases (show jzz = bzz ∨ bzz + 1 ≤ jzz by omega) with qzz | qzz
    · rw [qzz, (h5 bzz (by omega)).1, hop]; exact hopr
    · exact h6 jzz qzz czz
  · have w8 := h8 jzz (by omega)
    have w5 := d5zz jzz (by omega)
    rw [w5.1, w5.2, w8.1, w8.2]; exact hk13 jzz hj
  · obtain ⟨N', o4zz, q1zz, q2zz, q3zz, k4zz, q4zz, q5zz, q6zz, q7zz⟩ := h11 o3' f3zz Nzz lv yzz hl1 (by omega) hy
    have e27zz : gA o4zz 27 bzz = op := by rw [q3zz.2.2.1 27 (by decide) (by decide), f3zz.gA 27, (h5 bzz (by omega)).1]; exact hop
    have lt7 := q7zz.lt
    have n29 : ¬ op = 29 := fun ezz => by rw [ezz] at hopr; revert hopr; decide
    have n30zz : ¬ op = 30 := fun ezz => by rw [ezz] at hopr; revert hopr; decide
    obtain ⟨N'', o5zz, u1zz, u2zz, u3, u4zz, u5, u6, u7, u8⟩ := st_op (bzz := bzz) (czz := k4zz) (by omega) hbzz q4zz q5zz ⟨by rw [e27zz]; exact n29, by rw [e27zz]; exact n30zz⟩ (by rw [e27zz]; omega) q1zz
    refine ⟨N'', o5zz, u1zz, u5, q3zz.tr u2zz, k4zz + 1, by omega, by omega, ?_, ?_⟩
    · exact (hck.tr (q6zz.le (by omega))).tr (u3.le (by omega))
    · have cl := Sx.cl od (gA z7.2 5) (gA z7.2 6) (gA o5zz 24) (gA o5zz 25)
      refine cl.2.2.1 k1zz k1' k1'' k2zz k3zz k4zz n n' ?_ ?_ ?_
      · refine hSzz.eq (fun jzz x1zz x2zz => ?_) (fun jzz x1zz x2zz => ?_)
        · have w5 := d5zz jzz (by omega)
          have w8 := h8 jzz x2zz
          rw [w5.1, w5.2]; exact w8
        · have v1zz := u3 jzz (by omega)
          have v2 := q6zz jzz x2zz
          rw [v1zz.1, v1zz.2]; exact v2
      · refine q7zz.eq (fun jzz x1zz x2zz => d5zz jzz (by omega)) (fun jzz x1zz x2zz => u3 jzz x2zz)
      · rw [d3zz, u6, e27zz]; exact hBO
set_option maxHeartbeats 200000 in
theorem inn_lp {o : Ob} {bzz Bzz : Nat} {zzz : Int32} (eB : (gI o 29).toInt = (Bzz : Int)) (hBzz : Bzz ≤ 400) (hbzz : bzz < Bzz) (h31 : 31 ≤ (gA o 27 bzz).toInt) (hl : ∀ jzz, bzz < jzz → jzz < Bzz → (gA o 27 jzz).toInt < 31) : ∀ (Nzz : Nat) (v1zz v2 : Int32) (izz : Nat), v2.toInt = (izz : Int) → izz ≤ Bzz → (bzz < izz → v1zz = gA o 27 bzz) → lp_X9_inner_4 o Nzz (v1zz, v2) = some zzz → zzz = gA o 27 bzz := by
  intro Nzz
  induction Nzz with
  | zero => intro v1zz v2 izz _ _ _ hzz; cases hzz
  | succ Nzz ihzz =>
    intro v1zz v2 izz e2zz hizz hv hzz
    have hzz : lb_X9_inner_4 o (lp_X9_inner_4 o Nzz) v1zz v2 = some zzz := hzz
    unfold lb_X9_inner_4 at hzz
    by_cases czz : gI o 29 ≤ v2
    · have d := cv_le (a := (Bzz : Int)) (b := (izz : Int)) eB e2zz czz
      rw [← Option.some.inj (z_t hzz czz)]; exact hv (by omega)
    · have d := cv_nle (a := (Bzz : Int)) (b := (izz : Int)) eB e2zz czz
      obtain ⟨-, hzz⟩ := z_gd (z_f hzz czz)
      have i2zz : v2.toNatClampNeg = izz := tnc_eq e2zz
      rw [i2zz] at hzz
      have hst : ∀ s0zz : Int32, bk_X9_inner_33 o (lp_X9_inner_4 o Nzz) v2 s0zz = some zzz → (bzz < izz + 1 → s0zz = gA o 27 bzz) → zzz = gA o 27 bzz := by
        intro s0zz kzz hs
        unfold bk_X9_inner_33 at kzz
        obtain ⟨x2zz, ezz, kzz⟩ := z_lt kzz
        have t : x2zz.toInt = (izz : Int) + 1 := by rw [ezz]; exact i32_add e2zz (by decide) (by omega) (by omega)
        exact ihzz s0zz x2zz (izz + 1) (by omega) (by omega) hs kzz
      by_cases gzz : gA o 27 izz < (31 : Int32)
      · have g' := cv_lt (a := (gA o 27 izz).toInt) (b := 31) rfl (by decide) gzz
        refine hst v1zz (z_t hzz gzz) (fun qzz => hv ?_)
        rcases (show bzz < izz ∨ bzz = izz by omega) with uzz | uzz
        · exact uzz
        · rw [← uzz] at g'; omega
      · have g' := cv_nlt (a := (gA o 27 izz).toInt) (b := 31) rfl (by decide) gzz
        obtain ⟨-, hzz⟩ := z_gd (z_f hzz gzz)
        refine hst _ hzz (fun qzz => ?_)
        rcases (show bzz < izz ∨ bzz = izz by omega) with uzz | uzz
        · have := hl izz uzz (by omega); omega
        · rw [uzz]
set_option maxHeartbeats 200000 in
theorem inn_top {o : Ob} {bzz Bzz : Nat} {zzz : Int32} (eB : (gI o 29).toInt = (Bzz : Int)) (hBzz : Bzz ≤ 400) (hbzz : bzz < Bzz) (h31 : 31 ≤ (gA o 27 bzz).toInt) (hl : ∀ jzz, bzz < jzz → jzz < Bzz → (gA o 27 jzz).toInt < 31) (hzz : f_X9_inner o = some zzz) : zzz = gA o 27 bzz := inn_lp eB hBzz hbzz h31 hl zfu (-1) 0 0 (by decide) (Nat.zero_le _) (fun qzz => absurd qzz (Nat.not_lt_zero _)) hzz
def NoOp (o : Ob) : Prop := ¬ IsS o 43 ∧ ¬ IsS o 45 ∧ ¬ IsS o 42 ∧ ¬ IsS o 47 ∧ ¬ IsS o 37
set_option maxHeartbeats 200000 in
theorem bs_norm {rd o : Ob} {tst : Int32} {zzz : Int32 × Ob} (hTzz : TT rd o) (hzz : f_X9_behindSum o tst = some zzz) : ∃ op : Int32, bk_X9_behindSum_71 tst op o = some zzz ∧ ((IsS o 43 ∧ op = 20) ∨ (IsS o 45 ∧ op = 21) ∨ (IsS o 42 ∧ op = 22) ∨ (IsS o 47 ∧ op = 23) ∨ (IsS o 37 ∧ op = 24) ∨ (NoOp o ∧ op = -1)) := by
  unfold f_X9_behindSum at hzz
  obtain ⟨z1, e1zz, hzz⟩ := z_bd hzz
  rcases s9 hTzz e1zz with ⟨a1zz, b1⟩ | ⟨a1zz, b1⟩
  · obtain ⟨z2, e2zz, hzz⟩ := z_bd (z_t hzz a1zz)
    rcases s9 hTzz e2zz with ⟨a2, b2⟩ | ⟨a2, b2⟩
    · obtain ⟨z3, e3zz, hzz⟩ := z_bd (z_t hzz a2)
      rcases s9 hTzz e3zz with ⟨a3, b3⟩ | ⟨a3, b3⟩
      · obtain ⟨z4, e4zz, hzz⟩ := z_bd (z_t hzz a3)
        rcases s9 hTzz e4zz with ⟨a4, b4⟩ | ⟨a4, b4⟩
        · obtain ⟨z5, e5zz, hzz⟩ := z_bd (z_t hzz a4)
          rcases s9 hTzz e5zz with ⟨a5, b5⟩ | ⟨a5, b5⟩
          · exact ⟨-1, z_t hzz a5, Or.inr (Or.inr (Or.inr (Or.inr (Or.inr ⟨⟨b1, b2, b3, b4, b5⟩, rfl⟩))))⟩
          · exact ⟨24, z_f hzz a5, Or.inr (Or.inr (Or.inr (Or.inr (Or.inl ⟨b5, rfl⟩))))⟩
        · exact ⟨23, z_f hzz a4, Or.inr (Or.inr (Or.inr (Or.inl ⟨b4, rfl⟩)))⟩
      · exact ⟨22, z_f hzz a3, Or.inr (Or.inr (Or.inl ⟨b3, rfl⟩))⟩
    · exact ⟨21, z_f hzz a2, Or.inr (Or.inl ⟨b2, rfl⟩)⟩
  · exact ⟨20, z_f hzz a1zz, Or.inl ⟨b1, rfl⟩⟩
set_option maxHeartbeats 200000 in
theorem bs_op {o : Ob} {tst op : Int32} {zzz : Int32 × Ob} (hn : ¬ op = -1) (hzz : bk_X9_behindSum_71 tst op o = some zzz) : ∃ z20 z21 z22 : Ob, f_X9_settle o (bnd op) = some z20 ∧ f_X9_push z20 op 0 = some z21 ∧ f_X9_next z21 = some z22 ∧ zzz = (1, z22) := by
  unfold bk_X9_behindSum_71 at hzz
  obtain ⟨z19, e19zz, hzz⟩ := z_bd (z_f hzz hn)
  obtain ⟨z20, e20, hzz⟩ := z_bd hzz
  obtain ⟨z21, e21zz, hzz⟩ := z_bd hzz
  obtain ⟨z22, e22zz, hzz⟩ := z_bd hzz
  rw [bnd_eq e19zz] at e20
  exact ⟨z20, z21, z22, e20, e21zz, e22zz, (Option.some.inj hzz).symm⟩
def SumOut (L : Int) (od : Bool) (rd oc o : Ob) (zzz : Int32 × Ob × Ob) (yzz : Ob) (tst : Int32) (k1zz k2zz pzz bzz : Nat) (Ezz : Ob → Prop) : Prop := Bad rd oc o zzz yzz ∨ (zzz.1 = 1 ∧ ∃ (Nzz : Nat) (o' : Ob) (n k1' : Nat), lp_X9_readExpression_20 Nzz (tst, 3, o') = some yzz ∧ GoodT L od rd oc o zzz.2.1 zzz.2.2 o' k1zz k2zz pzz bzz n k1' ∧ Ezz o')
def SumH (rS : Ob → Ob → Int32 → Option (Int32 × Ob × Ob)) : Prop := ∀ (od : Bool) (rd oc o yzz : Ob) (k1zz k2zz pzz bzz Nzz : Nat) (tst p0zz : Int32) (zzz : Int32 × Ob × Ob), PSt od rd oc o k1zz k2zz pzz bzz → gI o 30 = p0zz → 0 ≤ p0zz.toInt → p0zz.toInt ≤ 8 → (bzz = 0 ∨ (bnd (gA o 27 (bzz - 1))).toInt < 5) → rS rd oc p0zz = some zzz → lp_X9_readExpression_20 Nzz (tst, 1, o) = some yzz → SumOut 5 od rd oc o zzz yzz tst k1zz k2zz pzz bzz NoOp
set_option maxHeartbeats 200000 in
theorem part_eq {rS : Ob → Ob → Int32 → Option (Int32 × Ob × Ob)} (hSzz : SumH rS) {od : Bool} {rd oc o yzz : Ob} {k1zz k2zz pzz bzz Nzz : Nat} {tst p0zz : Int32} {zzz : Int32 × Ob × Ob} (hzz : PSt od rd oc o k1zz k2zz pzz bzz) (h30 : gI o 30 = p0zz) (hp0 : 0 ≤ p0zz.toInt) (hp8 : p0zz.toInt ≤ 8) (h1 : f_X6_readPart rS 12 400 rd oc p0zz = some zzz) (hy : lp_X9_readExpression_20 Nzz (tst, 1, o) = some yzz) : SumOut 6 od rd oc o zzz yzz tst k1zz k2zz pzz bzz (fun _ => True) := by
  have hP := hzz
  obtain ⟨hTzz, h19, e5zz, hr, ek1, ek2, hp, eb, hbzz, hk2, hMzz⟩ := hzz
  obtain ⟨N1, zr, hr2, hy⟩ := ex_part h19 hy
  unfold f_X6_readPart at h1
  obtain ⟨zc, ezc, h1⟩ := z_bd h1
  rcases s8 hTzz ezc with ⟨q1zz, q2zz⟩ | ⟨q1zz, q2zz⟩
  · obtain ⟨z10, ez10, h1⟩ := z_bd (z_t h1 q1zz)
    obtain ⟨-, h1⟩ := z_gd h1
    have ez : zzz = z10 := (Option.some.inj h1).symm
    rw [ez]
    rcases single_eq hP q2zz ez10 hr2 hy with gzz | ⟨g1, g2, g3zz⟩
    · exact Or.inl gzz
    · rw [g2] at hy
      exact Or.inr ⟨g1, N1, zr.2, 1, k1zz + 1, hy, g3zz.t, trivial⟩
  · have h1 := z_f h1 q1zz
    unfold f_X9_readPart at hr2
    obtain ⟨zs, ezs, hr2⟩ := z_bd hr2
    rcases s9 hTzz ezs with ⟨u1zz, u2zz⟩ | ⟨u1zz, -⟩
    · exact absurd q2zz u2zz
    · obtain ⟨z9, ez9, hr2⟩ := z_bd (z_f hr2 u1zz)
      have ezr : zr = (1, z9) := (Option.some.inj hr2).symm
      rw [ezr] at hy
      unfold f_X9_openBracket at ez9
      obtain ⟨azz, bb, ea, ebb, hab, hbb, hx⟩ := hTzz.2.2.2.2
      have hbb' : bb = azz + 1 := by
        rcases hx with ⟨uzz, -⟩ | ⟨uzz, -⟩ | ⟨uzz, -⟩ | ⟨-, uzz, -⟩
        · exact absurd (uzz.symm.trans q2zz.1) (by decide)
        · exact absurd (uzz.symm.trans q2zz.1) (by decide)
        · exact absurd (uzz.symm.trans q2zz.1) (by decide)
        · exact uzz
      have h400 := hTzz.1.2.2.2
      rw [h30] at ez9
      by_cases c8zz : p0zz < (8 : Int32)
      · have d8zz := cv_lt (a := p0zz.toInt) (b := 8) rfl (by decide) c8zz
        have h1 := z_t h1 c8zz
        obtain ⟨zA, ezA, h1⟩ := z_bd h1
        obtain ⟨z3, ez3, h1⟩ := z_bd h1
        have ez9 := z_f ez9 (fun czz => by have czz := cv_le (a := 8) (b := p0zz.toInt) (by decide) rfl czz; omega)
        unfold bk_X9_openBracket_15 at ez9
        obtain ⟨w1zz, ew1, ez9⟩ := z_bd ez9
        have ew1 := mu_ok h19 (by decide) ew1
        obtain ⟨T1, T2, T3, T4⟩ := tk_eq hTzz.1 hTzz.2.2.2.1 (by omega) (by omega) ezA ew1
        have k19 : gI w1zz 19 = 0 := (T3.1 19 (by decide) (by decide) (by decide)).trans h19
        have ez9 := z_t ez9 k19
        obtain ⟨w2zz, ew2, ez9⟩ := z_lt ez9
        obtain ⟨w3zz, ew3, ez9⟩ := z_bd ez9
        have e9zz : z9 = w3zz := (Option.some.inj ez9).symm
        rw [e9zz] at hy
        obtain ⟨p1zz, p2zz, p3zz, p4zz, p5zz, p6zz, p7zz, p8zz, p9zz⟩ := push9 (bzz := bzz) (by rw [ew2]; exact (congrArg Int32.toInt (T3.1 29 (by decide) (by decide) (by decide))).trans eb) hbzz ew3
        have k30 : gI w2zz 30 = p0zz + 1 := by rw [ew2]; show gI w1zz 30 + 1 = _; rw [T3.1 30 (by decide) (by decide) (by decide), h30]
        have t30 : (p0zz + 1).toInt = p0zz.toInt + 1 := i32_add rfl (by decide) (by omega) (by omega)
        have i3zz : ∀ izz, izz ≠ 14 → izz ≠ 15 → izz ≠ 16 → izz ≠ 29 → izz ≠ 30 → gI w3zz izz = gI o izz := fun izz x1zz x2zz x3 x4zz x5zz => by
          rw [p6zz izz x4zz, ew2]; exact (fset_ne x5zz).trans (T3.1 izz x1zz x2zz x3)
        have jA : ∀ izz, izz ≠ 27 → izz ≠ 28 → gA w3zz izz = gA o izz := fun izz x1zz x2zz => by
          rw [p7zz izz x1zz x2zz, ew2]; exact T3.gA izz
        have jM : w3zz.2.2.2 = o.2.2.2 := by rw [p9zz, ew2]; exact congrArg Prod.snd T3.2.2
        have rr : RF o w3zz := ⟨fun izz x1zz x2zz x3 _ _ _ _ x4zz x5zz => i3zz izz x1zz x2zz x3 x4zz x5zz, fun izz _ _ x1zz x2zz => jA izz x1zz x2zz, jM⟩
        have TT3 : TT zA w3zz := T1.cg rfl rfl rfl rfl rfl rfl (by rw [p6zz 13 (by decide), ew2]; rfl) (by rw [p7zz 12 (by decide) (by decide), ew2]; rfl) (by rw [p6zz 14 (by decide), ew2]; rfl) (by rw [p6zz 15 (by decide), ew2]; rfl) (by rw [p6zz 16 (by decide), ew2]; rfl) ((congrFun p8zz 17).trans (by rw [ew2]; rfl))
        have k14 : gI w3zz 14 = gI w1zz 14 := by rw [p6zz 14 (by decide), ew2]; rfl
        have cfA : CF rd oc zA oc := T2.cc
        have hPS : PSt od zA oc w3zz k1zz k2zz (pzz + 1) (bzz + 1) := ⟨TT3, by rw [i3zz 19 (by decide) (by decide) (by decide) (by decide) (by decide)]; exact h19, by rw [T2.1 5 (by decide) (by decide) (by decide) (by decide), i3zz 26 (by decide) (by decide) (by decide) (by decide) (by decide)]; exact e5zz, by rw [i3zz 26 (by decide) (by decide) (by decide) (by decide) (by decide)]; exact hr, ek1, by rw [i3zz 23 (by decide) (by decide) (by decide) (by decide) (by decide)]; exact ek2, by rw [k14]; omega, by omega, by omega, hk2, hMzz.fr (oc := oc) (oc' := oc) cfA rr⟩
        have b32zz : (bnd (gA w3zz 27 bzz)).toInt = 0 := by rw [p3zz]; decide
        have ck0 : ckp k2zz o w3zz := fun jzz hj => by rw [jA 24 (by decide) (by decide), jA 25 (by decide) (by decide)]; exact ⟨rfl, rfl⟩
        rcases hSzz od zA oc w3zz yzz k1zz k2zz (pzz + 1) (bzz + 1) N1 tst (p0zz + 1) z3 hPS (by rw [p6zz 30 (by decide)]; exact k30) (by omega) (by omega) (Or.inr (by rw [Nat.add_sub_cancel, b32zz]; decide)) ez3 hy with gzz | ⟨g1, N2, o4zz, n, k1', hy4, gzz, gno⟩
        · have hz0 : z3.1 = 0 := gzz.1
          have ez : zzz = z3 := by rw [← Option.some.inj (z_t h1 hz0), ← hz0]
          rw [ez]; exact Or.inl (gzz.tr rr cfA)
        · have h1 := z_f h1 (by rw [g1]; decide)
          obtain ⟨k2', b', s0zz, s1zz, s2zz, s3zz, s4zz, s5, s6zz, s7, s8', s9', s10, s11⟩ := gzz
          obtain ⟨zT, z19, ze5, zr', zk1, zk2, zp, zb, zb', zk, zM⟩ := s1zz
          obtain ⟨N3, zb3, hbs, hy4⟩ := ex_sum z19 hy4
          obtain ⟨op, hb71, hop⟩ := bs_norm zT hbs
          have eop : op = -1 := by
            rcases hop with ⟨xzz, -⟩ | ⟨xzz, -⟩ | ⟨xzz, -⟩ | ⟨xzz, -⟩ | ⟨xzz, -⟩ | ⟨-, xzz⟩
            · exact absurd xzz gno.1
            · exact absurd xzz gno.2.1
            · exact absurd xzz gno.2.2.1
            · exact absurd xzz gno.2.2.2.1
            · exact absurd xzz gno.2.2.2.2
            · exact xzz
          rw [eop] at hb71
          unfold bk_X9_behindSum_71 at hb71
          obtain ⟨z6, ez6, hb71⟩ := z_bd (z_t hb71 rfl)
          have e32 : gA o4zz 27 bzz = 32 := by rw [(s5 bzz (by omega)).1]; exact p3zz
          have hz6 := inn_top (bzz := bzz) zb zb' (by omega) (by rw [e32]; decide) (fun jzz x1zz x2zz => by have := s6zz jzz (by omega) x2zz; omega) ez6
          have hb71 := z_t hb71 (by rw [hz6]; exact e32)
          obtain ⟨z14zz, ez14, hb71⟩ := z_bd hb71
          obtain ⟨z15, ez15, hb71⟩ := z_bd hb71
          obtain ⟨zs5, ezs5, h1⟩ := z_bd h1
          have cf4 : CF rd oc z3.2.1 z3.2.2 := cfA.tr s4zz
          have rr4 : RF o o4zz := rr.tr s3zz
          rcases s8 zT ezs5 with ⟨v1zz, v2⟩ | ⟨v1zz, v2⟩ <;> rcases s9 zT ez14 with ⟨w1', w2'⟩ | ⟨w1', w2'⟩
          · rw [w1'] at ez15
            have e15zz := mu_no z19 ez15
            have k19' : gI z15 19 = 1 := by rw [e15zz]; rfl
            have hb71 := Option.some.inj (z_f hb71 (by rw [k19']; decide))
            rw [← hb71] at hy4
            obtain ⟨z6', ez6', h1⟩ := z_bd (z_t h1 v1zz)
            obtain ⟨-, h1⟩ := z_gd h1
            obtain ⟨x1zz, x2zz⟩ := stop8 ez6'
            rw [← Option.some.inj h1, x1zz, x2zz]
            exact Or.inl ((bad_no (oc := z3.2.2) zT e15zz hy4 CF.stop).tr rr4 cf4)
          · exact absurd w2' v2
          · exact absurd v2 w2'
          · have ez15 := mu_ok z19 w1' ez15
            obtain ⟨zBzz, ezB, h1⟩ := z_bd (z_f h1 v1zz)
            obtain ⟨a5, bb5, ea5, ebb5, hab5, hbb5, hx5⟩ := zT.2.2.2.2
            obtain ⟨U1zz, U2, U3, U4⟩ := tk_eq zT.1 zT.2.2.2.1 (by omega) (by omega) ezB ez15
            have k19' : gI z15 19 = 0 := (U3.1 19 (by decide) (by decide) (by decide)).trans z19
            obtain ⟨z16, ez16, hb71⟩ := z_bd (z_t hb71 k19')
            obtain ⟨o17, g17, hb71⟩ := z_lt hb71
            obtain ⟨o18, g18, hb71⟩ := z_lt hb71
            have ezb3 : zb3 = (3, o18) := (Option.some.inj hb71).symm
            rw [ezb3] at hy4
            obtain ⟨y1', y2', k3zz, y3, y4, y5, y6⟩ := s11.done U3 (by omega) (by decide) (by decide) (Or.inr (by rw [Nat.add_sub_cancel, e32]; decide)) ez16
            have i18 : ∀ izz, izz ≠ 29 → izz ≠ 30 → gI o18 izz = gI z16 izz := fun izz x1zz x2zz => by rw [g18, g17]; exact (fset_ne x2zz).trans (fset_ne x1zz)
            have A18 : ∀ izz, gA o18 izz = gA z16 izz := fun izz => by rw [g18, g17]; rfl
            have r18 : RF z16 o18 := ⟨fun izz _ _ _ _ _ _ _ x1zz x2zz => i18 izz x1zz x2zz, fun izz _ _ _ _ => A18 izz, by rw [g18, g17]; rfl⟩
            have rr18 : RF o o18 := rr4.tr (U3.rr.tr (y2'.rr.tr r18))
            have cfB : CF rd oc zBzz z3.2.2 := cf4.tr U2.cc
            have k29 : (gI o18 29).toInt = (bzz : Int) := by
              have : gI o18 29 = gI z16 29 - 1 := by rw [g18, g17]; rfl
              rw [this]
              have := i32_sub (x := gI z16 29) (y := 1) (b := 1) y1' (by decide) (by omega) (by omega)
              omega
            have k30' : gI o18 30 = gI o 30 := by
              have e1zz : gI o18 30 = gI z16 30 - 1 := by rw [g18, g17]; rfl
              have e2zz : gI z16 30 = p0zz + 1 := by rw [y2'.1 30 (by decide) (by decide), U3.1 30 (by decide) (by decide) (by decide), s7, p6zz 30 (by decide)]; exact k30
              rw [e1zz, e2zz, h30]
              exact Int32.toInt_inj.mp (by have := i32_sub (x := p0zz + 1) (y := 1) (b := 1) t30 (by decide) (by omega) (by omega); omega)
            have i26 : gI o18 26 = gI o4zz 26 := (i18 26 (by decide) (by decide)).trans ((y2'.1 26 (by decide) (by decide)).trans (U3.1 26 (by decide) (by decide) (by decide)))
            have T18 : TT zBzz o18 := U1zz.cg rfl rfl rfl rfl rfl rfl ((i18 13 (by decide) (by decide)).trans (y2'.1 13 (by decide) (by decide))) ((A18 12).trans (y2'.2.2.1 12 (by decide) (by decide))) ((i18 14 (by decide) (by decide)).trans (y2'.1 14 (by decide) (by decide))) ((i18 15 (by decide) (by decide)).trans (y2'.1 15 (by decide) (by decide))) ((i18 16 (by decide) (by decide)).trans (y2'.1 16 (by decide) (by decide))) (by rw [g18, g17]; exact congrFun y2'.2.1 17)
            have k14' : gI o18 14 = gI z15 14 := (i18 14 (by decide) (by decide)).trans (y2'.1 14 (by decide) (by decide))
            refine Or.inr ⟨by rw [← Option.some.inj h1], N3, o18, n, k1', hy4, ?_, trivial⟩
            rw [← Option.some.inj h1]
            refine Good1.t (k2' := k3zz) ⟨⟨T18, ?_, ?_, ?_, zk1, ?_, ?_, k29, hbzz, y4, hMzz.fr cfB rr18⟩, rr18, cfB, fun jzz hj => ?_, k30', fun jzz hj => s8' jzz hj, fun jzz hj => ?_, ?_, ?_⟩
            · rw [i18 19 (by decide) (by decide), y2'.1 19 (by decide) (by decide)]; exact k19'
            · rw [U2.1 5 (by decide) (by decide) (by decide) (by decide), i26]; exact ze5
            · rw [i26]; exact zr'
            · rw [i18 23 (by decide) (by decide)]; exact y3
            · rw [k14']; omega
            · rw [A18 27, A18 28, y2'.2.2.1 27 (by decide) (by decide), y2'.2.2.1 28 (by decide) (by decide), U3.gA 27, U3.gA 28, (s5 jzz (by omega)).1, (s5 jzz (by omega)).2]
              have u27 : gA w2zz 27 = gA o 27 := by rw [ew2]; exact T3.gA 27
              have u28 : gA w2zz 28 = gA o 28 := by rw [ew2]; exact T3.gA 28
              have u5 := p5zz jzz (by omega)
              rw [u27, u28] at u5; exact u5
            · rw [A18 24, A18 25, (y5 jzz hj).1, (y5 jzz hj).2]; exact ck0 jzz hj
            · rw [i26, s10, i3zz 26 (by decide) (by decide) (by decide) (by decide) (by decide)]
            · rw [A18 24, A18 25]; exact y6
      · have d8zz := cv_nlt (a := p0zz.toInt) (b := 8) rfl (by decide) c8zz
        have ez9 := z_t ez9 (Int32.le_iff_toInt_le.mpr (by have : (8 : Int32).toInt = 8 := (by decide); omega))
        unfold bk_X9_openBracket_15 at ez9
        obtain ⟨w1zz, ew1, ez9⟩ := z_bd ez9
        have e1zz := mu_no h19 ew1
        have k19 : gI w1zz 19 = 1 := by rw [e1zz]; rfl
        have e9zz : z9 = w1zz := (Option.some.inj (z_f ez9 (by rw [k19]; decide))).symm
        obtain ⟨z8', ez8, h1⟩ := z_bd (z_f h1 c8zz)
        obtain ⟨-, h1⟩ := z_gd h1
        obtain ⟨x1zz, x2zz⟩ := stop8 ez8
        rw [← Option.some.inj h1, x1zz, x2zz]
        exact Or.inl (bad_no hTzz (e9zz.trans e1zz) hy CF.stop)
def NoMul (o : Ob) : Prop := ¬ IsS o 42 ∧ ¬ IsS o 47 ∧ ¬ IsS o 37
set_option maxHeartbeats 200000 in
theorem IsS.lt {rd o : Ob} {czz : Int32} (hzz : TT rd o) (wzz : IsS o czz) : (gI o 14).toInt < 400 := by
  obtain ⟨azz, bzz, ea, eb, hab, hbzz, hx⟩ := hzz.2.2.2.2
  have h4 := hzz.1.2.2.2
  rcases hx with ⟨uzz, -⟩ | ⟨uzz, -⟩ | ⟨uzz, -⟩ | ⟨-, uzz, -⟩
  · exact absurd (uzz.symm.trans wzz.1) (by decide)
  · exact absurd (uzz.symm.trans wzz.1) (by decide)
  · exact absurd (uzz.symm.trans wzz.1) (by decide)
  · omega
set_option maxHeartbeats 200000 in
theorem GoodT.tt {L : Int} {od : Bool} {rd oc o rd' oc' o' : Ob} {k1zz k2zz pzz bzz n k1' : Nat} (hzz : GoodT L od rd oc o rd' oc' o' k1zz k2zz pzz bzz n k1') : TT rd' o' ∧ gI o' 19 = 0 ∧ ((k1' + pzz : Nat) : Int) ≤ (gI o' 14).toInt ∧ (∀ jzz, jzz < k1zz → gA oc' 5 jzz = gA oc 5 jzz ∧ gA oc' 6 jzz = gA oc 6 jzz) ∧ k1zz ≤ k1' := by
  obtain ⟨k2', b', h0, h1, h2, h3, h4, h5, h6, h7, h8, -⟩ := hzz
  exact ⟨h1.1, h1.2.1, h1.2.2.2.2.2.2.1, h8, h0⟩
set_option maxHeartbeats 200000 in
theorem term_lp {rS : Ob → Ob → Int32 → Option (Int32 × Ob × Ob)} (hSzz : SumH rS) {od : Bool} {rd oc o yzz : Ob} {k1zz k2zz pzz bzz : Nat} {tst p0zz : Int32} {zzz : Int32 × Ob × Ob} (h30 : gI o 30 = p0zz) (hp0 : 0 ≤ p0zz.toInt) (hp8 : p0zz.toInt ≤ 8) (hbzz : bzz ≤ 400) (hbase : bzz = 0 ∨ (bnd (gA o 27 (bzz - 1))).toInt < 6) :
    ∀ (Nzz N2 : Nat) (v2 : Int32) (rd1 oc1 o1 : Ob) (n k1' : Nat), GoodT 6 od rd oc o rd1 oc1 o1 k1zz k2zz pzz bzz n k1' → 0 ≤ v2.toInt → v2.toInt ≤ (k1' : Int) → lp_X6_readTerm_12 rS 12 400 Nzz (p0zz, v2, rd1, oc1) = some zzz → lp_X9_readExpression_20 N2 (tst, 3, o1) = some yzz → SumOut 6 od rd oc o zzz yzz tst k1zz k2zz pzz bzz NoMul := by
  intro Nzz
  induction Nzz with
  | zero => intro N2 v2 rd1 oc1 o1 n k1' _ _ _ hzz; cases hzz
  | succ Nzz ihzz =>
    intro N2 v2 rd1 oc1 o1 n k1' gzz hv0 hv h1 hy
    obtain ⟨hTzz, h19, hpos, hk13, hk11⟩ := gzz.tt
    have h1 : lb_X6_readTerm_12 rS 12 400 (lp_X6_readTerm_12 rS 12 400 Nzz) p0zz v2 rd1 oc1 = some zzz := h1
    unfold lb_X6_readTerm_12 at h1
    have hend : NoMul o1 → zzz = (1, rd1, oc1) → SumOut 6 od rd oc o zzz yzz tst k1zz k2zz pzz bzz NoMul := fun qzz ezz => by rw [ezz]; exact Or.inr ⟨rfl, N2, o1, n, k1', hy, gzz, qzz⟩
    by_cases c4zz : (400 : Int32) ≤ v2
    · have d4zz := cv_le (a := 400) (b := v2.toInt) (by decide) rfl c4zz
      refine hend ⟨fun wzz => ?_, fun wzz => ?_, fun wzz => ?_⟩ (Option.some.inj (z_t h1 c4zz)).symm <;> (have := IsS.lt hTzz wzz; omega)
    · have h1 := z_f h1 c4zz
      have hgo : ∀ s op : Int32, opB s op → (op = 22 ∨ op = 23 ∨ op = 24) → gI o1 16 = 3 → (∃ z3 : Int32 × Ob, f_X9_behindSum o1 tst = some z3 ∧ bk_X9_behindSum_71 tst op o1 = some z3 ∧ ∃ N3, lp_X9_readExpression_20 N3 (tst, z3.1, z3.2) = some yzz) → bk_X6_readTerm_76 rS 12 400 (lp_X6_readTerm_12 rS 12 400 Nzz) p0zz v2 s rd1 oc1 = some zzz → SumOut 6 od rd oc o zzz yzz tst k1zz k2zz pzz bzz NoMul := by
        intro s op hso hop h16zz hz3 kzz
        obtain ⟨z3, -, hb71, N3, hy3⟩ := hz3
        have hbn : (bnd op).toInt = 6 := by rcases hop with ezz | ezz | ezz <;> rw [ezz] <;> decide
        have hopr : 20 ≤ op.toInt ∧ op.toInt ≤ 24 := by rcases hop with ezz | ezz | ezz <;> rw [ezz] <;> decide
        have hn1 : ¬ op = -1 := by rcases hop with ezz | ezz | ezz <;> rw [ezz] <;> decide
        obtain ⟨z20, z21, z22, e20, e21zz, e22zz, e3zz⟩ := bs_op hn1 hb71
        rw [e3zz] at hy3
        unfold bk_X6_readTerm_76 at kzz
        obtain ⟨z5, ez5, kzz⟩ := z_bd kzz
        obtain ⟨z6, ez6, kzz⟩ := z_bd kzz
        obtain ⟨k3zz, i1zz, i2zz, i3zz, i4zz, i5zz, i6zz, i7zz, i8zz, i9zz, i10zz⟩ := op_in gzz hbzz hopr ⟨by omega, by omega⟩ (by rw [hbn]; exact hbase) h16zz e20 e21zz e22zz ez5
        rcases part_eq hSzz i1zz (i6zz.trans h30) hp0 hp8 ez6 hy3 with gb | ⟨g1, N4zz, o4zz, n', k1'', hy4, g4, -⟩
        · have ezz : zzz = z6 := by rw [← Option.some.inj (z_t kzz gb.1), ← gb.1]
          rw [ezz]; exact Or.inl (gb.tr i2zz i3zz)
        · have kzz := z_f kzz (by rw [g1]; decide)
          obtain ⟨z7, ez7, kzz⟩ := z_bd kzz
          obtain ⟨x8, e8, kzz⟩ := z_lt kzz
          have g5zz := op_out (L := 6) i9zz i2zz i3zz i4zz i5zz i6zz i7zz i8zz i10zz hk13 g4 (by omega) (by omega) hopr hso ez7 rfl
          have kk := g4.tt.2.2.2.2
          have h400 := hTzz.1.2.2.2
          obtain ⟨aT, bT, xT1, xT2, xT3, xT4, -⟩ := hTzz.2.2.2.2
          have t8 : x8.toInt = v2.toInt + 1 := by rw [e8]; exact i32_add rfl (by decide) (by omega) (by omega)
          exact ihzz N4zz x8 z6.2.1 z7.2 o4zz (n + n') (k1'' + 1) g5zz (by omega) (by omega) kzz hy4
      obtain ⟨N3, z3, hbs, hy3⟩ := ex_sum h19 hy
      obtain ⟨op, hb71, hop⟩ := bs_norm hTzz hbs
      obtain ⟨z2, e2zz, h1⟩ := z_bd h1
      have h46 : ∀ czz : Int32, IsS o1 czz → czz = 42 ∨ czz = 47 ∨ czz = 37 → bk_X6_readTerm_46 rS 12 400 (lp_X6_readTerm_12 rS 12 400 Nzz) p0zz v2 rd1 oc1 = some zzz → SumOut 6 od rd oc o zzz yzz tst k1zz k2zz pzz bzz NoMul := by
        intro czz hczz hcc kzz
        unfold bk_X6_readTerm_46 at kzz
        obtain ⟨za, ea, kzz⟩ := z_bd kzz
        have hop' : (czz = 42 ∧ op = 22) ∨ (czz = 47 ∧ op = 23) ∨ (czz = 37 ∧ op = 24) := by
          have no : ∀ d : Int32, ¬ czz = d → ¬ IsS o1 d := fun d hdzz => hczz.ne hdzz
          rcases hcc with ezz | ezz | ezz <;> subst ezz
          · rcases hop with ⟨xzz, -⟩ | ⟨xzz, -⟩ | ⟨-, xzz⟩ | ⟨xzz, -⟩ | ⟨xzz, -⟩ | ⟨xzz, -⟩
            · exact absurd xzz (no _ (by decide))
            · exact absurd xzz (no _ (by decide))
            · exact Or.inl ⟨rfl, xzz⟩
            · exact absurd xzz (no _ (by decide))
            · exact absurd xzz (no _ (by decide))
            · exact absurd hczz xzz.2.2.1
          · rcases hop with ⟨xzz, -⟩ | ⟨xzz, -⟩ | ⟨xzz, -⟩ | ⟨-, xzz⟩ | ⟨xzz, -⟩ | ⟨xzz, -⟩
            · exact absurd xzz (no _ (by decide))
            · exact absurd xzz (no _ (by decide))
            · exact absurd xzz (no _ (by decide))
            · exact Or.inr (Or.inl ⟨rfl, xzz⟩)
            · exact absurd xzz (no _ (by decide))
            · exact absurd hczz xzz.2.2.2.1
          · rcases hop with ⟨xzz, -⟩ | ⟨xzz, -⟩ | ⟨xzz, -⟩ | ⟨xzz, -⟩ | ⟨-, xzz⟩ | ⟨xzz, -⟩
            · exact absurd xzz (no _ (by decide))
            · exact absurd xzz (no _ (by decide))
            · exact absurd xzz (no _ (by decide))
            · exact absurd xzz (no _ (by decide))
            · exact Or.inr (Or.inr ⟨rfl, xzz⟩)
            · exact absurd hczz xzz.2.2.2.2
        rcases s8 hTzz ea with ⟨q1zz, q2zz⟩ | ⟨q1zz, q2zz⟩
        · obtain ⟨zb, eb', kzz⟩ := z_bd (z_t kzz q1zz)
          rcases s8 hTzz eb' with ⟨r1zz, r2⟩ | ⟨r1zz, r2⟩
          · have ezz : op = 24 := by
              rcases hop' with ⟨xzz, -⟩ | ⟨xzz, -⟩ | ⟨-, xzz⟩
              · rw [xzz] at hczz; exact absurd hczz q2zz
              · rw [xzz] at hczz; exact absurd hczz r2
              · exact xzz
            exact hgo 9 op (Or.inr (Or.inr (Or.inr (Or.inr ⟨rfl, ezz⟩)))) (Or.inr (Or.inr ezz)) hczz.1 ⟨z3, hbs, hb71, N3, hy3⟩ (z_t kzz r1zz)
          · have ezz : op = 23 := by
              rcases hop' with ⟨xzz, -⟩ | ⟨-, xzz⟩ | ⟨xzz, -⟩
              · rw [xzz] at hczz; exact absurd hczz q2zz
              · exact xzz
              · rw [xzz] at hczz; exact absurd r2 (hczz.ne (by decide))
            exact hgo 8 op (Or.inr (Or.inr (Or.inr (Or.inl ⟨rfl, ezz⟩)))) (Or.inr (Or.inl ezz)) hczz.1 ⟨z3, hbs, hb71, N3, hy3⟩ (z_f kzz r1zz)
        · have ezz : op = 22 := by
            rcases hop' with ⟨-, xzz⟩ | ⟨xzz, -⟩ | ⟨xzz, -⟩
            · exact xzz
            · rw [xzz] at hczz; exact absurd q2zz (hczz.ne (by decide))
            · rw [xzz] at hczz; exact absurd q2zz (hczz.ne (by decide))
          exact hgo 7 op (Or.inr (Or.inr (Or.inl ⟨rfl, ezz⟩))) (Or.inl ezz) hczz.1 ⟨z3, hbs, hb71, N3, hy3⟩ (z_f kzz q1zz)
      rcases s8 hTzz e2zz with ⟨q1zz, q2zz⟩ | ⟨q1zz, q2zz⟩
      · obtain ⟨z9, e9zz, h1⟩ := z_bd (z_t h1 q1zz)
        rcases s8 hTzz e9zz with ⟨r1zz, r2⟩ | ⟨r1zz, r2⟩
        · obtain ⟨z10, e10zz, h1⟩ := z_bd (z_t h1 r1zz)
          rcases s8 hTzz e10zz with ⟨u1zz, u2zz⟩ | ⟨u1zz, u2zz⟩
          · exact hend ⟨q2zz, r2, u2zz⟩ (Option.some.inj (z_t h1 u1zz)).symm
          · exact h46 37 u2zz (Or.inr (Or.inr rfl)) (z_f h1 u1zz)
        · exact h46 47 r2 (Or.inr (Or.inl rfl)) (z_f h1 r1zz)
      · exact h46 42 q2zz (Or.inl rfl) (z_f h1 q1zz)
set_option maxHeartbeats 200000 in
theorem term_eq {rS : Ob → Ob → Int32 → Option (Int32 × Ob × Ob)} (hSzz : SumH rS) {od : Bool} {rd oc o yzz : Ob} {k1zz k2zz pzz bzz Nzz : Nat} {tst p0zz : Int32} {zzz : Int32 × Ob × Ob} (hzz : PSt od rd oc o k1zz k2zz pzz bzz) (h30 : gI o 30 = p0zz) (hp0 : 0 ≤ p0zz.toInt) (hp8 : p0zz.toInt ≤ 8) (hbase : bzz = 0 ∨ (bnd (gA o 27 (bzz - 1))).toInt < 6) (h1 : f_X6_readTerm rS 12 400 rd oc p0zz = some zzz) (hy : lp_X9_readExpression_20 Nzz (tst, 1, o) = some yzz) : SumOut 6 od rd oc o zzz yzz tst k1zz k2zz pzz bzz NoMul := by
  unfold f_X6_readTerm at h1
  obtain ⟨z1, ez1, h1⟩ := z_bd h1
  rcases part_eq hSzz hzz h30 hp0 hp8 ez1 hy with gzz | ⟨g1, N4zz, o4zz, n, k1', hy4, g4, -⟩
  · have ezz : zzz = z1 := by rw [← Option.some.inj (z_t h1 gzz.1), ← gzz.1]
    rw [ezz]; exact Or.inl gzz
  · exact term_lp hSzz h30 hp0 hp8 hzz.2.2.2.2.2.2.2.2.1 hbase zfu N4zz 0 _ _ o4zz n k1' g4 (by decide) (by have : (0 : Int32).toInt = 0 := (by decide); omega) (z_f h1 (by rw [g1]; decide)) hy4
set_option maxHeartbeats 200000 in
theorem sum_lp {rS : Ob → Ob → Int32 → Option (Int32 × Ob × Ob)} (hSzz : SumH rS) {od : Bool} {rd oc o yzz : Ob} {k1zz k2zz pzz bzz : Nat} {tst p0zz : Int32} {zzz : Int32 × Ob × Ob} (h30 : gI o 30 = p0zz) (hp0 : 0 ≤ p0zz.toInt) (hp8 : p0zz.toInt ≤ 8) (hbzz : bzz ≤ 400) (hbase : bzz = 0 ∨ (bnd (gA o 27 (bzz - 1))).toInt < 5) :
    ∀ (Nzz N2 : Nat) (v2 : Int32) (rd1 oc1 o1 : Ob) (n k1' : Nat), GoodT 5 od rd oc o rd1 oc1 o1 k1zz k2zz pzz bzz n k1' → NoMul o1 → 0 ≤ v2.toInt → v2.toInt ≤ (k1' : Int) → lp_X6_readSum_12 rS 12 400 Nzz (p0zz, v2, rd1, oc1) = some zzz → lp_X9_readExpression_20 N2 (tst, 3, o1) = some yzz → SumOut 5 od rd oc o zzz yzz tst k1zz k2zz pzz bzz NoOp := by
  intro Nzz
  induction Nzz with
  | zero => intro N2 v2 rd1 oc1 o1 n k1' _ _ _ _ hzz; cases hzz
  | succ Nzz ihzz =>
    intro N2 v2 rd1 oc1 o1 n k1' gzz hnm hv0 hv h1 hy
    obtain ⟨hTzz, h19, hpos, hk13, hk11⟩ := gzz.tt
    have h1 : lb_X6_readSum_12 rS 12 400 (lp_X6_readSum_12 rS 12 400 Nzz) p0zz v2 rd1 oc1 = some zzz := h1
    unfold lb_X6_readSum_12 at h1
    have hend : ¬ IsS o1 43 → ¬ IsS o1 45 → zzz = (1, rd1, oc1) → SumOut 5 od rd oc o zzz yzz tst k1zz k2zz pzz bzz NoOp := fun qzz q' ezz => by rw [ezz]; exact Or.inr ⟨rfl, N2, o1, n, k1', hy, gzz, qzz, q', hnm⟩
    by_cases c4zz : (400 : Int32) ≤ v2
    · have d4zz := cv_le (a := 400) (b := v2.toInt) (by decide) rfl c4zz
      refine hend (fun wzz => ?_) (fun wzz => ?_) (Option.some.inj (z_t h1 c4zz)).symm <;> (have := IsS.lt hTzz wzz; omega)
    · have h1 := z_f h1 c4zz
      obtain ⟨N3, z3, hbs, hy3⟩ := ex_sum h19 hy
      obtain ⟨op, hb71, hop⟩ := bs_norm hTzz hbs
      have hgo : ∀ s : Int32, opB s op → (op = 20 ∨ op = 21) → gI o1 16 = 3 → bk_X6_readSum_52 rS 12 400 (lp_X6_readSum_12 rS 12 400 Nzz) p0zz v2 s rd1 oc1 = some zzz → SumOut 5 od rd oc o zzz yzz tst k1zz k2zz pzz bzz NoOp := by
        intro s hso hop h16zz kzz
        have hbn : (bnd op).toInt = 5 := by rcases hop with ezz | ezz <;> rw [ezz] <;> decide
        have hopr : 20 ≤ op.toInt ∧ op.toInt ≤ 24 := by rcases hop with ezz | ezz <;> rw [ezz] <;> decide
        have hn1 : ¬ op = -1 := by rcases hop with ezz | ezz <;> rw [ezz] <;> decide
        obtain ⟨z20, z21, z22, e20, e21zz, e22zz, e3zz⟩ := bs_op hn1 hb71
        have hy3 := hy3
        rw [e3zz] at hy3
        unfold bk_X6_readSum_52 at kzz
        obtain ⟨z4, ez4, kzz⟩ := z_bd kzz
        obtain ⟨z5, ez5, kzz⟩ := z_bd kzz
        obtain ⟨k3zz, i1zz, i2zz, i3zz, i4zz, i5zz, i6zz, i7zz, i8zz, i9zz, i10zz⟩ := op_in gzz hbzz hopr ⟨by omega, by omega⟩ (by rw [hbn]; exact hbase) h16zz e20 e21zz e22zz ez4
        rcases term_eq hSzz i1zz (i6zz.trans h30) hp0 hp8 (Or.inr (by rw [Nat.add_sub_cancel, i5zz, hbn]; decide)) ez5 hy3 with gb | ⟨g1, N4zz, o4zz, n', k1'', hy4, g4, gmzz⟩
        · have ezz : zzz = z5 := by rw [← Option.some.inj (z_t kzz gb.1), ← gb.1]
          rw [ezz]; exact Or.inl (gb.tr i2zz i3zz)
        · have kzz := z_f kzz (by rw [g1]; decide)
          obtain ⟨z6, ez6, kzz⟩ := z_bd kzz
          obtain ⟨x7, e7zz, kzz⟩ := z_lt kzz
          have g5zz := op_out (L := 5) i9zz i2zz i3zz i4zz i5zz i6zz i7zz i8zz i10zz hk13 g4 (by omega) (by omega) hopr hso ez6 rfl
          have kk := g4.tt.2.2.2.2
          have h400 := hTzz.1.2.2.2
          obtain ⟨aT, bT, xT1, xT2, xT3, xT4, -⟩ := hTzz.2.2.2.2
          have t7 : x7.toInt = v2.toInt + 1 := by rw [e7zz]; exact i32_add rfl (by decide) (by omega) (by omega)
          exact ihzz N4zz x7 z5.2.1 z6.2 o4zz (n + n') (k1'' + 1) g5zz gmzz (by omega) (by omega) kzz hy4
      have h37 : ∀ czz : Int32, IsS o1 czz → czz = 43 ∨ czz = 45 → bk_X6_readSum_37 rS 12 400 (lp_X6_readSum_12 rS 12 400 Nzz) p0zz v2 rd1 oc1 = some zzz → SumOut 5 od rd oc o zzz yzz tst k1zz k2zz pzz bzz NoOp := by
        intro czz hczz hcc kzz
        have hop' : (czz = 43 ∧ op = 20) ∨ (czz = 45 ∧ op = 21) := by
          have no : ∀ d : Int32, ¬ czz = d → ¬ IsS o1 d := fun d hdzz => hczz.ne hdzz
          rcases hcc with ezz | ezz <;> subst ezz
          · rcases hop with ⟨-, xzz⟩ | ⟨xzz, -⟩ | ⟨xzz, -⟩ | ⟨xzz, -⟩ | ⟨xzz, -⟩ | ⟨xzz, -⟩
            · exact Or.inl ⟨rfl, xzz⟩
            · exact absurd xzz (no _ (by decide))
            · exact absurd xzz (no _ (by decide))
            · exact absurd xzz (no _ (by decide))
            · exact absurd xzz (no _ (by decide))
            · exact absurd hczz xzz.1
          · rcases hop with ⟨xzz, -⟩ | ⟨-, xzz⟩ | ⟨xzz, -⟩ | ⟨xzz, -⟩ | ⟨xzz, -⟩ | ⟨xzz, -⟩
            · exact absurd xzz (no _ (by decide))
            · exact Or.inr ⟨rfl, xzz⟩
            · exact absurd xzz (no _ (by decide))
            · exact absurd xzz (no _ (by decide))
            · exact absurd xzz (no _ (by decide))
            · exact absurd hczz xzz.2.1
        unfold bk_X6_readSum_37 at kzz
        obtain ⟨za, ea, kzz⟩ := z_bd kzz
        rcases s8 hTzz ea with ⟨q1zz, q2zz⟩ | ⟨q1zz, q2zz⟩
        · have ezz : op = 21 := by
            rcases hop' with ⟨xzz, -⟩ | ⟨-, xzz⟩
            · rw [xzz] at hczz; exact absurd hczz q2zz
            · exact xzz
          exact hgo 6 (Or.inr (Or.inl ⟨rfl, ezz⟩)) (Or.inr ezz) hczz.1 (z_t kzz q1zz)
        · have ezz : op = 20 := by
            rcases hop' with ⟨-, xzz⟩ | ⟨xzz, -⟩
            · exact xzz
            · rw [xzz] at hczz; exact absurd q2zz (hczz.ne (by decide))
          exact hgo 5 (Or.inl ⟨rfl, ezz⟩) (Or.inl ezz) hczz.1 (z_f kzz q1zz)
      obtain ⟨z2, e2zz, h1⟩ := z_bd h1
      rcases s8 hTzz e2zz with ⟨q1zz, q2zz⟩ | ⟨q1zz, q2zz⟩
      · obtain ⟨z8, e8, h1⟩ := z_bd (z_t h1 q1zz)
        rcases s8 hTzz e8 with ⟨r1zz, r2⟩ | ⟨r1zz, r2⟩
        · exact hend q2zz r2 (Option.some.inj (z_t h1 r1zz)).symm
        · exact h37 45 r2 (Or.inr rfl) (z_f h1 r1zz)
      · exact h37 43 q2zz (Or.inl rfl) (z_f h1 q1zz)
set_option maxHeartbeats 200000 in
theorem sum_eq {rS : Ob → Ob → Int32 → Option (Int32 × Ob × Ob)} (hSzz : SumH rS) : SumH (fun rd oc p0zz => f_X6_readSum rS 12 400 rd oc p0zz) := by
  intro od rd oc o yzz k1zz k2zz pzz bzz Nzz tst p0zz zzz hzz h30 hp0 hp8 hbase h1 hy
  have h1 : f_X6_readSum rS 12 400 rd oc p0zz = some zzz := h1
  unfold f_X6_readSum at h1
  obtain ⟨z1, ez1, h1⟩ := z_bd h1
  rcases term_eq hSzz hzz h30 hp0 hp8 (by rcases hbase with qzz | qzz; exact Or.inl qzz; exact Or.inr (by omega)) ez1 hy with gzz | ⟨g1, N4zz, o4zz, n, k1', hy4, g4, gmzz⟩
  · have ezz : zzz = z1 := by rw [← Option.some.inj (z_t h1 gzz.1), ← gzz.1]
    rw [ezz]; exact Or.inl gzz
  · exact sum_lp hSzz h30 hp0 hp8 hzz.2.2.2.2.2.2.2.2.1 hbase zfu N4zz 0 _ _ o4zz n k1' (g4.le (by decide)) gmzz (by decide) (by have : (0 : Int32).toInt = 0 := (by decide); omega) (z_f h1 (by rw [g1]; decide)) hy4
set_option maxHeartbeats 200000 in
theorem sums_all : ∀ d : Nat, SumH (fx_X6_readSum 12 400 d) := by
  intro d
  induction d with
  | zero => intro od rd oc o yzz k1zz k2zz pzz bzz Nzz tst p0zz zzz _ _ _ _ _ hzz; cases hzz
  | succ d ihzz =>
    have hzz := sum_eq ihzz
    exact hzz
set_option maxHeartbeats 200000 in
theorem ex_part_inv {Nzz : Nat} {v1zz : Int32} {o yzz : Ob} {zzz : Int32 × Ob} (h19 : gI o 19 = 0) (hz : f_X9_readPart o = some zzz) (hzz : lp_X9_readExpression_20 Nzz (v1zz, zzz.1, zzz.2) = some yzz) : lp_X9_readExpression_20 (Nzz + 1) (v1zz, 1, o) = some yzz := by
  show lb_X9_readExpression_20 (lp_X9_readExpression_20 Nzz) v1zz 1 o = some yzz
  unfold lb_X9_readExpression_20
  rw [if_pos h19, if_neg (show ¬ (1 : Int32) = 4 by decide), if_neg (show ¬ (1 : Int32) = 0 by decide), if_pos rfl, hz]
  exact hzz
set_option maxHeartbeats 200000 in
theorem inn_no {o : Ob} {Bzz : Nat} {zzz : Int32} (eB : (gI o 29).toInt = (Bzz : Int)) (hBzz : Bzz ≤ 400) (hl : ∀ jzz, jzz < Bzz → (gA o 27 jzz).toInt < 31) : ∀ (Nzz : Nat) (v2 : Int32) (izz : Nat), v2.toInt = (izz : Int) → izz ≤ Bzz → lp_X9_inner_4 o Nzz (-1, v2) = some zzz → zzz = -1 := by
  intro Nzz
  induction Nzz with
  | zero => intro v2 izz _ _ hzz; cases hzz
  | succ Nzz ihzz =>
    intro v2 izz e2zz hizz hzz
    have hzz : lb_X9_inner_4 o (lp_X9_inner_4 o Nzz) (-1) v2 = some zzz := hzz
    unfold lb_X9_inner_4 at hzz
    by_cases czz : gI o 29 ≤ v2
    · exact (Option.some.inj (z_t hzz czz)).symm
    · have d := cv_nle (a := (Bzz : Int)) (b := (izz : Int)) eB e2zz czz
      obtain ⟨-, hzz⟩ := z_gd (z_f hzz czz)
      have i2zz : v2.toNatClampNeg = izz := tnc_eq e2zz
      rw [i2zz] at hzz
      have gzz := hl izz (by omega)
      have hzz := z_t hzz (Int32.lt_iff_toInt_lt.mpr (by have c31zz : (31 : Int32).toInt = 31 := (by decide); omega))
      unfold bk_X9_inner_33 at hzz
      obtain ⟨x2zz, ezz, hzz⟩ := z_lt hzz
      have t : x2zz.toInt = (izz : Int) + 1 := by rw [ezz]; exact i32_add e2zz (by decide) (by omega) (by omega)
      exact ihzz x2zz (izz + 1) (by omega) (by omega) hzz
def InT (o : Ob) (Bzz : Nat) : Prop := (∀ jzz, jzz < Bzz → (gA o 27 jzz).toInt < 31) ∨ ∃ czz, czz < Bzz ∧ gA o 27 czz = 31 ∧ ∀ jzz, czz < jzz → jzz < Bzz → (gA o 27 jzz).toInt < 31
set_option maxHeartbeats 200000 in
theorem InT.inner {o : Ob} {Bzz : Nat} {zzz : Int32} (hzz : InT o Bzz) (eB : (gI o 29).toInt = (Bzz : Int)) (hBzz : Bzz ≤ 400) (hz : f_X9_inner o = some zzz) : zzz = -1 ∨ zzz = 31 := by
  rcases hzz with hzz | ⟨czz, hczz, h1, h2⟩
  · exact Or.inl (inn_no eB hBzz hzz zfu 0 0 (by decide) (Nat.zero_le _) hz)
  · exact Or.inr ((inn_top eB hBzz hczz (by rw [h1]; decide) h2 hz).trans h1)
set_option maxHeartbeats 200000 in
theorem InT.ext {o o' : Ob} {bzz Bzz : Nat} (hzz : InT o bzz) (hbzz : bzz ≤ Bzz) (ezz : ∀ jzz, jzz < bzz → gA o' 27 jzz = gA o 27 jzz) (hl : ∀ jzz, bzz ≤ jzz → jzz < Bzz → (gA o' 27 jzz).toInt < 31) : InT o' Bzz := by
  rcases hzz with hzz | ⟨czz, hczz, h1, h2⟩
  · refine Or.inl (fun jzz hj => ?_)
    rcases (show jzz < bzz ∨ bzz ≤ jzz by omega) with qzz | qzz
    · rw [ezz jzz qzz]; exact hzz jzz qzz
    · exact hl jzz qzz hj
  · refine Or.inr ⟨czz, by omega, (ezz czz hczz).trans h1, fun jzz x1zz x2zz => ?_⟩
    rcases (show jzz < bzz ∨ bzz ≤ jzz by omega) with qzz | qzz
    · rw [ezz jzz qzz]; exact h2 jzz x1zz qzz
    · exact hl jzz qzz x2zz
set_option maxHeartbeats 200000 in
theorem ic_lp {o : Ob} {bzz Bzz : Nat} {zzz : Int32} (hBzz : Bzz ≤ 400) (hl : ∀ jzz, bzz ≤ jzz → jzz < Bzz → 20 ≤ (gA o 27 jzz).toInt ∧ (gA o 27 jzz).toInt ≤ 24) (hn : bzz = 0 ∨ 25 ≤ (gA o 27 (bzz - 1)).toInt) : ∀ (Nzz : Nat) (vzz : Int32) (izz : Nat), vzz.toInt = (izz : Int) - 1 → bzz ≤ izz → izz ≤ Bzz → lp_X9_isCompared_7 o Nzz vzz = some zzz → ((bzz = 0 ∨ 28 ≤ (gA o 27 (bzz - 1)).toInt) → zzz = 0) ∧ (0 < bzz → (gA o 27 (bzz - 1)).toInt ≤ 27 → ¬ zzz = 0) := by
  have c20zz : (20 : Int64).toInt = 20 := by decide
  have c24zz : (24 : Int64).toInt = 24 := by decide
  have c25zz : (25 : Int64).toInt = 25 := by decide
  have c27zz : (27 : Int64).toInt = 27 := by decide
  intro Nzz
  induction Nzz with
  | zero => intro vzz izz _ _ _ hzz; cases hzz
  | succ Nzz ihzz =>
    intro vzz izz ezz hbi hizz hzz
    have hzz : lb_X9_isCompared_7 o (lp_X9_isCompared_7 o Nzz) vzz = some zzz := hzz
    unfold lb_X9_isCompared_7 at hzz
    have h36 : izz = bzz → bk_X9_isCompared_36 o vzz = some zzz → ((bzz = 0 ∨ 28 ≤ (gA o 27 (bzz - 1)).toInt) → zzz = 0) ∧ (0 < bzz → (gA o 27 (bzz - 1)).toInt ≤ 27 → ¬ zzz = 0) := by
      intro eb kzz
      unfold bk_X9_isCompared_36 at kzz
      by_cases czz : vzz < (0 : Int32)
      · have d := cv_lt (a := (izz : Int) - 1) (b := 0) ezz (by decide) czz
        have ez := (Option.some.inj (z_t kzz czz)).symm
        exact ⟨fun _ => ez, fun qzz => by omega⟩
      · have d := cv_nlt (a := (izz : Int) - 1) (b := 0) ezz (by decide) czz
        obtain ⟨-, kzz⟩ := z_gd (z_f kzz czz)
        obtain ⟨z3, e3zz, kzz⟩ := z_bd kzz
        have ivzz : vzz.toNatClampNeg = bzz - 1 := tnc_eq (by omega)
        rw [ivzz] at e3zz
        rcases in_iff _ _ _ _ e3zz with ⟨a1zz, a2⟩ | ⟨a1zz, a2, a3⟩
        · rw [Int32.toInt_toInt64, c25zz, c27zz] at a2
          have ez := (Option.some.inj (z_t kzz a1zz)).symm
          refine ⟨fun _ => ez, fun q1zz q2zz => ?_⟩
          rcases hn with uzz | uzz
          · omega
          · exact absurd ⟨uzz, q2zz⟩ a2
        · rw [Int32.toInt_toInt64, c25zz] at a2
          rw [Int32.toInt_toInt64, c27zz] at a3
          have ez := (Option.some.inj (z_f kzz a1zz)).symm
          exact ⟨fun qzz => by omega, fun _ _ => by rw [ez]; decide⟩
    by_cases czz : vzz < (0 : Int32)
    · have d := cv_lt (a := (izz : Int) - 1) (b := 0) ezz (by decide) czz
      exact h36 (by omega) (z_t hzz czz)
    · have d := cv_nlt (a := (izz : Int) - 1) (b := 0) ezz (by decide) czz
      obtain ⟨-, hzz⟩ := z_gd (z_f hzz czz)
      obtain ⟨z5, e5zz, hzz⟩ := z_bd hzz
      have ivzz : vzz.toNatClampNeg = izz - 1 := tnc_eq (by omega)
      rw [ivzz] at e5zz
      rcases in_iff _ _ _ _ e5zz with ⟨a1zz, a2⟩ | ⟨a1zz, a2, a3⟩
      · rw [Int32.toInt_toInt64, c20zz, c24zz] at a2
        refine h36 ?_ (z_t hzz a1zz)
        rcases (show izz = bzz ∨ bzz ≤ izz - 1 by omega) with qzz | qzz
        · exact qzz
        · exact absurd (hl (izz - 1) qzz (by omega)) a2
      · rw [Int32.toInt_toInt64, c24zz] at a3
        obtain ⟨x6, e6zz, hzz⟩ := z_lt (z_f hzz a1zz)
        have t : x6.toInt = (izz : Int) - 1 + (-1) := by rw [e6zz]; exact i32_add ezz (by decide) (by omega) (by omega)
        have hbi' : bzz ≤ izz - 1 := by
          rcases (show izz = bzz ∨ bzz ≤ izz - 1 by omega) with qzz | qzz
          · rcases hn with uzz | uzz
            · omega
            · rw [qzz] at a3; omega
          · exact qzz
        exact ihzz x6 (izz - 1) (by omega) hbi' (by omega) hzz
set_option maxHeartbeats 200000 in
theorem ic_of {o : Ob} {bzz Bzz : Nat} {zzz : Int32} (eB : (gI o 29).toInt = (Bzz : Int)) (hbzz : bzz ≤ Bzz) (hBzz : Bzz ≤ 400) (hl : ∀ jzz, bzz ≤ jzz → jzz < Bzz → 20 ≤ (gA o 27 jzz).toInt ∧ (gA o 27 jzz).toInt ≤ 24) (hn : bzz = 0 ∨ 25 ≤ (gA o 27 (bzz - 1)).toInt) (hzz : f_X9_isCompared o = some zzz) : ((bzz = 0 ∨ 28 ≤ (gA o 27 (bzz - 1)).toInt) → zzz = 0) ∧ (0 < bzz → (gA o 27 (bzz - 1)).toInt ≤ 27 → ¬ zzz = 0) := by
  unfold f_X9_isCompared at hzz
  obtain ⟨x1zz, e1zz, hzz⟩ := z_lt hzz
  have t : x1zz.toInt = (Bzz : Int) - 1 := by rw [e1zz]; exact i32_sub eB (by decide) (by omega) (by omega)
  exact ic_lp hBzz hl hn zfu x1zz Bzz t hbzz (Nat.le_refl _) hzz
def GoodC (L : Int) (od : Bool) (rd oc o rd' oc' o' : Ob) (k1zz k2zz pzz bzz n k1' : Nat) : Prop := ∃ k2' b' : Nat, k1zz ≤ k1' ∧ PSt od rd' oc' o' k1' k2' pzz b' ∧ bzz ≤ b' ∧ RF o o' ∧ CF rd oc rd' oc' ∧ (∀ jzz, jzz < bzz → gA o' 27 jzz = gA o 27 jzz ∧ gA o' 28 jzz = gA o 28 jzz) ∧ (∀ jzz, bzz ≤ jzz → jzz < b' → 20 ≤ (gA o' 27 jzz).toInt ∧ (gA o' 27 jzz).toInt ≤ 30) ∧ gI o' 30 = gI o 30 ∧ (∀ jzz, jzz < k1zz → gA oc' 5 jzz = gA oc 5 jzz ∧ gA oc' 6 jzz = gA oc 6 jzz) ∧ ckp k2zz o o' ∧ (gI o' 26).toInt = (gI o 26).toInt + (n : Int) ∧
  PEs L o' bzz (fun o3zz => ∃ k3zz : Nat, (gI o3zz 23).toInt = (k3zz : Int) ∧ k3zz ≤ 400 ∧ ckp k2zz o o3zz ∧ Sx od (gA oc' 5) (gA oc' 6) (gA o3zz 24) (gA o3zz 25) true k1zz k1' k2zz k3zz n)
set_option maxHeartbeats 200000 in
theorem GoodC.le {L L' : Int} {od : Bool} {rd oc o rd' oc' o' : Ob} {k1zz k2zz pzz bzz n k1' : Nat} (hzz : GoodC L od rd oc o rd' oc' o' k1zz k2zz pzz bzz n k1') (hl : L' ≤ L) : GoodC L' od rd oc o rd' oc' o' k1zz k2zz pzz bzz n k1' := by
  obtain ⟨k2', b', h0, h1, h2, h3, h4, h5, h6, h7, h8, h9, h10, h11⟩ := hzz
  exact ⟨k2', b', h0, h1, h2, h3, h4, h5, h6, h7, h8, h9, h10, h11.le hl⟩
set_option maxHeartbeats 200000 in
theorem cmp_in {od : Bool} {rd oc o rd1 oc1 o1 rd2 : Ob} {k1zz k2zz pzz bzz n k1' : Nat} {op : Int32} {z10 z11 z12 : Ob} (gzz : GoodT 5 od rd oc o rd1 oc1 o1 k1zz k2zz pzz bzz n k1') (hbzz : bzz ≤ 400) (hbase : bzz = 0 ∨ (bnd (gA o 27 (bzz - 1))).toInt < 5) (hs : gI o1 16 = 3)
    (e10zz : f_X9_next o1 = some z10) (e11zz : f_X9_settle z10 5 = some z11) (e12zz : f_X9_push z11 op 0 = some z12) (ec : f_X6_step rd1 = some rd2) :
    ∃ k3zz : Nat, PSt od rd2 oc1 z12 k1' k3zz (pzz + 1) (bzz + 1) ∧ RF o z12 ∧ CF rd oc rd2 oc1 ∧ (∀ jzz, jzz < bzz → gA z12 27 jzz = gA o 27 jzz ∧ gA z12 28 jzz = gA o 28 jzz) ∧ gA z12 27 bzz = op ∧ gI z12 30 = gI o 30 ∧ ckp k2zz o z12 ∧ (gI z12 26).toInt = (gI o 26).toInt + (n : Int) ∧ Sx od (gA oc1 5) (gA oc1 6) (gA z12 24) (gA z12 25) false k1zz k1' k2zz k3zz n ∧ bzz < 400 := by
  obtain ⟨k2', b', h0, h1, h2, h3, h4, h5, h6, h7, h8, h9, h10, h11⟩ := gzz
  obtain ⟨hTzz, h19, e5zz, hr, ek1, ek2, hp, eb, hb', hk2, hMzz⟩ := h1
  have topzz : bzz = 0 ∨ (bnd (gA o1 27 (bzz - 1))).toInt < (5 : Int32).toInt := by
    rcases (show bzz = 0 ∨ 0 < bzz by omega) with uzz | uzz
    · exact Or.inl uzz
    · rcases hbase with qzz | qzz
      · exact Or.inl qzz
      · exact Or.inr (by rw [(h5 (bzz - 1) (by omega)).1]; exact qzz)
  obtain ⟨azz, bb, ea, ebb, hab, hbb, hx⟩ := hTzz.2.2.2.2
  have hbb' : bb = azz + 1 := by
    rcases hx with ⟨uzz, -⟩ | ⟨uzz, -⟩ | ⟨uzz, -⟩ | ⟨-, uzz, -⟩
    · exact absurd (uzz.symm.trans hs) (by decide)
    · exact absurd (uzz.symm.trans hs) (by decide)
    · exact absurd (uzz.symm.trans hs) (by decide)
    · exact uzz
  obtain ⟨T1, T2, T3, T4⟩ := tk_eq hTzz.1 hTzz.2.2.2.1 (by omega) (by omega) ec e10zz
  obtain ⟨s1zz, s2zz, k3zz, s3zz, s4zz, s5, s6zz⟩ := h11.done T3 hbzz (by decide) (by decide) topzz e11zz
  obtain ⟨p1zz, p2zz, p3zz, p4zz, p5zz, p6zz, p7zz, p8zz, p9zz⟩ := push9 s1zz hbzz e12zz
  have hT2 : TT rd2 z12 := by
    refine T1.cg rfl rfl rfl rfl rfl rfl ?_ ?_ ?_ ?_ ?_ ?_
    · rw [p6zz 13 (by decide)]; exact s2zz.1 13 (by decide) (by decide)
    · rw [p7zz 12 (by decide) (by decide)]; exact s2zz.2.2.1 12 (by decide) (by decide)
    · rw [p6zz 14 (by decide)]; exact s2zz.1 14 (by decide) (by decide)
    · rw [p6zz 15 (by decide)]; exact s2zz.1 15 (by decide) (by decide)
    · rw [p6zz 16 (by decide)]; exact s2zz.1 16 (by decide) (by decide)
    · exact (congrFun p8zz 17).trans (congrFun s2zz.2.1 17)
  have k14 : gI z12 14 = gI z10 14 := (p6zz 14 (by decide)).trans (s2zz.1 14 (by decide) (by decide))
  have rp : RF z11 z12 := ⟨fun izz _ _ _ _ _ _ _ azz _ => p6zz izz azz, fun izz _ _ azz czz => p7zz izz azz czz, p9zz⟩
  have r1zz : RF o1 z12 := T3.rr.tr (s2zz.rr.tr rp)
  have i26 : gI z12 26 = gI o1 26 := (p6zz 26 (by decide)).trans ((s2zz.1 26 (by decide) (by decide)).trans (T3.1 26 (by decide) (by decide) (by decide)))
  have i23 : (gI z12 23).toInt = (k3zz : Int) := by rw [p6zz 23 (by decide)]; exact s3zz
  refine ⟨k3zz, ⟨hT2, ?_, ?_, by rw [i26]; exact hr, ek1, i23, ?_, ?_, by omega, s4zz, hMzz.fr (oc := oc1) (oc' := oc1) T2.cc r1zz⟩, h3.tr r1zz, h4.tr T2.cc, fun jzz hj => ?_, p3zz, ?_, fun jzz hj => ?_, by rw [i26]; exact h10, ?_, p1zz⟩
  · rw [p6zz 19 (by decide), s2zz.1 19 (by decide) (by decide), T3.1 19 (by decide) (by decide) (by decide)]; exact h19
  · rw [T2.1 5 (by decide) (by decide) (by decide) (by decide), i26]; exact e5zz
  · rw [k14]; omega
  · omega
  · rw [(p5zz jzz (by omega)).1, (p5zz jzz (by omega)).2, s2zz.2.2.1 27 (by decide) (by decide), s2zz.2.2.1 28 (by decide) (by decide), T3.gA 27, T3.gA 28]; exact h5 jzz hj
  · rw [p6zz 30 (by decide), s2zz.1 30 (by decide) (by decide), T3.1 30 (by decide) (by decide) (by decide)]; exact h7
  · rw [p7zz 24 (by decide) (by decide), p7zz 25 (by decide) (by decide)]; exact s5 jzz hj
  · rw [p7zz 24 (by decide) (by decide), p7zz 25 (by decide) (by decide)]; exact s6zz
set_option maxHeartbeats 200000 in
theorem cmp_out {L L' : Int} {od : Bool} {rd oc o rd2 oc1 o2 rd3 oc3 o3zz oc4 : Ob} {k1zz k2zz pzz bzz n n' k1' k3zz k1'' : Nat} {op s : Int32} {z7 : Int32 × Ob} (hSzz : Sx od (gA oc1 5) (gA oc1 6) (gA o2 24) (gA o2 25) false k1zz k1' k2zz k3zz n) (rzz : RF o o2) (czz : CF rd oc rd2 oc1) (hpl : ∀ jzz, jzz < bzz → gA o2 27 jzz = gA o 27 jzz ∧ gA o2 28 jzz = gA o 28 jzz) (hop : gA o2 27 bzz = op) (h30 : gI o2 30 = gI o 30) (hck : ckp k2zz o o2) (h26 : (gI o2 26).toInt = (gI o 26).toInt + (n : Int)) (hbzz : bzz < 400) (hk13 : ∀ jzz, jzz < k1zz → gA oc1 5 jzz = gA oc 5 jzz ∧ gA oc1 6 jzz = gA oc 6 jzz)
    (gzz : GoodT L' od rd2 oc1 o2 rd3 oc3 o3zz k1' k3zz (pzz + 1) (bzz + 1) n' k1'') (hL : L ≤ L') (hbn : L ≤ (bnd op).toInt) (hopr : 25 ≤ op.toInt ∧ op.toInt ≤ 27) (hCO : opC s op) (ez : f_X0_add 12 400 oc3 s 0 = some z7) (e4zz : oc4 = z7.2) :
    GoodC L od rd oc o rd3 oc4 o3zz k1zz k2zz pzz bzz (n + n') (k1'' + 1) := by
  have hlt := hSzz.lt
  obtain ⟨k2', b', h0, h1, h2, h3, h4, h5, h6, h7, h8, h9, h10, h11⟩ := gzz
  obtain ⟨hTzz, h19, e5zz, hr, ek1, ek2, hp, eb, hb', hk2, hMzz⟩ := h1
  obtain ⟨azz, bb, ea, ebb, hab, hbb, -⟩ := hTzz.2.2.2.2
  have h400 := hTzz.1.2.2.2
  obtain ⟨d1zz, d2zz, d3zz, d4zz, d5zz, d6zz, d7zz⟩ := add8 ek1 (by omega) ez
  subst e4zz
  have cfzz : CF rd oc rd3 z7.2 := czz.tr (h4.tr (CF.add d6zz d7zz))
  refine ⟨k2', b', by omega, ⟨hTzz, h19, e5zz, hr, by omega, ek2, by omega, eb, hb', hk2, hMzz⟩, by omega, rzz.tr h3, cfzz, fun jzz hj => ?_, fun jzz azz czz => ?_, h7.trans h30, fun jzz hj => ?_, hck.tr (h9.le (by omega)), by omega, fun o3' f3zz Nzz lv yzz hl1 hl2 hy => ?_⟩
  · rw [(h5 jzz (by omega)).1, (h5 jzz (by omega)).2]; exact hpl jzz hj
  · rcases (show jzz = bzz ∨ bzz + 1 ≤ jzz by omega) with qzz | qzz
    · rw [qzz, (h5 bzz (by omega)).1, hop]; omega
    · have := h6 jzz qzz czz; omega
  · have w8 := h8 jzz (by omega)
    have w5 := d5zz jzz (by omega)
    rw [w5.1, w5.2, w8.1, w8.2]; exact hk13 jzz hj
  · obtain ⟨N', o4zz, q1zz, q2zz, q3zz, k4zz, q4zz, q5zz, q6zz, q7zz⟩ := h11 o3' f3zz Nzz lv yzz hl1 (by omega) hy
    have e27zz : gA o4zz 27 bzz = op := by rw [q3zz.2.2.1 27 (by decide) (by decide), f3zz.gA 27, (h5 bzz (by omega)).1]; exact hop
    have lt7 := q7zz.lt
    have n29 : ¬ op = 29 := fun ezz => by rw [ezz] at hopr; revert hopr; decide
    have n30zz : ¬ op = 30 := fun ezz => by rw [ezz] at hopr; revert hopr; decide
    obtain ⟨N'', o5zz, u1zz, u2zz, u3, u4zz, u5, u6, u7, u8⟩ := st_op (bzz := bzz) (czz := k4zz) (by omega) hbzz q4zz q5zz ⟨by rw [e27zz]; exact n29, by rw [e27zz]; exact n30zz⟩ (by rw [e27zz]; omega) q1zz
    refine ⟨N'', o5zz, u1zz, u5, q3zz.tr u2zz, k4zz + 1, by omega, by omega, ?_, ?_⟩
    · exact (hck.tr (q6zz.le (by omega))).tr (u3.le (by omega))
    · have cl := Sx.cl od (gA z7.2 5) (gA z7.2 6) (gA o5zz 24) (gA o5zz 25)
      refine cl.2.2.2.1 k1zz k1' k1'' k2zz k3zz k4zz n n' ?_ ?_ ?_
      · refine hSzz.eq (fun jzz x1zz x2zz => ?_) (fun jzz x1zz x2zz => ?_)
        · have w5 := d5zz jzz (by omega)
          have w8 := h8 jzz x2zz
          rw [w5.1, w5.2]; exact w8
        · have v1zz := u3 jzz (by omega)
          have v2 := q6zz jzz x2zz
          rw [v1zz.1, v1zz.2]; exact v2
      · refine q7zz.eq (fun jzz x1zz x2zz => d5zz jzz (by omega)) (fun jzz x1zz x2zz => u3 jzz x2zz)
      · rw [d3zz, u6, e27zz]; exact hCO
set_option maxHeartbeats 200000 in
theorem iw8 {rd o : Ob} {t : Nat} {R : List Int} {zzz : Int32} (hzz : TT rd o) (ht : t < 9) (hczz : chnT t 0 [R] = true) (hz : f_X6_isWord rd t = some zzz) : (zzz = 0 ∧ ¬ IsW o R) ∨ (¬ zzz = 0 ∧ IsW o R) := by
  unfold f_X6_isWord at hz
  obtain ⟨z1, e1zz, hz⟩ := z_bd hz
  rcases wo8 hzz ht hczz (by show (1 : Nat) ≤ 20; decide) e1zz with ⟨jzz, R', ezz, ej, wzz⟩ | ⟨ezz, wzz⟩
  · cases jzz with
    | zero =>
      have eR : some R = some R' := ezz
      have e0zz : z1 = 0 := Int32.toInt_inj.mp (ej.trans (by decide))
      refine Or.inr ⟨?_, ?_⟩
      · rw [← Option.some.inj (z_t hz e0zz)]; decide
      · rw [Option.some.inj eR]; exact wzz
    | succ jzz => simp at ezz
  · exact Or.inl ⟨(Option.some.inj (z_f hz (by rw [ezz]; decide))).symm, wzz R (List.mem_singleton.mpr rfl)⟩
set_option maxHeartbeats 200000 in
theorem PEs.mono {L : Int} {o : Ob} {bzz : Nat} {R R' : Ob → Prop} (hzz : PEs L o bzz R) (hr : ∀ o3zz, R o3zz → R' o3zz) : PEs L o bzz R' := fun o' fzz Nzz lv yzz azz czz hy => by
  obtain ⟨N', o3zz, q1zz, q2zz, q3zz, q4zz⟩ := hzz o' fzz Nzz lv yzz azz czz hy
  exact ⟨N', o3zz, q1zz, q2zz, q3zz, hr o3zz q4zz⟩
def SNt (od : Bool) (s1zz w1zz s2zz w2zz : Nat → Int32) (k1zz k1' k2zz k3zz n izz : Nat) : Prop := (izz % 2 = 0 ∧ Sx od s1zz w1zz s2zz w2zz true k1zz k1' k2zz k3zz n) ∨ (izz % 2 = 1 ∧ ∃ czz : Nat, k3zz = czz + 1 ∧ s2zz czz = 28 ∧ Sx od s1zz w1zz s2zz w2zz true k1zz k1' k2zz czz n)
def NtR (od : Bool) (s1zz w1zz : Nat → Int32) (o : Ob) (k1zz k1' k2zz n izz : Nat) (o3zz : Ob) : Prop := ∃ k3zz : Nat, (gI o3zz 23).toInt = (k3zz : Int) ∧ k3zz ≤ 400 ∧ ckp k2zz o o3zz ∧ SNt od s1zz w1zz (gA o3zz 24) (gA o3zz 25) k1zz k1' k2zz k3zz n izz
set_option maxHeartbeats 200000 in
theorem not_step {L : Int} {od : Bool} {s1zz w1zz : Nat → Int32} {o o' : Ob} {k1zz k1' k2zz n czz izz : Nat} (hL : L ≤ 3) (hczz : czz < 400) (h28 : gA o' 27 czz = 28) (hzz : PEs L o' (czz + 1) (NtR od s1zz w1zz o k1zz k1' k2zz n izz)) : PEs L o' czz (NtR od s1zz w1zz o k1zz k1' k2zz n (izz + 1)) := by
  intro o2 f2zz Nzz lv yzz hl1 hl2 hy
  obtain ⟨N', o4zz, q1zz, q2zz, q3zz, k4zz, q4zz, q5zz, q6zz, q7zz⟩ := hzz o2 f2zz Nzz lv yzz hl1 hl2 hy
  have e27zz : gA o4zz 27 czz = 28 := by rw [q3zz.2.2.1 27 (by decide) (by decide), f2zz.gA 27]; exact h28
  have b28 : (bnd 28).toInt = 3 := by decide
  have lt7 : k2zz < k4zz := by
    rcases q7zz with ⟨-, wzz⟩ | ⟨-, c', ezz, -, wzz⟩
    · have := wzz.lt; omega
    · have := wzz.lt; omega
  obtain ⟨N'', o5zz, u1zz, u2zz, u3, u4zz, u5, u6, u7, u8⟩ := st_op (bzz := czz) (czz := k4zz) (by omega) hczz q4zz q5zz ⟨by rw [e27zz]; decide, by rw [e27zz]; decide⟩ (by rw [e27zz, b28]; omega) q1zz
  refine ⟨N'', o5zz, u1zz, u5, q3zz.tr u2zz, k4zz + 1, by omega, by omega, q6zz.tr (u3.le (by omega)), ?_⟩
  rcases q7zz with ⟨hizz, wzz⟩ | ⟨hizz, c', ezz, e28zz, wzz⟩
  · exact Or.inr ⟨by omega, k4zz, rfl, u6.trans e27zz, wzz.eq (fun jzz _ _ => ⟨rfl, rfl⟩) (fun jzz x1zz x2zz => u3 jzz x2zz)⟩
  · subst ezz
    have cl := Sx.cl od s1zz w1zz (gA o5zz 24) (gA o5zz 25)
    exact Or.inl ⟨by omega, cl.2.2.2.2.2.2 k1zz k1' k2zz c' n (wzz.eq (fun jzz _ _ => ⟨rfl, rfl⟩) (fun jzz x1zz x2zz => u3 jzz (by omega))) ((u3 c' (by omega)).1.trans e28zz) (u6.trans e27zz)⟩
set_option maxHeartbeats 200000 in
theorem nots_PE {L : Int} {od : Bool} {s1zz w1zz : Nat → Int32} {o o' : Ob} {k1zz k1' k2zz n : Nat} (hL : L ≤ 3) : ∀ (mzz czz izz : Nat), (∀ jzz, czz ≤ jzz → jzz < czz + mzz → gA o' 27 jzz = 28) → czz + mzz ≤ 400 → PEs L o' (czz + mzz) (NtR od s1zz w1zz o k1zz k1' k2zz n izz) → PEs L o' czz (NtR od s1zz w1zz o k1zz k1' k2zz n (izz + mzz)) := by
  intro mzz
  induction mzz with
  | zero => intro czz izz _ _ hzz; exact hzz
  | succ mzz ihzz =>
    intro czz izz h1 h2 hzz
    have h' := not_step hL (czz := czz + mzz) (by omega) (h1 (czz + mzz) (by omega) (by omega)) hzz
    have h3 := ihzz czz (izz + 1) (fun jzz azz bzz => h1 jzz azz (by omega)) (by omega) h'
    rw [show izz + 1 + mzz = izz + (mzz + 1) by omega] at h3
    exact h3
def NI (od : Bool) (rd oc o : Ob) (k1zz k2zz pzz bzz mzz : Nat) (rd1 o1 : Ob) : Prop := PSt od rd1 oc o1 k1zz k2zz (pzz + mzz) (bzz + mzz) ∧ RF o o1 ∧ CF rd oc rd1 oc ∧ (∀ jzz, jzz < bzz → gA o1 27 jzz = gA o 27 jzz ∧ gA o1 28 jzz = gA o 28 jzz) ∧ (∀ jzz, bzz ≤ jzz → jzz < bzz + mzz → gA o1 27 jzz = 28) ∧ gI o1 30 = gI o 30 ∧ gA o1 24 = gA o 24 ∧ gA o1 25 = gA o 25 ∧ gI o1 26 = gI o 26
set_option maxHeartbeats 200000 in
theorem NI.rf {od : Bool} {rd oc o : Ob} {k1zz k2zz pzz bzz : Nat} (hzz : PSt od rd oc o k1zz k2zz pzz bzz) : NI od rd oc o k1zz k2zz pzz bzz 0 rd o := ⟨hzz, RF.rf, CF.rf, fun _ _ => ⟨rfl, rfl⟩, fun jzz azz czz => by omega, rfl, rfl, rfl, rfl⟩
set_option maxHeartbeats 200000 in
theorem not_out {rT : Ob → Ob → Int32 → Option (Int32 × Ob × Ob)} {od : Bool} {rd oc o rd1 o1 rd3 oc3 o3zz : Ob} {k1zz k2zz pzz bzz n k1' mzz : Nat} {v2 : Int32} {zzz : Int32 × Ob × Ob} (hizz : NI od rd oc o k1zz k2zz pzz bzz mzz rd1 o1) (gzz : GoodC 3 od rd1 oc o1 rd3 oc3 o3zz k1zz k2zz (pzz + mzz) (bzz + mzz) n k1') (hv : (mzz % 2 = 0 ∧ v2 = 0) ∨ (mzz % 2 = 1 ∧ v2 = 1)) (h1 : bk_X6_readPlain_185 rT 12 400 v2 rd3 oc3 = some zzz) : zzz.1 = 1 ∧ zzz.2.1 = rd3 ∧ ∃ k1'' : Nat, GoodC 3 od rd oc o rd3 zzz.2.2 o3zz k1zz k2zz pzz bzz n k1'' := by
  obtain ⟨i1zz, i2zz, i3zz, i4zz, i5zz, i6zz, i7zz, i8zz, i9zz⟩ := hizz
  have hbm : bzz + mzz ≤ 400 := i1zz.2.2.2.2.2.2.2.2.1
  obtain ⟨k2', b', g0, g1, g2, g3zz, g4, g5zz, g6, g7, g8, g9, g10, g11⟩ := gzz
  obtain ⟨hTzz, h19, e5zz, hr, ek1, ek2, hp, eb, hb', hk2, hMzz⟩ := g1
  have ck0 : ckp k2zz o o1 := fun jzz _ => by rw [i7zz, i8zz]; exact ⟨rfl, rfl⟩
  have h28 : ∀ jzz, bzz ≤ jzz → jzz < bzz + mzz → gA o3zz 27 jzz = 28 := fun jzz x1zz x2zz => (g5zz jzz x2zz).1.trans (i5zz jzz x1zz x2zz)
  have hpl : ∀ jzz, jzz < bzz → gA o3zz 27 jzz = gA o 27 jzz ∧ gA o3zz 28 jzz = gA o 28 jzz := fun jzz hj => ⟨(g5zz jzz (by omega)).1.trans (i4zz jzz hj).1, (g5zz jzz (by omega)).2.trans (i4zz jzz hj).2⟩
  have c28zz : (28 : Int32).toInt = 28 := by decide
  have hrg : ∀ jzz, bzz ≤ jzz → jzz < b' → 20 ≤ (gA o3zz 27 jzz).toInt ∧ (gA o3zz 27 jzz).toInt ≤ 30 := fun jzz x1zz x2zz => by
    rcases (show jzz < bzz + mzz ∨ bzz + mzz ≤ jzz by omega) with qzz | qzz
    · rw [h28 jzz x1zz qzz, c28zz]; omega
    · exact g6 jzz qzz x2zz
  have hNzz := nots_PE (L := 3) (o := o1) (by decide) mzz bzz 0 h28 hbm (g11.mono (R' := NtR od (gA oc3 5) (gA oc3 6) o1 k1zz k1' k2zz n 0) (fun o4zz qzz => by
    obtain ⟨k3zz, q1zz, q2zz, q3zz, q4zz⟩ := qzz
    exact ⟨k3zz, q1zz, q2zz, q3zz, Or.inl ⟨rfl, q4zz⟩⟩))
  unfold bk_X6_readPlain_185 at h1
  rcases hv with ⟨hmzz, hv⟩ | ⟨hmzz, hv⟩
  · have ez := Option.some.inj (z_t h1 hv)
    rw [← ez]
    refine ⟨rfl, rfl, k1', k2', b', g0, ⟨hTzz, h19, e5zz, hr, ek1, ek2, by omega, eb, hb', hk2, hMzz⟩, by omega, i2zz.tr g3zz, i3zz.tr g4, hpl, hrg, g7.trans i6zz, g8, ck0.tr g9, by rw [g10, i9zz], hNzz.mono (fun o4zz qzz => ?_)⟩
    obtain ⟨k3zz, q1zz, q2zz, q3zz, q4zz⟩ := qzz
    rcases q4zz with ⟨-, wzz⟩ | ⟨ezz, -⟩
    · exact ⟨k3zz, q1zz, q2zz, ck0.tr q3zz, wzz⟩
    · omega
  · obtain ⟨z9, e9zz, h1⟩ := z_bd (z_f h1 (by rw [hv]; decide))
    have ez := Option.some.inj h1
    rw [← ez]
    obtain ⟨azz, bb, ea, ebb, hab, hbb, -⟩ := hTzz.2.2.2.2
    have h400 := hTzz.1.2.2.2
    obtain ⟨d1zz, d2zz, d3zz, d4zz, d5zz, d6zz, d7zz⟩ := add8 ek1 (by omega) e9zz
    refine ⟨rfl, rfl, k1' + 1, k2', b', by omega, ⟨hTzz, h19, e5zz, hr, by first | omega | (dsimp only; omega), ek2, by omega, eb, hb', hk2, hMzz⟩, by omega, i2zz.tr g3zz, i3zz.tr (g4.tr (CF.add d6zz d7zz)), hpl, hrg, g7.trans i6zz, fun jzz hj => ?_, ck0.tr g9, by rw [g10, i9zz], hNzz.mono (fun o4zz qzz => ?_)⟩
    · have w5 := d5zz jzz (by omega)
      rw [w5.1, w5.2]; exact g8 jzz hj
    · obtain ⟨k3zz, q1zz, q2zz, q3zz, q4zz⟩ := qzz
      rcases q4zz with ⟨ezz, -⟩ | ⟨-, c', ezz, e28zz, wzz⟩
      · omega
      · subst ezz
        have cl := Sx.cl od (gA z9.2 5) (gA z9.2 6) (gA o4zz 24) (gA o4zz 25)
        exact ⟨c' + 1, q1zz, q2zz, ck0.tr q3zz, cl.2.2.2.2.2.1 k1zz k1' k2zz c' n (wzz.eq (fun jzz x1zz x2zz => d5zz jzz (by omega)) (fun jzz _ _ => ⟨rfl, rfl⟩)) d3zz e28zz⟩
set_option maxHeartbeats 200000 in
theorem not_w : chnT 6 0 [[20, 15, 14]] = true := tx6_ok
set_option maxHeartbeats 200000 in
theorem nots_lp {rT : Ob → Ob → Int32 → Option (Int32 × Ob × Ob)} {od : Bool} {rd oc o yzz : Ob} {k1zz k2zz pzz bzz : Nat} {tst p0zz : Int32} {zzz : Int32 × Ob × Ob} :
    ∀ (Nzz N2 : Nat) (v2 v3 : Int32) (rd1 o1 : Ob) (mzz : Nat), NI od rd oc o k1zz k2zz pzz bzz mzz rd1 o1 → v3.toInt = (mzz : Int) → ((mzz % 2 = 0 ∧ v2 = 0) ∨ (mzz % 2 = 1 ∧ v2 = 1)) → lp_X6_readPlain_4 rT 12 400 Nzz (p0zz, v2, v3, rd1, oc) = some zzz → lp_X9_readExpression_20 N2 (tst, 0, o1) = some yzz →
    ∃ (N' m' : Nat) (v2' : Int32) (rd' o' : Ob), NI od rd oc o k1zz k2zz pzz bzz m' rd' o' ∧ ((m' % 2 = 0 ∧ v2' = 0) ∨ (m' % 2 = 1 ∧ v2' = 1)) ∧ ¬ IsW o' [20, 15, 14] ∧ bk_X6_readPlain_40 rT 12 400 p0zz v2' rd' oc = some zzz ∧ lp_X9_readExpression_20 N' (tst, 0, o') = some yzz := by
  intro Nzz
  induction Nzz with
  | zero => intro N2 v2 v3 rd1 o1 mzz _ _ _ hzz; cases hzz
  | succ Nzz ihzz =>
    intro N2 v2 v3 rd1 o1 mzz hizz e3zz hv hzz hy
    have hzz : lb_X6_readPlain_4 rT 12 400 (lp_X6_readPlain_4 rT 12 400 Nzz) p0zz v2 v3 rd1 oc = some zzz := hzz
    unfold lb_X6_readPlain_4 at hzz
    have hi' := hizz
    obtain ⟨i1zz, i2zz, i3zz, i4zz, i5zz, i6zz, i7zz, i8zz, i9zz⟩ := hizz
    obtain ⟨hTzz, h19, e5zz, hr, ek1, ek2, hp, eb, hbzz, hk2, hMzz⟩ := i1zz
    have h400 := hTzz.1.2.2.2
    obtain ⟨azz, bb, ea, ebb, hab, hbb, hx⟩ := hTzz.2.2.2.2
    by_cases c4zz : (400 : Int32) ≤ v3
    · have d4zz := cv_le (a := 400) (b := (mzz : Int)) (by decide) e3zz c4zz
      refine ⟨N2, mzz, v2, rd1, o1, hi', hv, fun wzz => ?_, z_t hzz c4zz, hy⟩
      obtain ⟨-, a', w1zz, w2zz, -⟩ := wzz
      have w2' : (gI o1 15).toInt = (a' : Int) + 3 := by rw [w2zz]; rfl
      omega
    · have d4zz := cv_nle (a := 400) (b := (mzz : Int)) (by decide) e3zz c4zz
      obtain ⟨z20, e20, hzz⟩ := z_bd (z_f hzz c4zz)
      rcases iw8 hTzz (by decide) not_w e20 with ⟨q1zz, q2zz⟩ | ⟨q1zz, q2zz⟩
      · exact ⟨N2, mzz, v2, rd1, o1, hi', hv, q2zz, z_t hzz q1zz, hy⟩
      · obtain ⟨z21, e21zz, hzz⟩ := z_bd (z_f hzz q1zz)
        obtain ⟨N3, zr, hzr, hy⟩ := ex_plain h19 hy
        unfold f_X9_readPlain at hzr
        obtain ⟨z1, ez1, hzr⟩ := z_bd hzr
        rcases w9 (R := [20, 15, 14]) hTzz (all_dig (by decide)) (by decide) (by decide) ez1 with ⟨u1zz, u2zz⟩ | ⟨u1zz, -⟩
        · exact absurd q2zz u2zz
        · obtain ⟨z5, ez5, hzr⟩ := z_bd (z_f hzr u1zz)
          obtain ⟨z6, ez6, hzr⟩ := z_bd hzr
          have ezr := Option.some.inj hzr
          rw [← ezr] at hy
          obtain ⟨p1zz, p2zz, p3zz, p4zz, p5zz, p6zz, p7zz, p8zz, p9zz⟩ := push9 eb hbzz ez5
          have hT2 : TT rd1 z5 := hTzz.cg rfl rfl rfl rfl rfl rfl (p6zz 13 (by decide)) (p7zz 12 (by decide) (by decide)) (p6zz 14 (by decide)) (p6zz 15 (by decide)) (p6zz 16 (by decide)) (congrFun p8zz 17)
          have k15 : gI z5 15 = gI o1 15 := p6zz 15 (by decide)
          have k13 : gI z5 13 = gI o1 13 := p6zz 13 (by decide)
          obtain ⟨T1, T2, T3, T4⟩ := tk_eq hT2.1 hT2.2.2.2.1 (by rw [k15]; omega) (by rw [k15, k13]; omega) e21zz ez6
          rw [k15] at T4
          have hlt : azz < bb := by
            obtain ⟨w0zz, a', w1zz, w2zz, -⟩ := q2zz
            have w2' : (gI o1 15).toInt = (a' : Int) + 3 := by rw [w2zz]; rfl
            omega
          have rp : RF o1 z5 := ⟨fun izz _ _ _ _ _ _ _ azz _ => p6zz izz azz, fun izz _ _ azz czz => p7zz izz azz czz, p9zz⟩
          have r1zz : RF o1 z6 := rp.tr T3.rr
          have j3zz : ∀ izz, izz ≠ 14 → izz ≠ 15 → izz ≠ 16 → izz ≠ 29 → gI z6 izz = gI o1 izz := fun izz x1zz x2zz x3 x4zz => (T3.1 izz x1zz x2zz x3).trans (p6zz izz x4zz)
          have jA : ∀ izz, izz ≠ 27 → izz ≠ 28 → gA z6 izz = gA o1 izz := fun izz x1zz x2zz => (T3.gA izz).trans (p7zz izz x1zz x2zz)
          have hn : NI od rd oc o k1zz k2zz pzz bzz (mzz + 1) z21 z6 := by
            refine ⟨⟨T1, ?_, ?_, ?_, ek1, ?_, ?_, ?_, by omega, hk2, hMzz.fr (oc := oc) (oc' := oc) T2.cc r1zz⟩, i2zz.tr r1zz, i3zz.tr T2.cc, fun jzz hj => ?_, fun jzz x1zz x2zz => ?_, ?_, ?_, ?_, ?_⟩
            · rw [j3zz 19 (by decide) (by decide) (by decide) (by decide)]; exact h19
            · rw [T2.1 5 (by decide) (by decide) (by decide) (by decide), j3zz 26 (by decide) (by decide) (by decide) (by decide)]; exact e5zz
            · rw [j3zz 26 (by decide) (by decide) (by decide) (by decide)]; exact hr
            · rw [j3zz 23 (by decide) (by decide) (by decide) (by decide)]; exact ek2
            · omega
            · rw [T3.1 29 (by decide) (by decide) (by decide)]; omega
            · rw [T3.gA 27, T3.gA 28, (p5zz jzz (by omega)).1, (p5zz jzz (by omega)).2]; exact i4zz jzz hj
            · rw [T3.gA 27]
              rcases (show jzz = bzz + mzz ∨ jzz < bzz + mzz by omega) with uzz | uzz
              · rw [uzz]; exact p3zz
              · rw [(p5zz jzz (by omega)).1]; exact i5zz jzz x1zz uzz
            · rw [j3zz 30 (by decide) (by decide) (by decide) (by decide)]; exact i6zz
            · rw [jA 24 (by decide) (by decide)]; exact i7zz
            · rw [jA 25 (by decide) (by decide)]; exact i8zz
            · rw [j3zz 26 (by decide) (by decide) (by decide) (by decide)]; exact i9zz
          rcases hv with ⟨hmzz, hv⟩ | ⟨hmzz, hv⟩
          · have hzz := z_t hzz hv
            unfold bk_X6_readPlain_33 at hzz
            obtain ⟨x22, e22zz, hzz⟩ := z_lt hzz
            have t : x22.toInt = (mzz : Int) + 1 := by rw [e22zz]; exact i32_add e3zz (by decide) (by omega) (by omega)
            exact ihzz N3 1 x22 z21 z6 (mzz + 1) hn (by omega) (Or.inr ⟨by omega, rfl⟩) hzz hy
          · have hzz := z_f hzz (by rw [hv]; decide)
            unfold bk_X6_readPlain_33 at hzz
            obtain ⟨x22, e22zz, hzz⟩ := z_lt hzz
            have t : x22.toInt = (mzz : Int) + 1 := by rw [e22zz]; exact i32_add e3zz (by decide) (by omega) (by omega)
            exact ihzz N3 0 x22 z21 z6 (mzz + 1) hn (by omega) (Or.inl ⟨by omega, rfl⟩) hzz hy
set_option maxHeartbeats 200000 in
theorem bnd_ge {xzz : Int32} (hzz : 28 ≤ xzz.toInt) : (bnd xzz).toInt < 4 := by
  unfold bnd
  by_cases c1zz : xzz < (31 : Int32)
  · have d1zz := cv_lt (a := xzz.toInt) (b := 31) rfl (by decide) c1zz
    rw [if_pos c1zz]
    by_cases c2zz : xzz = (30 : Int32)
    · rw [if_pos c2zz]; decide
    · rw [if_neg c2zz]
      by_cases c3zz : xzz = (29 : Int32)
      · rw [if_pos c3zz]; decide
      · rw [if_neg c3zz]
        by_cases c4zz : xzz = (28 : Int32)
        · rw [if_pos c4zz]; decide
        · have n2zz : ¬ xzz.toInt = 30 := fun ezz => c2zz (Int32.toInt_inj.mp (ezz.trans (by decide)))
          have n3zz : ¬ xzz.toInt = 29 := fun ezz => c3zz (Int32.toInt_inj.mp (ezz.trans (by decide)))
          have n4zz : ¬ xzz.toInt = 28 := fun ezz => c4zz (Int32.toInt_inj.mp (ezz.trans (by decide)))
          omega
  · rw [if_neg c1zz]; decide
set_option maxHeartbeats 200000 in
theorem bs_none {o : Ob} {Bzz : Nat} {tst : Int32} {zzz : Int32 × Ob} (hI : InT o Bzz) (eB : (gI o 29).toInt = (Bzz : Int)) (hBzz : Bzz ≤ 400) (ht : ¬ tst = 0) (hzz : bk_X9_behindSum_71 tst (-1) o = some zzz) : bk_X9_behindSum_163 o = some zzz := by
  unfold bk_X9_behindSum_71 at hzz
  obtain ⟨z6, e6zz, hzz⟩ := z_bd (z_t hzz rfl)
  rcases hI.inner eB hBzz e6zz with qzz | qzz
  · have hzz := z_f hzz (by rw [qzz]; decide)
    exact z_f (z_t hzz qzz) ht
  · have hzz := z_f hzz (by rw [qzz]; decide)
    exact z_f hzz (by rw [qzz]; decide)
set_option maxHeartbeats 200000 in
theorem bs_224 {o : Ob} {op : Int32} {zzz : Int32 × Ob} (h19 : gI o 19 = 0) (hk : ∀ z10, f_X9_next o = some z10 → gI z10 19 = 0) (hzz : bk_X9_behindSum_224 op 1 o = some zzz) : ∃ z10 z11 z12 : Ob, f_X9_next o = some z10 ∧ f_X9_settle z10 5 = some z11 ∧ f_X9_push z11 op 0 = some z12 ∧ zzz = (1, z12) := by
  unfold bk_X9_behindSum_224 at hzz
  obtain ⟨z10, e10zz, hzz⟩ := z_bd hzz
  have e10zz := mu_ok h19 (by decide) e10zz
  have hzz := z_t hzz (hk z10 e10zz)
  obtain ⟨z11, e11zz, hzz⟩ := z_bd hzz
  obtain ⟨z12, e12zz, hzz⟩ := z_bd hzz
  exact ⟨z10, z11, z12, e10zz, e11zz, e12zz, (Option.some.inj hzz).symm⟩
set_option maxHeartbeats 200000 in
theorem bs_cmp {rd o : Ob} {op : Int32} {zzz : Int32 × Ob} (hTzz : TT rd o) (h19 : gI o 19 = 0) (hk : ∀ z10, f_X9_next o = some z10 → gI z10 19 = 0) (hczz : ∀ z7, f_X9_isCompared o = some z7 → z7 = 0) (hs : (IsS o 60 ∧ op = 25) ∨ (IsS o 62 ∧ op = 26) ∨ (IsS o 61 ∧ op = 27)) (hzz : bk_X9_behindSum_163 o = some zzz) : ∃ z10 z11 z12 : Ob, f_X9_next o = some z10 ∧ f_X9_settle z10 5 = some z11 ∧ f_X9_push z11 op 0 = some z12 ∧ zzz = (1, z12) := by
  unfold bk_X9_behindSum_163 at hzz
  obtain ⟨z7, e7zz, hzz⟩ := z_bd hzz
  obtain ⟨z8, e8, hzz⟩ := z_bd (z_t hzz (hczz z7 e7zz))
  rcases s9 hTzz e8 with ⟨a1zz, a2⟩ | ⟨a1zz, a2⟩
  · obtain ⟨z9, e9zz, hzz⟩ := z_bd (z_t hzz a1zz)
    rcases s9 hTzz e9zz with ⟨b1, b2⟩ | ⟨b1, b2⟩
    · have hzz := z_t hzz b1
      have ezz : IsS o 61 ∧ op = 27 := by
        rcases hs with ⟨xzz, -⟩ | ⟨xzz, -⟩ | xzz
        · exact absurd xzz a2
        · exact absurd xzz b2
        · exact xzz
      unfold bk_X9_behindSum_202 at hzz
      obtain ⟨z13zz, e13zz, hzz⟩ := z_bd (z_t hzz rfl)
      rcases s9 hTzz e13zz with ⟨c1zz, c2zz⟩ | ⟨c1zz, -⟩
      · exact absurd ezz.1 c2zz
      · have hzz := z_f hzz c1zz
        unfold bk_X9_behindSum_219 at hzz
        rw [ezz.2]; exact bs_224 h19 hk hzz
    · have hzz := z_f hzz b1
      have ezz : op = 26 := by
        rcases hs with ⟨xzz, -⟩ | ⟨-, xzz⟩ | ⟨xzz, -⟩
        · exact absurd xzz a2
        · exact xzz
        · exact absurd b2 (xzz.ne (by decide))
      unfold bk_X9_behindSum_202 at hzz
      have hzz := z_f hzz (by decide)
      unfold bk_X9_behindSum_219 at hzz
      rw [ezz]; exact bs_224 h19 hk hzz
  · have hzz := z_f hzz a1zz
    have ezz : op = 25 := by
      rcases hs with ⟨-, xzz⟩ | ⟨xzz, -⟩ | ⟨xzz, -⟩
      · exact xzz
      · exact absurd a2 (xzz.ne (by decide))
      · exact absurd a2 (xzz.ne (by decide))
    unfold bk_X9_behindSum_202 at hzz
    have hzz := z_f hzz (by decide)
    unfold bk_X9_behindSum_219 at hzz
    rw [ezz]; exact bs_224 h19 hk hzz
set_option maxHeartbeats 200000 in
theorem bs_nocmp {rd o : Ob} {zzz : Int32 × Ob} (hTzz : TT rd o) (h19 : gI o 19 = 0) (hczz : ∀ z7, f_X9_isCompared o = some z7 → z7 = 0) (n1zz : ¬ IsS o 60) (n2zz : ¬ IsS o 62) (n3zz : ¬ IsS o 61) (hzz : bk_X9_behindSum_163 o = some zzz) : zzz = (1, sI (sI o 19 1) 18 (gI o 14)) := by
  unfold bk_X9_behindSum_163 at hzz
  obtain ⟨z7, e7zz, hzz⟩ := z_bd hzz
  obtain ⟨z8, e8, hzz⟩ := z_bd (z_t hzz (hczz z7 e7zz))
  rcases s9 hTzz e8 with ⟨a1zz, -⟩ | ⟨-, a2⟩
  · obtain ⟨z9, e9zz, hzz⟩ := z_bd (z_t hzz a1zz)
    rcases s9 hTzz e9zz with ⟨b1, -⟩ | ⟨-, b2⟩
    · have hzz := z_t hzz b1
      unfold bk_X9_behindSum_202 at hzz
      obtain ⟨z13zz, e13zz, hzz⟩ := z_bd (z_t hzz rfl)
      rcases s9 hTzz e13zz with ⟨c1zz, -⟩ | ⟨-, c2zz⟩
      · have hzz := z_t hzz c1zz
        unfold bk_X9_behindSum_224 at hzz
        obtain ⟨z10, e10zz, hzz⟩ := z_bd hzz
        have ezz := mu_no h19 e10zz
        have k19 : gI z10 19 = 1 := by rw [ezz]; rfl
        have hzz := z_f hzz (by rw [k19]; decide)
        rw [← Option.some.inj hzz, ezz]
      · exact absurd c2zz n3zz
    · exact absurd b2 n2zz
  · exact absurd a2 n1zz
set_option maxHeartbeats 200000 in
theorem NoOp.op {o : Ob} {op : Int32} (gno : NoOp o) (hop : (IsS o 43 ∧ op = 20) ∨ (IsS o 45 ∧ op = 21) ∨ (IsS o 42 ∧ op = 22) ∨ (IsS o 47 ∧ op = 23) ∨ (IsS o 37 ∧ op = 24) ∨ (NoOp o ∧ op = -1)) : op = -1 := by
  rcases hop with ⟨xzz, -⟩ | ⟨xzz, -⟩ | ⟨xzz, -⟩ | ⟨xzz, -⟩ | ⟨xzz, -⟩ | ⟨-, xzz⟩
  · exact absurd xzz gno.1
  · exact absurd xzz gno.2.1
  · exact absurd xzz gno.2.2.1
  · exact absurd xzz gno.2.2.2.1
  · exact absurd xzz gno.2.2.2.2
  · exact xzz
def PlOut (rT : Ob → Ob → Int32 → Option (Int32 × Ob × Ob)) (od : Bool) (rd oc o : Ob) (zzz : Int32 × Ob × Ob) (yzz : Ob) (tst v2 : Int32) (k1zz k2zz pzz bzz : Nat) : Prop := Bad rd oc o zzz yzz ∨ ∃ (rd3 oc3 o3zz : Ob) (n k1' N' : Nat), bk_X6_readPlain_185 rT 12 400 v2 rd3 oc3 = some zzz ∧ lp_X9_readExpression_20 N' (tst, 2, o3zz) = some yzz ∧ GoodC 3 od rd oc o rd3 oc3 o3zz k1zz k2zz pzz bzz n k1'
set_option maxHeartbeats 200000 in
theorem cmp_eq {rT : Ob → Ob → Int32 → Option (Int32 × Ob × Ob)} {od : Bool} {rd oc o yzz : Ob} {k1zz k2zz pzz bzz Nzz : Nat} {tst p0zz v2 s0zz czz op : Int32} {rd1 oc1 o1 : Ob} {zzz : Int32 × Ob × Ob} {n k1' : Nat} (h30 : gI o 30 = p0zz) (hp0 : 0 ≤ p0zz.toInt) (hp8 : p0zz.toInt ≤ 8) (hbzz : bzz ≤ 400) (hbase : bzz = 0 ∨ 28 ≤ (gA o 27 (bzz - 1)).toInt) (hI : InT o bzz) (ht : ¬ tst = 0)
    (gzz : GoodT 5 od rd oc o rd1 oc1 o1 k1zz k2zz pzz bzz n k1') (h163 : ∃ z3 : Int32 × Ob, bk_X9_behindSum_163 o1 = some z3 ∧ lp_X9_readExpression_20 Nzz (tst, z3.1, z3.2) = some yzz) (hcp : ∀ z7, f_X9_isCompared o1 = some z7 → z7 = 0) (hsc : IsS o1 czz) (hs : (czz = 60 ∧ s0zz = 10 ∧ op = 25) ∨ (czz = 62 ∧ s0zz = 11 ∧ op = 26) ∨ (czz = 61 ∧ s0zz = 12 ∧ op = 27)) (kzz : bk_X6_readPlain_150 rT 12 400 p0zz v2 s0zz rd1 oc1 = some zzz) : PlOut rT od rd oc o zzz yzz tst v2 k1zz k2zz pzz bzz := by
  obtain ⟨z3, h163, hy⟩ := h163
  obtain ⟨hTzz, h19, hpos, hk13, hk11⟩ := gzz.tt
  have hb5 : bzz = 0 ∨ (bnd (gA o 27 (bzz - 1))).toInt < 5 := by
    rcases hbase with qzz | qzz
    · exact Or.inl qzz
    · have := bnd_ge qzz; exact Or.inr (by omega)
  have hCO : opC s0zz op := by
    rcases hs with ⟨-, e1zz, e2zz⟩ | ⟨-, e1zz, e2zz⟩ | ⟨-, e1zz, e2zz⟩
    · exact Or.inl ⟨e1zz, e2zz⟩
    · exact Or.inr (Or.inl ⟨e1zz, e2zz⟩)
    · exact Or.inr (Or.inr ⟨e1zz, e2zz⟩)
  have hopr : (25 ≤ op.toInt ∧ op.toInt ≤ 27) ∧ (bnd op).toInt = 4 ∧ ¬ s0zz = -1 := by
    rcases hs with ⟨-, e1zz, e2zz⟩ | ⟨-, e1zz, e2zz⟩ | ⟨-, e1zz, e2zz⟩ <;> rw [e1zz, e2zz] <;> decide
  have hs' : (IsS o1 60 ∧ op = 25) ∨ (IsS o1 62 ∧ op = 26) ∨ (IsS o1 61 ∧ op = 27) := by
    rcases hs with ⟨ezz, -, e2zz⟩ | ⟨ezz, -, e2zz⟩ | ⟨ezz, -, e2zz⟩ <;> rw [ezz] at hsc
    · exact Or.inl ⟨hsc, e2zz⟩
    · exact Or.inr (Or.inl ⟨hsc, e2zz⟩)
    · exact Or.inr (Or.inr ⟨hsc, e2zz⟩)
  unfold bk_X6_readPlain_150 at kzz
  obtain ⟨z6, es, kzz⟩ := z_bd (z_f kzz hopr.2.2)
  obtain ⟨z7, ez7, kzz⟩ := z_bd kzz
  obtain ⟨azz, bb, ea, ebb, hab, hbb, -⟩ := hTzz.2.2.2.2
  have hk : ∀ z10, f_X9_next o1 = some z10 → gI z10 19 = 0 := fun z10 e10zz => ((tk_eq hTzz.1 hTzz.2.2.2.1 (by omega) (by omega) es e10zz).2.2.1.1 19 (by decide) (by decide) (by decide)).trans h19
  obtain ⟨z10, z11, z12, e10zz, e11zz, e12zz, ez3⟩ := bs_cmp hTzz h19 hk hcp hs' h163
  rw [ez3] at hy
  obtain ⟨k3zz, i1zz, i2zz, i3zz, i4zz, i5zz, i6zz, i7zz, i8zz, i9zz, i10zz⟩ := cmp_in gzz hbzz hb5 hsc.1 e10zz e11zz e12zz es
  rcases sums_all 10 od z6 oc1 z12 yzz k1' k3zz (pzz + 1) (bzz + 1) Nzz tst p0zz z7 i1zz (i6zz.trans h30) hp0 hp8 (Or.inr (by rw [Nat.add_sub_cancel, i5zz, hopr.2.1]; decide)) ez7 hy with gb | ⟨g1, N4zz, o4zz, n', k1'', hy4, g4, gno⟩
  · have ezz : zzz = z7 := by rw [← Option.some.inj (z_t kzz gb.1), ← gb.1]
    rw [ezz]; exact Or.inl (gb.tr i2zz i3zz)
  · have kzz := z_f kzz (by rw [g1]; decide)
    obtain ⟨z8, e8, kzz⟩ := z_bd kzz
    have gC := cmp_out (L := 3) i9zz i2zz i3zz i4zz i5zz i6zz i7zz i8zz i10zz hk13 g4 (by decide) (by rw [hopr.2.1]; decide) hopr.1 hCO e8 rfl
    have q4zz := g4.tt
    obtain ⟨N5, z5, hbs, hy5⟩ := ex_sum q4zz.2.1 hy4
    obtain ⟨op', hb71, hop'⟩ := bs_norm q4zz.1 hbs
    rw [gno.op hop'] at hb71
    obtain ⟨k2', b', w0zz, w1zz, w2zz, w3zz, w4zz, w5, w6zz, -⟩ := g4
    have eB := w1zz.2.2.2.2.2.2.2.1
    have hBzz := w1zz.2.2.2.2.2.2.2.2.1
    have e27zz : gA o4zz 27 bzz = op := (w5 bzz (by omega)).1.trans i5zz
    have hI4 : InT o4zz b' := hI.ext (by omega) (fun jzz hj => (w5 jzz (by omega)).1.trans (i4zz jzz hj).1) (fun jzz x1zz x2zz => by
      rcases (show jzz = bzz ∨ bzz + 1 ≤ jzz by omega) with qzz | qzz
      · rw [qzz, e27zz]; omega
      · have := w6zz jzz qzz x2zz; omega)
    have h163 := bs_none hI4 eB hBzz ht hb71
    unfold bk_X9_behindSum_163 at h163
    obtain ⟨z7', e7', h163⟩ := z_bd h163
    have ic := (ic_of (bzz := bzz + 1) eB w2zz hBzz w6zz (Or.inr (by rw [Nat.add_sub_cancel, e27zz]; exact hopr.1.1)) e7').2 (by omega) (by rw [Nat.add_sub_cancel, e27zz]; exact hopr.1.2)
    have ez5 := Option.some.inj (z_f h163 ic)
    rw [← ez5] at hy5
    exact Or.inr ⟨z7.2.1, z8.2, o4zz, n + n', k1'' + 1, N5, kzz, hy5, gC⟩
set_option maxHeartbeats 200000 in
theorem sums_eq {rT : Ob → Ob → Int32 → Option (Int32 × Ob × Ob)} {od : Bool} {rd oc o yzz : Ob} {k1zz k2zz pzz bzz Nzz : Nat} {tst p0zz v2 : Int32} {zzz z2 : Int32 × Ob × Ob} (hzz : PSt od rd oc o k1zz k2zz pzz bzz) (h30 : gI o 30 = p0zz) (hp0 : 0 ≤ p0zz.toInt) (hp8 : p0zz.toInt ≤ 8) (hbase : bzz = 0 ∨ 28 ≤ (gA o 27 (bzz - 1)).toInt) (hI : InT o bzz) (ht : ¬ tst = 0) (hy : lp_X9_readExpression_20 Nzz (tst, 1, o) = some yzz) (ez2 : fx_X6_readSum 12 400 10 rd oc p0zz = some z2)
    (h1 : (if z2.1 = (0 : Int32) then (some ((0 : Int32), z2.2.1, z2.2.2)) else ((f_X6_isSign z2.2.1 (60 : Int32)).bind fun z3 => if z3 = (0 : Int32) then ((f_X6_isSign z2.2.1 (62 : Int32)).bind fun z4 => if z4 = (0 : Int32) then ((f_X6_isSign z2.2.1 (61 : Int32)).bind fun z5 => if z5 = (0 : Int32) then (bk_X6_readPlain_150 rT 12 400 p0zz v2 (-1 : Int32) z2.2.1 z2.2.2) else (bk_X6_readPlain_150 rT 12 400 p0zz v2 (12 : Int32) z2.2.1 z2.2.2)) else (bk_X6_readPlain_150 rT 12 400 p0zz v2 (11 : Int32) z2.2.1 z2.2.2)) else (bk_X6_readPlain_150 rT 12 400 p0zz v2 (10 : Int32) z2.2.1 z2.2.2))) = some zzz) : PlOut rT od rd oc o zzz yzz tst v2 k1zz k2zz pzz bzz := by
  have hb5 : bzz = 0 ∨ (bnd (gA o 27 (bzz - 1))).toInt < 5 := by
    rcases hbase with qzz | qzz
    · exact Or.inl qzz
    · have := bnd_ge qzz; exact Or.inr (by omega)
  have hbzz := hzz.2.2.2.2.2.2.2.2.1
  rcases sums_all 10 od rd oc o yzz k1zz k2zz pzz bzz Nzz tst p0zz z2 hzz h30 hp0 hp8 hb5 ez2 hy with gb | ⟨g1, N4zz, o1, n, k1', hy4, gzz, gno⟩
  · have ezz : zzz = z2 := by rw [← Option.some.inj (z_t h1 gb.1), ← gb.1]
    rw [ezz]; exact Or.inl gb
  · have h1 := z_f h1 (by rw [g1]; decide)
    have gt := gzz.tt
    obtain ⟨N5, z5, hbs, hy5⟩ := ex_sum gt.2.1 hy4
    obtain ⟨op', hb71, hop'⟩ := bs_norm gt.1 hbs
    rw [gno.op hop'] at hb71
    have gg := gzz
    obtain ⟨k2', b', w0zz, w1zz, w2zz, w3zz, w4zz, w5, w6zz, -⟩ := gg
    have eB := w1zz.2.2.2.2.2.2.2.1
    have hBzz := w1zz.2.2.2.2.2.2.2.2.1
    have hI4 : InT o1 b' := hI.ext w2zz (fun jzz hj => (w5 jzz hj).1) (fun jzz x1zz x2zz => by have := w6zz jzz x1zz x2zz; omega)
    have h163 := bs_none hI4 eB hBzz ht hb71
    have hbase1 : bzz = 0 ∨ 28 ≤ (gA o1 27 (bzz - 1)).toInt := by
      rcases (show bzz = 0 ∨ 0 < bzz by omega) with uzz | uzz
      · exact Or.inl uzz
      · rcases hbase with qzz | qzz
        · exact Or.inl qzz
        · exact Or.inr (by rw [(w5 (bzz - 1) (by omega)).1]; exact qzz)
    have hcp : ∀ z7, f_X9_isCompared o1 = some z7 → z7 = 0 := fun z7 e7zz => (ic_of eB w2zz hBzz w6zz (by rcases hbase1 with qzz | qzz; exact Or.inl qzz; exact Or.inr (by omega)) e7zz).1 hbase1
    obtain ⟨z3, e3zz, h1⟩ := z_bd h1
    rcases s8 gt.1 e3zz with ⟨a1zz, a2⟩ | ⟨a1zz, a2⟩
    · obtain ⟨z4, e4zz, h1⟩ := z_bd (z_t h1 a1zz)
      rcases s8 gt.1 e4zz with ⟨b1, b2⟩ | ⟨b1, b2⟩
      · obtain ⟨z6, e6zz, h1⟩ := z_bd (z_t h1 b1)
        rcases s8 gt.1 e6zz with ⟨c1zz, c2zz⟩ | ⟨c1zz, c2zz⟩
        · have h1 := z_t h1 c1zz
          unfold bk_X6_readPlain_150 at h1
          obtain ⟨z9, e9zz, h1⟩ := z_bd (z_t h1 rfl)
          obtain ⟨-, h1⟩ := z_gd h1
          obtain ⟨x1zz, x2zz⟩ := stop8 e9zz
          rw [bs_nocmp gt.1 gt.2.1 hcp a2 b2 c2zz h163] at hy5
          rw [← Option.some.inj h1, x1zz, x2zz]
          exact Or.inl ((bad_no (oc := z2.2.2) gt.1 rfl hy5 CF.stop).tr w3zz w4zz)
        · exact cmp_eq h30 hp0 hp8 hbzz hbase hI ht gzz ⟨z5, h163, hy5⟩ hcp c2zz (Or.inr (Or.inr ⟨rfl, rfl, rfl⟩)) (z_f h1 c1zz)
      · exact cmp_eq h30 hp0 hp8 hbzz hbase hI ht gzz ⟨z5, h163, hy5⟩ hcp b2 (Or.inr (Or.inl ⟨rfl, rfl, rfl⟩)) (z_f h1 b1)
    · exact cmp_eq h30 hp0 hp8 hbzz hbase hI ht gzz ⟨z5, h163, hy5⟩ hcp a2 (Or.inl ⟨rfl, rfl, rfl⟩) (z_f h1 a1zz)
def NoAO (o : Ob) : Prop := ¬ IsW o [4, 14, 1] ∧ ¬ IsW o [18, 15]
def TstOut (L : Int) (od : Bool) (rd oc o : Ob) (zzz : Int32 × Ob × Ob) (yzz : Ob) (tst : Int32) (k1zz k2zz pzz bzz : Nat) (Ezz : Ob → Prop) : Prop := Bad rd oc o zzz yzz ∨ (zzz.1 = 1 ∧ ∃ (Nzz : Nat) (o' : Ob) (n k1' : Nat), lp_X9_readExpression_20 Nzz (tst, 2, o') = some yzz ∧ GoodC L od rd oc o zzz.2.1 zzz.2.2 o' k1zz k2zz pzz bzz n k1' ∧ Ezz o')
def TstH (rT : Ob → Ob → Int32 → Option (Int32 × Ob × Ob)) : Prop := ∀ (od : Bool) (rd oc o yzz : Ob) (k1zz k2zz pzz bzz Nzz : Nat) (tst p0zz : Int32) (zzz : Int32 × Ob × Ob), PSt od rd oc o k1zz k2zz pzz bzz → gI o 30 = p0zz → 0 ≤ p0zz.toInt → p0zz.toInt ≤ 8 → ¬ tst = 0 → (bzz = 0 ∨ gA o 27 (bzz - 1) = 31) → rT rd oc p0zz = some zzz → lp_X9_readExpression_20 Nzz (tst, 0, o) = some yzz → TstOut 1 od rd oc o zzz yzz tst k1zz k2zz pzz bzz NoAO
set_option maxHeartbeats 200000 in
theorem br_eq {rT : Ob → Ob → Int32 → Option (Int32 × Ob × Ob)} (hR : TstH rT) {od : Bool} {rd oc o yzz : Ob} {k1zz k2zz pzz bzz Nzz : Nat} {tst p0zz v2 : Int32} {zzz : Int32 × Ob × Ob} (hzz : PSt od rd oc o k1zz k2zz pzz bzz) (h30 : gI o 30 = p0zz) (hp0 : 0 ≤ p0zz.toInt) (hp8 : p0zz.toInt ≤ 8) (ht : ¬ tst = 0) (q2zz : IsS o 40) (nw : ¬ IsW o [20, 15, 14]) (hy : lp_X9_readExpression_20 Nzz (tst, 0, o) = some yzz)
    (h1 : (if p0zz < (8 : Int32) then ((f_X6_step rd).bind fun z12 => (rT z12 oc (p0zz + (1 : Int32))).bind fun z13zz => if z13zz.1 = (0 : Int32) then (some ((0 : Int32), z13zz.2.1, z13zz.2.2)) else ((f_X6_isSign z13zz.2.1 (41 : Int32)).bind fun z14zz => if z14zz = (0 : Int32) then ((f_X6_stop z13zz.2.1).bind fun z16 => zgd (zbo z16.1) <| some (z16.1, z16.2, z13zz.2.2)) else ((f_X6_step z13zz.2.1).bind fun z15 => bk_X6_readPlain_185 rT 12 400 v2 z15 z13zz.2.2))) else ((f_X6_stop rd).bind fun z18 => zgd (zbo z18.1) <| some (z18.1, z18.2, oc))) = some zzz) : PlOut rT od rd oc o zzz yzz tst v2 k1zz k2zz pzz bzz := by
  obtain ⟨hTzz, h19, e5zz, hr, ek1, ek2, hp, eb, hbzz, hk2, hMzz⟩ := hzz
  obtain ⟨N1, zr, hr2, hy⟩ := ex_plain h19 hy
  unfold f_X9_readPlain at hr2
  obtain ⟨zw, ezw, hr2⟩ := z_bd hr2
  have uw : zw = 0 := by
    rcases w9 (R := [20, 15, 14]) hTzz (all_dig (by decide)) (by decide) (by decide) ezw with ⟨uzz, -⟩ | ⟨-, uzz⟩
    · exact uzz
    · exact absurd uzz nw
  obtain ⟨zs, ezs, hr2⟩ := z_bd (z_t hr2 uw)
  rcases s9 hTzz ezs with ⟨u1zz, u2zz⟩ | ⟨u1zz, -⟩
  · exact absurd q2zz u2zz
  · obtain ⟨z9, ez9, hr2⟩ := z_bd (z_f hr2 u1zz)
    have ezr : zr = (0, z9) := (Option.some.inj hr2).symm
    rw [ezr] at hy
    unfold f_X9_openBracket at ez9
    obtain ⟨azz, bb, ea, ebb, hab, hbb, hx⟩ := hTzz.2.2.2.2
    have hbb' : bb = azz + 1 := by
      rcases hx with ⟨uzz, -⟩ | ⟨uzz, -⟩ | ⟨uzz, -⟩ | ⟨-, uzz, -⟩
      · exact absurd (uzz.symm.trans q2zz.1) (by decide)
      · exact absurd (uzz.symm.trans q2zz.1) (by decide)
      · exact absurd (uzz.symm.trans q2zz.1) (by decide)
      · exact uzz
    have h400 := hTzz.1.2.2.2
    rw [h30] at ez9
    by_cases c8zz : p0zz < (8 : Int32)
    · have d8zz := cv_lt (a := p0zz.toInt) (b := 8) rfl (by decide) c8zz
      have h1 := z_t h1 c8zz
      obtain ⟨zA, ezA, h1⟩ := z_bd h1
      obtain ⟨z3, ez3, h1⟩ := z_bd h1
      have ez9 := z_f ez9 (fun czz => by have czz := cv_le (a := 8) (b := p0zz.toInt) (by decide) rfl czz; omega)
      unfold bk_X9_openBracket_15 at ez9
      obtain ⟨w1zz, ew1, ez9⟩ := z_bd ez9
      have ew1 := mu_ok h19 (by decide) ew1
      obtain ⟨T1, T2, T3, T4⟩ := tk_eq hTzz.1 hTzz.2.2.2.1 (by omega) (by omega) ezA ew1
      have k19 : gI w1zz 19 = 0 := (T3.1 19 (by decide) (by decide) (by decide)).trans h19
      have ez9 := z_t ez9 k19
      obtain ⟨w2zz, ew2, ez9⟩ := z_lt ez9
      obtain ⟨w3zz, ew3, ez9⟩ := z_bd ez9
      have e9zz : z9 = w3zz := (Option.some.inj ez9).symm
      rw [e9zz] at hy
      obtain ⟨p1zz, p2zz, p3zz, p4zz, p5zz, p6zz, p7zz, p8zz, p9zz⟩ := push9 (bzz := bzz) (by rw [ew2]; exact (congrArg Int32.toInt (T3.1 29 (by decide) (by decide) (by decide))).trans eb) hbzz ew3
      have k30 : gI w2zz 30 = p0zz + 1 := by rw [ew2]; show gI w1zz 30 + 1 = _; rw [T3.1 30 (by decide) (by decide) (by decide), h30]
      have t30 : (p0zz + 1).toInt = p0zz.toInt + 1 := i32_add rfl (by decide) (by omega) (by omega)
      have i3zz : ∀ izz, izz ≠ 14 → izz ≠ 15 → izz ≠ 16 → izz ≠ 29 → izz ≠ 30 → gI w3zz izz = gI o izz := fun izz x1zz x2zz x3 x4zz x5zz => by
        rw [p6zz izz x4zz, ew2]; exact (fset_ne x5zz).trans (T3.1 izz x1zz x2zz x3)
      have jA : ∀ izz, izz ≠ 27 → izz ≠ 28 → gA w3zz izz = gA o izz := fun izz x1zz x2zz => by
        rw [p7zz izz x1zz x2zz, ew2]; exact T3.gA izz
      have jM : w3zz.2.2.2 = o.2.2.2 := by rw [p9zz, ew2]; exact congrArg Prod.snd T3.2.2
      have rr : RF o w3zz := ⟨fun izz x1zz x2zz x3 _ _ _ _ x4zz x5zz => i3zz izz x1zz x2zz x3 x4zz x5zz, fun izz _ _ x1zz x2zz => jA izz x1zz x2zz, jM⟩
      have TT3 : TT zA w3zz := T1.cg rfl rfl rfl rfl rfl rfl (by rw [p6zz 13 (by decide), ew2]; rfl) (by rw [p7zz 12 (by decide) (by decide), ew2]; rfl) (by rw [p6zz 14 (by decide), ew2]; rfl) (by rw [p6zz 15 (by decide), ew2]; rfl) (by rw [p6zz 16 (by decide), ew2]; rfl) ((congrFun p8zz 17).trans (by rw [ew2]; rfl))
      have k14 : gI w3zz 14 = gI w1zz 14 := by rw [p6zz 14 (by decide), ew2]; rfl
      have cfA : CF rd oc zA oc := T2.cc
      have hPS : PSt od zA oc w3zz k1zz k2zz (pzz + 1) (bzz + 1) := ⟨TT3, by rw [i3zz 19 (by decide) (by decide) (by decide) (by decide) (by decide)]; exact h19, by rw [T2.1 5 (by decide) (by decide) (by decide) (by decide), i3zz 26 (by decide) (by decide) (by decide) (by decide) (by decide)]; exact e5zz, by rw [i3zz 26 (by decide) (by decide) (by decide) (by decide) (by decide)]; exact hr, ek1, by rw [i3zz 23 (by decide) (by decide) (by decide) (by decide) (by decide)]; exact ek2, by rw [k14]; omega, by omega, by omega, hk2, hMzz.fr (oc := oc) (oc' := oc) cfA rr⟩
      have ck0 : ckp k2zz o w3zz := fun jzz hj => by rw [jA 24 (by decide) (by decide), jA 25 (by decide) (by decide)]; exact ⟨rfl, rfl⟩
      rcases hR od zA oc w3zz yzz k1zz k2zz (pzz + 1) (bzz + 1) N1 tst (p0zz + 1) z3 hPS (by rw [p6zz 30 (by decide)]; exact k30) (by omega) (by omega) ht (Or.inr (by rw [Nat.add_sub_cancel]; exact p3zz)) ez3 hy with gzz | ⟨g1, N2, o4zz, n, k1', hy4, gzz, gno⟩
      · have hz0 : z3.1 = 0 := gzz.1
        have ez : zzz = z3 := by rw [← Option.some.inj (z_t h1 hz0), ← hz0]
        rw [ez]; exact Or.inl (gzz.tr rr cfA)
      · have h1 := z_f h1 (by rw [g1]; decide)
        obtain ⟨k2', b', s0zz, s1zz, s2zz, s3zz, s4zz, s5, s6zz, s7, s8', s9', s10, s11⟩ := gzz
        obtain ⟨zT, z19, ze5, zr', zk1, zk2, zp, zb, zb', zk, zM⟩ := s1zz
        obtain ⟨N3, zb3, hbs, hy4⟩ := ex_test z19 hy4
        unfold f_X9_behindTest at hbs
        obtain ⟨zw1, ew1', hbs⟩ := z_bd hbs
        have ua : zw1 = 0 := by
          rcases w9 (R := [4, 14, 1]) zT (all_dig (by decide)) (by decide) (by decide) ew1' with ⟨uzz, -⟩ | ⟨-, uzz⟩
          · exact uzz
          · exact absurd uzz gno.1
        obtain ⟨zw2, ew2', hbs⟩ := z_bd (z_t hbs ua)
        have ubzz : zw2 = 0 := by
          rcases w9 (R := [18, 15]) zT (all_dig (by decide)) (by decide) (by decide) ew2' with ⟨uzz, -⟩ | ⟨-, uzz⟩
          · exact uzz
          · exact absurd uzz gno.2
        obtain ⟨z6, ez6, hb71⟩ := z_bd (z_t hbs ubzz)
        have e31zz : gA o4zz 27 bzz = 31 := by rw [(s5 bzz (by omega)).1]; exact p3zz
        have hz6 := inn_top (bzz := bzz) zb zb' (by omega) (by rw [e31zz]; decide) (fun jzz x1zz x2zz => by have := s6zz jzz (by omega) x2zz; omega) ez6
        have hb71 := z_f hb71 (by rw [hz6, e31zz]; decide)
        obtain ⟨z14zz, ez14, hb71⟩ := z_bd hb71
        obtain ⟨z15, ez15, hb71⟩ := z_bd hb71
        obtain ⟨zs5, ezs5, h1⟩ := z_bd h1
        have cf4 : CF rd oc z3.2.1 z3.2.2 := cfA.tr s4zz
        have rr4 : RF o o4zz := rr.tr s3zz
        rcases s8 zT ezs5 with ⟨v1zz, v2⟩ | ⟨v1zz, v2⟩ <;> rcases s9 zT ez14 with ⟨w1', w2'⟩ | ⟨w1', w2'⟩
        · rw [w1'] at ez15
          have e15zz := mu_no z19 ez15
          have k19' : gI z15 19 = 1 := by rw [e15zz]; rfl
          have hb71 := Option.some.inj (z_f hb71 (by rw [k19']; decide))
          rw [← hb71] at hy4
          obtain ⟨z6', ez6', h1⟩ := z_bd (z_t h1 v1zz)
          obtain ⟨-, h1⟩ := z_gd h1
          obtain ⟨x1zz, x2zz⟩ := stop8 ez6'
          rw [← Option.some.inj h1, x1zz, x2zz]
          exact Or.inl ((bad_no (oc := z3.2.2) zT e15zz hy4 CF.stop).tr rr4 cf4)
        · exact absurd w2' v2
        · exact absurd v2 w2'
        · have ez15 := mu_ok z19 w1' ez15
          obtain ⟨zBzz, ezB, h1⟩ := z_bd (z_f h1 v1zz)
          obtain ⟨a5, bb5, ea5, ebb5, hab5, hbb5, hx5⟩ := zT.2.2.2.2
          obtain ⟨U1zz, U2, U3, U4⟩ := tk_eq zT.1 zT.2.2.2.1 (by omega) (by omega) ezB ez15
          have k19' : gI z15 19 = 0 := (U3.1 19 (by decide) (by decide) (by decide)).trans z19
          obtain ⟨z16, ez16, hb71⟩ := z_bd (z_t hb71 k19')
          obtain ⟨o17, g17, hb71⟩ := z_lt hb71
          obtain ⟨o18, g18, hb71⟩ := z_lt hb71
          have ezb3 : zb3 = (2, o18) := (Option.some.inj hb71).symm
          rw [ezb3] at hy4
          obtain ⟨y1', y2', k3zz, y3, y4, y5, y6⟩ := s11.done U3 (by omega) (by decide) (by decide) (Or.inr (by rw [Nat.add_sub_cancel, e31zz]; decide)) ez16
          have i18 : ∀ izz, izz ≠ 29 → izz ≠ 30 → gI o18 izz = gI z16 izz := fun izz x1zz x2zz => by rw [g18, g17]; exact (fset_ne x2zz).trans (fset_ne x1zz)
          have A18 : ∀ izz, gA o18 izz = gA z16 izz := fun izz => by rw [g18, g17]; rfl
          have r18 : RF z16 o18 := ⟨fun izz _ _ _ _ _ _ _ x1zz x2zz => i18 izz x1zz x2zz, fun izz _ _ _ _ => A18 izz, by rw [g18, g17]; rfl⟩
          have rr18 : RF o o18 := rr4.tr (U3.rr.tr (y2'.rr.tr r18))
          have cfB : CF rd oc zBzz z3.2.2 := cf4.tr U2.cc
          have k29 : (gI o18 29).toInt = (bzz : Int) := by
            have : gI o18 29 = gI z16 29 - 1 := by rw [g18, g17]; rfl
            rw [this]
            have := i32_sub (x := gI z16 29) (y := 1) (b := 1) y1' (by decide) (by omega) (by omega)
            omega
          have k30' : gI o18 30 = gI o 30 := by
            have e1zz : gI o18 30 = gI z16 30 - 1 := by rw [g18, g17]; rfl
            have e2zz : gI z16 30 = p0zz + 1 := by rw [y2'.1 30 (by decide) (by decide), U3.1 30 (by decide) (by decide) (by decide), s7, p6zz 30 (by decide)]; exact k30
            rw [e1zz, e2zz, h30]
            exact Int32.toInt_inj.mp (by have := i32_sub (x := p0zz + 1) (y := 1) (b := 1) t30 (by decide) (by omega) (by omega); omega)
          have i26 : gI o18 26 = gI o4zz 26 := (i18 26 (by decide) (by decide)).trans ((y2'.1 26 (by decide) (by decide)).trans (U3.1 26 (by decide) (by decide) (by decide)))
          have T18 : TT zBzz o18 := U1zz.cg rfl rfl rfl rfl rfl rfl ((i18 13 (by decide) (by decide)).trans (y2'.1 13 (by decide) (by decide))) ((A18 12).trans (y2'.2.2.1 12 (by decide) (by decide))) ((i18 14 (by decide) (by decide)).trans (y2'.1 14 (by decide) (by decide))) ((i18 15 (by decide) (by decide)).trans (y2'.1 15 (by decide) (by decide))) ((i18 16 (by decide) (by decide)).trans (y2'.1 16 (by decide) (by decide))) (by rw [g18, g17]; exact congrFun y2'.2.1 17)
          have k14' : gI o18 14 = gI z15 14 := (i18 14 (by decide) (by decide)).trans (y2'.1 14 (by decide) (by decide))
          have y6' : Sx od (gA z3.2.2 5) (gA z3.2.2 6) (gA o18 24) (gA o18 25) true k1zz k1' k2zz k3zz n := by rw [A18 24, A18 25]; exact y6
          have ck18 : ckp k2zz o o18 := fun jzz hj => by rw [A18 24, A18 25, (y5 jzz hj).1, (y5 jzz hj).2]; exact ck0 jzz hj
          have k23 : (gI o18 23).toInt = (k3zz : Int) := by rw [i18 23 (by decide) (by decide)]; exact y3
          have ylt := y6'.lt
          refine Or.inr ⟨zBzz, z3.2.2, o18, n, k1', N3, h1, hy4, k3zz, bzz, by omega, ⟨T18, ?_, ?_, ?_, zk1, k23, ?_, k29, hbzz, y4, hMzz.fr cfB rr18⟩, Nat.le_refl _, rr18, cfB, fun jzz hj => ?_, fun jzz azz czz => by omega, k30', fun jzz hj => s8' jzz hj, ck18, ?_, PEs.none k29 (fun o'' fzz => ⟨k3zz, by rw [fzz.1 23 (by decide) (by decide) (by decide)]; exact k23, y4, fun jzz hj => by rw [fzz.gA 24, fzz.gA 25]; exact ck18 jzz hj, by rw [fzz.gA 24, fzz.gA 25]; exact y6'⟩)⟩
          · rw [i18 19 (by decide) (by decide), y2'.1 19 (by decide) (by decide)]; exact k19'
          · rw [U2.1 5 (by decide) (by decide) (by decide) (by decide), i26]; exact ze5
          · rw [i26]; exact zr'
          · rw [k14']; omega
          · rw [A18 27, A18 28, y2'.2.2.1 27 (by decide) (by decide), y2'.2.2.1 28 (by decide) (by decide), U3.gA 27, U3.gA 28, (s5 jzz (by omega)).1, (s5 jzz (by omega)).2]
            have u27 : gA w2zz 27 = gA o 27 := by rw [ew2]; exact T3.gA 27
            have u28 : gA w2zz 28 = gA o 28 := by rw [ew2]; exact T3.gA 28
            have u5 := p5zz jzz (by omega)
            rw [u27, u28] at u5; exact u5
          · rw [i26, s10, i3zz 26 (by decide) (by decide) (by decide) (by decide) (by decide)]
    · have d8zz := cv_nlt (a := p0zz.toInt) (b := 8) rfl (by decide) c8zz
      have ez9 := z_t ez9 (Int32.le_iff_toInt_le.mpr (by have : (8 : Int32).toInt = 8 := (by decide); omega))
      unfold bk_X9_openBracket_15 at ez9
      obtain ⟨w1zz, ew1, ez9⟩ := z_bd ez9
      have e1zz := mu_no h19 ew1
      have k19 : gI w1zz 19 = 1 := by rw [e1zz]; rfl
      have e9zz : z9 = w1zz := (Option.some.inj (z_f ez9 (by rw [k19]; decide))).symm
      obtain ⟨z8', ez8, h1⟩ := z_bd (z_f h1 c8zz)
      obtain ⟨-, h1⟩ := z_gd h1
      obtain ⟨x1zz, x2zz⟩ := stop8 ez8
      rw [← Option.some.inj h1, x1zz, x2zz]
      exact Or.inl (bad_no hTzz (e9zz.trans e1zz) hy CF.stop)
set_option maxHeartbeats 200000 in
theorem plain_eq {rT : Ob → Ob → Int32 → Option (Int32 × Ob × Ob)} (hR : TstH rT) {od : Bool} {rd oc o yzz : Ob} {k1zz k2zz pzz bzz Nzz : Nat} {tst p0zz : Int32} {zzz : Int32 × Ob × Ob} (hzz : PSt od rd oc o k1zz k2zz pzz bzz) (h30 : gI o 30 = p0zz) (hp0 : 0 ≤ p0zz.toInt) (hp8 : p0zz.toInt ≤ 8) (ht : ¬ tst = 0) (hbase : bzz = 0 ∨ 29 ≤ (gA o 27 (bzz - 1)).toInt) (hI : InT o bzz) (h1 : f_X6_readPlain rT 12 400 rd oc p0zz = some zzz) (hy : lp_X9_readExpression_20 Nzz (tst, 0, o) = some yzz) : TstOut 3 od rd oc o zzz yzz tst k1zz k2zz pzz bzz (fun _ => True) := by
  unfold f_X6_readPlain at h1
  obtain ⟨N', mzz, v2, rd1, o1, hizz, hv, nw, h1, hy⟩ := nots_lp zfu Nzz 0 0 rd o 0 (NI.rf hzz) (by decide) (Or.inl ⟨rfl, rfl⟩) h1 hy
  have hi' := hizz
  obtain ⟨i1zz, i2zz, i3zz, i4zz, i5zz, i6zz, i7zz, i8zz, i9zz⟩ := hizz
  have hTzz := i1zz.1
  have h19 := i1zz.2.1
  have c28zz : (28 : Int32).toInt = 28 := by decide
  have hbase1 : bzz + mzz = 0 ∨ 28 ≤ (gA o1 27 (bzz + mzz - 1)).toInt := by
    rcases (show mzz = 0 ∨ 0 < mzz by omega) with uzz | uzz
    · rcases (show bzz = 0 ∨ 0 < bzz by omega) with wzz | wzz
      · exact Or.inl (by omega)
      · rcases hbase with qzz | qzz
        · exact Or.inl (by omega)
        · refine Or.inr ?_
          rw [show bzz + mzz - 1 = bzz - 1 by omega, (i4zz (bzz - 1) (by omega)).1]; omega
    · refine Or.inr ?_
      rw [i5zz (bzz + mzz - 1) (by omega) (by omega), c28zz]; omega
  have hI1 : InT o1 (bzz + mzz) := hI.ext (by omega) (fun jzz hj => (i4zz jzz hj).1) (fun jzz x1zz x2zz => by rw [i5zz jzz x1zz x2zz, c28zz]; omega)
  have outzz : PlOut rT od rd1 oc o1 zzz yzz tst v2 k1zz k2zz (pzz + mzz) (bzz + mzz) := by
    unfold bk_X6_readPlain_40 at h1
    obtain ⟨z1, e1zz, h1⟩ := z_bd h1
    rcases s8 hTzz e1zz with ⟨a1zz, a2⟩ | ⟨a1zz, a2⟩
    · obtain ⟨z2, ez2, h1⟩ := z_bd (z_t h1 a1zz)
      obtain ⟨N2, zr, hr2, hy⟩ := ex_plain h19 hy
      unfold f_X9_readPlain at hr2
      obtain ⟨zw, ezw, hr2⟩ := z_bd hr2
      have uw : zw = 0 := by
        rcases w9 (R := [20, 15, 14]) hTzz (all_dig (by decide)) (by decide) (by decide) ezw with ⟨uzz, -⟩ | ⟨-, uzz⟩
        · exact uzz
        · exact absurd uzz nw
      obtain ⟨zs, ezs, hr2⟩ := z_bd (z_t hr2 uw)
      rcases s9 hTzz ezs with ⟨u1zz, -⟩ | ⟨-, u2zz⟩
      · obtain ⟨z3, ez3, hr2⟩ := z_bd (z_t hr2 u1zz)
        have ezr := Option.some.inj hr2
        rw [← ezr] at hy
        exact sums_eq i1zz (i6zz.trans h30) hp0 hp8 hbase1 hI1 ht (ex_part_inv h19 ez3 hy) ez2 h1
      · exact absurd u2zz a2
    · exact br_eq hR i1zz (i6zz.trans h30) hp0 hp8 ht a2 nw hy (z_f h1 a1zz)
  rcases outzz with gzz | ⟨rd3, oc3, o3zz, n, k1', N3, h185, hy3, gzz⟩
  · exact Or.inl (gzz.tr i2zz i3zz)
  · obtain ⟨x1zz, x2zz, k1'', gC⟩ := not_out hi' gzz hv h185
    refine Or.inr ⟨x1zz, N3, o3zz, n, k1'', hy3, ?_, trivial⟩
    rw [x2zz]; exact gC
set_option maxHeartbeats 200000 in
theorem land8 {oc oc' : Ob} {p0zz : Int32} {kzz k' : Nat} (e0zz : p0zz.toInt = (kzz : Int)) (ek : (gI oc 8).toInt = (k' : Int)) (hk : kzz < k') (hzz : f_X0_land 12 400 oc p0zz = some oc') : (gA oc' 6 kzz).toInt = (k' : Int) ∧ (∀ jzz, gA oc' 5 jzz = gA oc 5 jzz) ∧ (∀ jzz, jzz ≠ kzz → gA oc' 6 jzz = gA oc 6 jzz) ∧ (∀ izz, gI oc' izz = gI oc izz) ∧ (∀ izz, izz ≠ 6 → gA oc' izz = gA oc izz) := by
  unfold f_X0_land at hzz
  have hzz := z_f hzz (fun czz => by have czz := cv_lt (a := (kzz : Int)) (b := 0) e0zz (by decide) czz; omega)
  have hzz := z_f hzz (fun czz => by have czz := cv_le (a := (k' : Int)) (b := (kzz : Int)) ek e0zz czz; omega)
  obtain ⟨-, hzz⟩ := z_gd hzz
  obtain ⟨o2, e2zz, hzz⟩ := z_lt hzz
  have i0zz : p0zz.toNatClampNeg = kzz := tnc_eq e0zz
  rw [i0zz] at e2zz
  rw [← Option.some.inj hzz, e2zz]
  refine ⟨?_, fun _ => rfl, fun jzz hj => ?_, fun _ => rfl, fun izz hizz => ?_⟩
  · have wzz : gA (tA oc 6 kzz (gI oc 8)) 6 kzz = gI oc 8 := if_pos rfl
    rw [wzz]; exact ek
  · exact if_neg hj
  · exact fset_ne (f := fun izz => gA oc izz) hizz
set_option maxHeartbeats 200000 in
theorem bt_and {rd o : Ob} {zzz : Int32 × Ob} (hTzz : TT rd o) (wzz : IsW o [4, 14, 1]) (hzz : f_X9_behindTest o = some zzz) : ∃ z2 z3 z4 z5 : Ob, f_X9_settle o 2 = some z2 ∧ f_X9_push z2 29 (gI z2 23) = some z3 ∧ f_X9_emit z3 29 0 = some z4 ∧ f_X9_next z4 = some z5 ∧ zzz = (0, z5) := by
  unfold f_X9_behindTest at hzz
  obtain ⟨z1, e1zz, hzz⟩ := z_bd hzz
  rcases w9 (R := [4, 14, 1]) hTzz (all_dig (by decide)) (by decide) (by decide) e1zz with ⟨-, u2zz⟩ | ⟨u1zz, -⟩
  · exact absurd wzz u2zz
  · have hzz := z_f hzz u1zz
    unfold bk_X9_behindTest_22 at hzz
    have hzz := z_f hzz u1zz
    unfold bk_X9_behindTest_32 at hzz
    obtain ⟨z2, e2zz, hzz⟩ := z_bd hzz
    have hzz := z_f hzz u1zz
    unfold bk_X9_behindTest_47 at hzz
    obtain ⟨z3, e3zz, hzz⟩ := z_bd hzz
    have hzz := z_f hzz u1zz
    unfold bk_X9_behindTest_66 at hzz
    obtain ⟨z4, e4zz, hzz⟩ := z_bd hzz
    obtain ⟨z5, e5zz, hzz⟩ := z_bd hzz
    exact ⟨z2, z3, z4, z5, e2zz, e3zz, e4zz, e5zz, (Option.some.inj hzz).symm⟩
set_option maxHeartbeats 200000 in
theorem bt_or {rd o : Ob} {zzz : Int32 × Ob} (hTzz : TT rd o) (nw : ¬ IsW o [4, 14, 1]) (wzz : IsW o [18, 15]) (hzz : f_X9_behindTest o = some zzz) : ∃ z2 z3 z4 z5 : Ob, f_X9_settle o 1 = some z2 ∧ f_X9_push z2 30 (gI z2 23) = some z3 ∧ f_X9_emit z3 30 0 = some z4 ∧ f_X9_next z4 = some z5 ∧ zzz = (0, z5) := by
  unfold f_X9_behindTest at hzz
  obtain ⟨z1, e1zz, hzz⟩ := z_bd hzz
  rcases w9 (R := [4, 14, 1]) hTzz (all_dig (by decide)) (by decide) (by decide) e1zz with ⟨u1zz, -⟩ | ⟨-, u2zz⟩
  · obtain ⟨z6, e6zz, hzz⟩ := z_bd (z_t hzz u1zz)
    rcases w9 (R := [18, 15]) hTzz (all_dig (by decide)) (by decide) (by decide) e6zz with ⟨-, v2⟩ | ⟨v1zz, -⟩
    · exact absurd wzz v2
    · have hzz := z_f hzz v1zz
      unfold bk_X9_behindTest_22 at hzz
      have hzz := z_t hzz u1zz
      unfold bk_X9_behindTest_32 at hzz
      obtain ⟨z2, e2zz, hzz⟩ := z_bd hzz
      have hzz := z_t hzz u1zz
      unfold bk_X9_behindTest_47 at hzz
      obtain ⟨z3, e3zz, hzz⟩ := z_bd hzz
      have hzz := z_t hzz u1zz
      unfold bk_X9_behindTest_66 at hzz
      obtain ⟨z4, e4zz, hzz⟩ := z_bd hzz
      obtain ⟨z5, e5zz, hzz⟩ := z_bd hzz
      exact ⟨z2, z3, z4, z5, e2zz, e3zz, e4zz, e5zz, (Option.some.inj hzz).symm⟩
  · exact absurd u2zz nw
set_option maxHeartbeats 200000 in
theorem ao_in {L : Int} {od : Bool} {rd oc o rd1 oc1 o1 rd2 : Ob} {k1zz k2zz pzz bzz n k1' : Nat} {op s lv : Int32} {z2 z3 z4 z5 : Ob} {zc : Int32 × Ob} (gzz : GoodC L od rd oc o rd1 oc1 o1 k1zz k2zz pzz bzz n k1') (hbzz : bzz ≤ 400) (hl : lv.toInt ≤ L ∧ 1 ≤ lv.toInt) (hbase : bzz = 0 ∨ (bnd (gA o 27 (bzz - 1))).toInt < lv.toInt) (hlen : (gI o1 14).toInt < (gI o1 15).toInt)
    (e2zz : f_X9_settle o1 lv = some z2) (e3zz : f_X9_push z2 op (gI z2 23) = some z3) (e4zz : f_X9_emit z3 op 0 = some z4) (e5' : f_X9_next z4 = some z5) (ec : f_X6_step rd1 = some rd2) (ez : f_X0_add 12 400 oc1 s 0 = some zc) :
    ∃ k3zz : Nat, PSt od rd2 zc.2 z5 (k1' + 1) (k3zz + 1) pzz (bzz + 1) ∧ RF o z5 ∧ CF rd oc rd2 zc.2 ∧ (∀ jzz, jzz < bzz → gA z5 27 jzz = gA o 27 jzz ∧ gA z5 28 jzz = gA o 28 jzz) ∧ gA z5 27 bzz = op ∧ (gA z5 28 bzz).toInt = (k3zz : Int) ∧ gI z5 30 = gI o 30 ∧ ckp k2zz o z5 ∧ (gI z5 26).toInt = (gI o 26).toInt + (n : Int) ∧ Sx od (gA zc.2 5) (gA zc.2 6) (gA z5 24) (gA z5 25) true k1zz k1' k2zz k3zz n ∧ gA z5 24 k3zz = op ∧ gA zc.2 5 k1' = s ∧ zc.1.toInt = (k1' : Int) ∧ (∀ jzz, jzz < k1zz → gA zc.2 5 jzz = gA oc 5 jzz ∧ gA zc.2 6 jzz = gA oc 6 jzz) ∧ bzz < 400 := by
  obtain ⟨k2', b', h0, h1, h2, h3, h4, h5, h6, h7, h8, h9, h10, h11⟩ := gzz
  obtain ⟨hTzz, h19, e5zz, hr, ek1, ek2, hp, eb, hb', hk2, hMzz⟩ := h1
  have topzz : bzz = 0 ∨ (bnd (gA o1 27 (bzz - 1))).toInt < lv.toInt := by
    rcases (show bzz = 0 ∨ 0 < bzz by omega) with uzz | uzz
    · exact Or.inl uzz
    · rcases hbase with qzz | qzz
      · exact Or.inl qzz
      · exact Or.inr (by rw [(h5 (bzz - 1) (by omega)).1]; exact qzz)
  obtain ⟨azz, bb, ea, ebb, hab, hbb, -⟩ := hTzz.2.2.2.2
  have h400 := hTzz.1.2.2.2
  obtain ⟨s1zz, s2zz, k3zz, s3zz, s4zz, s5, s6zz⟩ := h11.done FR9.rf hbzz hl.2 hl.1 topzz e2zz
  have slt := s6zz.lt
  obtain ⟨p1zz, p2zz, p3zz, p4zz, p5zz, p6zz, p7zz, p8zz, p9zz⟩ := push9 s1zz hbzz e3zz
  obtain ⟨m1zz, m2zz, m3zz, m4zz, m5zz, m6zz, m7zz⟩ := emit9 (czz := k3zz) (by rw [p6zz 23 (by decide)]; exact s3zz) s4zz e4zz
  obtain ⟨d1zz, d2zz, d3zz, d4zz, d5zz, d6zz, d7zz⟩ := add8 ek1 (by omega) ez
  have j4zz : ∀ izz, izz ≠ 23 → izz ≠ 29 → gI z4 izz = gI o1 izz := fun izz x1zz x2zz => (m1zz.1 izz x1zz x2zz).trans ((p6zz izz x2zz).trans (s2zz.1 izz x1zz x2zz))
  have hT4 : TT rd1 z4 := by
    refine hTzz.cg rfl rfl rfl rfl rfl rfl (j4zz 13 (by decide) (by decide)) ?_ (j4zz 14 (by decide) (by decide)) (j4zz 15 (by decide) (by decide)) (j4zz 16 (by decide) (by decide)) ?_
    · exact (m1zz.2.2.1 12 (by decide) (by decide)).trans ((p7zz 12 (by decide) (by decide)).trans (s2zz.2.2.1 12 (by decide) (by decide)))
    · exact (congrFun m1zz.2.1 17).trans ((congrFun p8zz 17).trans (congrFun s2zz.2.1 17))
  have k15 := j4zz 15 (by decide) (by decide)
  have k13 := j4zz 13 (by decide) (by decide)
  obtain ⟨T1, T2, T3, T4⟩ := tk_eq hT4.1 hT4.2.2.2.1 (by rw [k15]; omega) (by rw [k15, k13]; omega) ec e5'
  rw [k15] at T4
  have rp : RF z2 z3 := ⟨fun izz _ _ _ _ _ _ _ azz _ => p6zz izz azz, fun izz _ _ azz czz => p7zz izz azz czz, p9zz⟩
  have r1zz : RF o1 z5 := s2zz.rr.tr (rp.tr (m1zz.rr.tr T3.rr))
  have i5zz : ∀ izz, izz ≠ 14 → izz ≠ 15 → izz ≠ 16 → izz ≠ 23 → izz ≠ 29 → gI z5 izz = gI o1 izz := fun izz x1zz x2zz x3 x4zz x5zz => (T3.1 izz x1zz x2zz x3).trans (j4zz izz x4zz x5zz)
  have i26 := i5zz 26 (by decide) (by decide) (by decide) (by decide) (by decide)
  have cz : ∀ jzz, jzz < k3zz → gA z5 24 jzz = gA z2 24 jzz ∧ gA z5 25 jzz = gA z2 25 jzz := fun jzz hj => by
    rw [T3.gA 24, T3.gA 25, (m2zz jzz hj).1, (m2zz jzz hj).2, p7zz 24 (by decide) (by decide), p7zz 25 (by decide) (by decide)]; exact ⟨rfl, rfl⟩
  refine ⟨k3zz, ⟨T1, ?_, ?_, by rw [i26]; exact hr, by omega, ?_, ?_, ?_, by omega, by omega, hMzz.fr (oc := oc1) (oc' := oc1) T2.cc r1zz⟩, h3.tr r1zz, h4.tr (T2.cc.tr (CF.add d6zz d7zz)), fun jzz hj => ?_, ?_, ?_, ?_, fun jzz hj => ?_, by rw [i26]; exact h10, ?_, ?_, d3zz, d1zz, fun jzz hj => ?_, p1zz⟩
  · rw [i5zz 19 (by decide) (by decide) (by decide) (by decide) (by decide)]; exact h19
  · rw [T2.1 5 (by decide) (by decide) (by decide) (by decide), i26]; exact e5zz
  · rw [T3.1 23 (by decide) (by decide) (by decide)]; omega
  · omega
  · rw [T3.1 29 (by decide) (by decide) (by decide), m4zz]; omega
  · rw [T3.gA 27, T3.gA 28, m1zz.2.2.1 27 (by decide) (by decide), m1zz.2.2.1 28 (by decide) (by decide), (p5zz jzz (by omega)).1, (p5zz jzz (by omega)).2, s2zz.2.2.1 27 (by decide) (by decide), s2zz.2.2.1 28 (by decide) (by decide)]; exact h5 jzz hj
  · rw [T3.gA 27, m1zz.2.2.1 27 (by decide) (by decide)]; exact p3zz
  · rw [T3.gA 28, m1zz.2.2.1 28 (by decide) (by decide), p4zz]; exact s3zz
  · rw [i5zz 30 (by decide) (by decide) (by decide) (by decide) (by decide)]; exact h7
  · rw [(cz jzz (by omega)).1, (cz jzz (by omega)).2]; exact s5 jzz hj
  · exact s6zz.eq (fun jzz x1zz x2zz => d5zz jzz (by omega)) (fun jzz x1zz x2zz => cz jzz x2zz)
  · rw [T3.gA 24]; exact m5zz
  · have w5 := d5zz jzz (by omega)
    rw [w5.1, w5.2]; exact h8 jzz hj
set_option maxHeartbeats 200000 in
theorem ao_out {L L' : Int} {od : Bool} {rd oc o rd2 oc2 o2 rd3 oc3 o3zz oc4 : Ob} {k1zz k2zz pzz bzz n n' k1' k3zz k1'' : Nat} {op s pl : Int32} (hSzz : Sx od (gA oc2 5) (gA oc2 6) (gA o2 24) (gA o2 25) true k1zz k1' k2zz k3zz n) (rzz : RF o o2) (czz : CF rd oc rd2 oc2) (hpl : ∀ jzz, jzz < bzz → gA o2 27 jzz = gA o 27 jzz ∧ gA o2 28 jzz = gA o 28 jzz) (hop : gA o2 27 bzz = op) (hat : (gA o2 28 bzz).toInt = (k3zz : Int)) (h30 : gI o2 30 = gI o 30) (hck : ckp k2zz o o2) (h26 : (gI o2 26).toInt = (gI o 26).toInt + (n : Int)) (hbzz : bzz < 400) (hk13 : ∀ jzz, jzz < k1zz → gA oc2 5 jzz = gA oc 5 jzz ∧ gA oc2 6 jzz = gA oc 6 jzz) (hs1 : gA oc2 5 k1' = s) (hs2 : gA o2 24 k3zz = op) (hpc : pl.toInt = (k1' : Int))
    (gzz : GoodC L' od rd2 oc2 o2 rd3 oc3 o3zz (k1' + 1) (k3zz + 1) pzz (bzz + 1) n' k1'') (hL : L ≤ L') (hbn : L ≤ (bnd op).toInt) (hA : opA s op) (ez : f_X0_land 12 400 oc3 pl = some oc4) : GoodC L od rd oc o rd3 oc4 o3zz k1zz k2zz pzz bzz (n + n') k1'' := by
  have hlt := hSzz.lt
  obtain ⟨k2', b', h0, h1, h2, h3, h4, h5, h6, h7, h8, h9, h10, h11⟩ := gzz
  obtain ⟨hTzz, h19, e5zz, hr, ek1, ek2, hp, eb, hb', hk2, hMzz⟩ := h1
  obtain ⟨d1zz, d2zz, d3zz, d4zz, d5zz⟩ := land8 hpc ek1 (by omega) ez
  have hop' : op = 29 ∨ op = 30 := by
    rcases hA with ⟨-, ezz⟩ | ⟨-, ezz⟩
    · exact Or.inl ezz
    · exact Or.inr ezz
  have hopr : 20 ≤ op.toInt ∧ op.toInt ≤ 30 := by rcases hop' with ezz | ezz <;> rw [ezz] <;> decide
  have cfzz : CF rd oc rd3 oc4 := czz.tr (h4.tr (CF.add (fun izz _ => d4zz izz) (fun izz _ xzz => d5zz izz xzz)))
  refine ⟨k2', b', by omega, ⟨hTzz, h19, e5zz, hr, by rw [d4zz 8]; exact ek1, ek2, hp, eb, hb', hk2, hMzz⟩, by omega, rzz.tr h3, cfzz, fun jzz hj => ?_, fun jzz azz czz => ?_, h7.trans h30, fun jzz hj => ?_, hck.tr (h9.le (by omega)), by omega, fun o3' f3zz Nzz lv yzz hl1 hl2 hy => ?_⟩
  · rw [(h5 jzz (by omega)).1, (h5 jzz (by omega)).2]; exact hpl jzz hj
  · rcases (show jzz = bzz ∨ bzz + 1 ≤ jzz by omega) with qzz | qzz
    · rw [qzz, (h5 bzz (by omega)).1, hop]; exact hopr
    · exact h6 jzz qzz czz
  · have w8 := h8 jzz (by omega)
    rw [d2zz jzz, d3zz jzz (by omega), w8.1, w8.2]; exact hk13 jzz hj
  · obtain ⟨N', o4zz, q1zz, q2zz, q3zz, k4zz, q4zz, q5zz, q6zz, q7zz⟩ := h11 o3' f3zz Nzz lv yzz hl1 (by omega) hy
    have e27zz : gA o4zz 27 bzz = op := by rw [q3zz.2.2.1 27 (by decide) (by decide), f3zz.gA 27, (h5 bzz (by omega)).1]; exact hop
    have e28zz : (gA o4zz 28 bzz).toInt = (k3zz : Int) := by rw [q3zz.2.2.1 28 (by decide) (by decide), f3zz.gA 28, (h5 bzz (by omega)).2]; exact hat
    have lt7 := q7zz.lt
    obtain ⟨N'', o5zz, u1zz, u2zz, u3, u4zz, u5, u6⟩ := st_ao (bzz := bzz) (czz := k4zz) (azz := k3zz) (by omega) hbzz (by rw [e27zz]; exact hop') e28zz (by rw [e27zz]; omega) q1zz
    have cz : ∀ jzz, jzz ≠ k3zz → gA o5zz 24 jzz = gA o4zz 24 jzz ∧ gA o5zz 25 jzz = gA o4zz 25 jzz := fun jzz hj => ⟨congrFun u5 jzz, by rw [u6 jzz, if_neg hj]⟩
    refine ⟨N'', o5zz, u1zz, u4zz, q3zz.tr u2zz, k4zz, by rw [u3]; exact q4zz, q5zz, fun jzz hj => ?_, ?_⟩
    · have wzz := hck jzz hj
      have vzz := q6zz jzz (by omega)
      rw [(cz jzz (by omega)).1, (cz jzz (by omega)).2, vzz.1, vzz.2]; exact wzz
    · have cl := Sx.cl od (gA oc4 5) (gA oc4 6) (gA o5zz 24) (gA o5zz 25)
      refine cl.2.2.2.2.1 k1zz k1' k1'' k2zz k3zz k4zz n n' ?_ ?_ ?_ d1zz ?_
      · refine hSzz.eq (fun jzz x1zz x2zz => ?_) (fun jzz x1zz x2zz => ?_)
        · have w8 := h8 jzz (by omega)
          rw [d2zz jzz, d3zz jzz (by omega)]; exact w8
        · have vzz := q6zz jzz (by omega)
          rw [(cz jzz (by omega)).1, (cz jzz (by omega)).2]; exact vzz
      · exact q7zz.eq (fun jzz x1zz x2zz => ⟨d2zz jzz, d3zz jzz (by omega)⟩) (fun jzz x1zz x2zz => cz jzz (by omega))
      · have w8 := h8 k1' (by omega)
        have vzz := q6zz k3zz (by omega)
        rw [d2zz k1', w8.1, hs1, congrFun u5 k3zz, vzz.1, hs2]; exact hA
      · rw [u6 k3zz, if_pos rfl]; exact q4zz
set_option maxHeartbeats 200000 in
theorem GoodC.tt {L : Int} {od : Bool} {rd oc o rd' oc' o' : Ob} {k1zz k2zz pzz bzz n k1' : Nat} (hzz : GoodC L od rd oc o rd' oc' o' k1zz k2zz pzz bzz n k1') : TT rd' o' ∧ gI o' 19 = 0 ∧ ((k1' + pzz : Nat) : Int) ≤ (gI o' 14).toInt ∧ (∀ jzz, jzz < k1zz → gA oc' 5 jzz = gA oc 5 jzz ∧ gA oc' 6 jzz = gA oc 6 jzz) ∧ k1zz ≤ k1' := by
  obtain ⟨k2', b', h0, h1, h2, h3, h4, h5, h6, h7, h8, -⟩ := hzz
  exact ⟨h1.1, h1.2.1, h1.2.2.2.2.2.2.1, h8, h0⟩
set_option maxHeartbeats 200000 in
theorem bnd_30 {xzz : Int32} (hzz : 30 ≤ xzz.toInt) : (bnd xzz).toInt < 2 := by
  unfold bnd
  by_cases c1zz : xzz < (31 : Int32)
  · have d1zz := cv_lt (a := xzz.toInt) (b := 31) rfl (by decide) c1zz
    have ezz : xzz = 30 := Int32.toInt_inj.mp ((show xzz.toInt = 30 by omega).trans (by decide))
    rw [if_pos c1zz, if_pos ezz]; decide
  · rw [if_neg c1zz]; decide
set_option maxHeartbeats 200000 in
theorem both_lp {rT : Ob → Ob → Int32 → Option (Int32 × Ob × Ob)} (hR : TstH rT) {od : Bool} {rd oc o yzz : Ob} {k1zz k2zz pzz bzz : Nat} {tst p0zz : Int32} {zzz : Int32 × Ob × Ob} (h30 : gI o 30 = p0zz) (hp0 : 0 ≤ p0zz.toInt) (hp8 : p0zz.toInt ≤ 8) (ht : ¬ tst = 0) (hbzz : bzz ≤ 400) (hbase : bzz = 0 ∨ (bnd (gA o 27 (bzz - 1))).toInt < 2) (hI : InT o bzz) :
    ∀ (Nzz N2 : Nat) (v2 : Int32) (rd1 oc1 o1 : Ob) (n k1' : Nat), GoodC 2 od rd oc o rd1 oc1 o1 k1zz k2zz pzz bzz n k1' → 0 ≤ v2.toInt → v2.toInt ≤ (k1' : Int) → lp_X6_readBoth_12 rT 12 400 Nzz (p0zz, v2, rd1, oc1) = some zzz → lp_X9_readExpression_20 N2 (tst, 2, o1) = some yzz → TstOut 2 od rd oc o zzz yzz tst k1zz k2zz pzz bzz (fun o' => ¬ IsW o' [4, 14, 1]) := by
  intro Nzz
  induction Nzz with
  | zero => intro N2 v2 rd1 oc1 o1 n k1' _ _ _ hzz; cases hzz
  | succ Nzz ihzz =>
    intro N2 v2 rd1 oc1 o1 n k1' gzz hv0 hv h1 hy
    have h1 : lb_X6_readBoth_12 rT 12 400 (lp_X6_readBoth_12 rT 12 400 Nzz) p0zz v2 rd1 oc1 = some zzz := h1
    unfold lb_X6_readBoth_12 at h1
    obtain ⟨hTzz, h19, hpos, hk13, hk11⟩ := gzz.tt
    have h400 := hTzz.1.2.2.2
    obtain ⟨azz, bb, ea, ebb, hab, hbb, -⟩ := hTzz.2.2.2.2
    have hlen : IsW o1 [4, 14, 1] → (gI o1 14).toInt < (gI o1 15).toInt := fun wzz => by
      obtain ⟨-, a', w1zz, w2zz, -⟩ := wzz
      have w2' : (gI o1 15).toInt = (a' : Int) + 3 := by rw [w2zz]; rfl
      omega
    have hend : ¬ IsW o1 [4, 14, 1] → zzz = (1, rd1, oc1) → TstOut 2 od rd oc o zzz yzz tst k1zz k2zz pzz bzz (fun o' => ¬ IsW o' [4, 14, 1]) := fun qzz ezz => by rw [ezz]; exact Or.inr ⟨rfl, N2, o1, n, k1', hy, gzz, qzz⟩
    by_cases c4zz : (400 : Int32) ≤ v2
    · have d4zz := cv_le (a := 400) (b := v2.toInt) (by decide) rfl c4zz
      exact hend (fun wzz => by have := hlen wzz; omega) (Option.some.inj (z_t h1 c4zz)).symm
    · obtain ⟨zw, ezw, h1⟩ := z_bd (z_f h1 c4zz)
      rcases iw8 (R := [4, 14, 1]) hTzz (by decide) tx5_ok ezw with ⟨q1zz, q2zz⟩ | ⟨q1zz, q2zz⟩
      · exact hend q2zz (Option.some.inj (z_t h1 q1zz)).symm
      · obtain ⟨zs, ezs, h1⟩ := z_bd (z_f h1 q1zz)
        obtain ⟨za, eza, h1⟩ := z_bd h1
        obtain ⟨zi, ezi, h1⟩ := z_bd h1
        obtain ⟨N3, zr, hbt, hy⟩ := ex_test h19 hy
        obtain ⟨z2, z3, z4, z5, f2zz, f3zz, f4zz, f5zz, ezr⟩ := bt_and hTzz q2zz hbt
        rw [ezr] at hy
        obtain ⟨k3zz, i1zz, i2zz, i3zz, i4zz, i5zz, i6zz, i7zz, i8zz, i9zz, i10zz, i11zz, i12zz, i13, i14, i15⟩ := ao_in gzz hbzz ⟨by decide, by decide⟩ (by rcases hbase with qzz | qzz; exact Or.inl qzz; exact Or.inr qzz) (hlen q2zz) f2zz f3zz f4zz f5zz ezs eza
        have hI5 : InT z5 (bzz + 1) := hI.ext (by omega) (fun jzz hj => (i4zz jzz hj).1) (fun jzz x1zz x2zz => by
          rw [show jzz = bzz by omega, i5zz]; decide)
        rcases plain_eq hR i1zz (i7zz.trans h30) hp0 hp8 ht (Or.inr (by rw [Nat.add_sub_cancel, i5zz]; decide)) hI5 ezi hy with gb | ⟨g1, N4zz, o4zz, n', k1'', hy4, g4, -⟩
        · have ezz : zzz = zi := by rw [← Option.some.inj (z_t h1 gb.1), ← gb.1]
          rw [ezz]; exact Or.inl (gb.tr i2zz i3zz)
        · have h1 := z_f h1 (by rw [g1]; decide)
          obtain ⟨zl, ezl, h1⟩ := z_bd h1
          obtain ⟨x7, e7zz, h1⟩ := z_lt h1
          have g5zz := ao_out (L := 2) i10zz i2zz i3zz i4zz i5zz i6zz i7zz i8zz i9zz i15 i14 i12zz i11zz i13 g4 (by decide) (by decide) (Or.inl ⟨rfl, rfl⟩) ezl
          have kk := g4.tt.2.2.2.2
          have d4zz := cv_nle (a := 400) (b := v2.toInt) (by decide) rfl c4zz
          have t7 : x7.toInt = v2.toInt + 1 := by rw [e7zz]; exact i32_add rfl (by decide) (by omega) (by omega)
          exact ihzz N4zz x7 zi.2.1 zl o4zz (n + n') k1'' g5zz (by omega) (by omega) h1 hy4
set_option maxHeartbeats 200000 in
theorem both_eq {rT : Ob → Ob → Int32 → Option (Int32 × Ob × Ob)} (hR : TstH rT) {od : Bool} {rd oc o yzz : Ob} {k1zz k2zz pzz bzz Nzz : Nat} {tst p0zz : Int32} {zzz : Int32 × Ob × Ob} (hzz : PSt od rd oc o k1zz k2zz pzz bzz) (h30 : gI o 30 = p0zz) (hp0 : 0 ≤ p0zz.toInt) (hp8 : p0zz.toInt ≤ 8) (ht : ¬ tst = 0) (hbase : bzz = 0 ∨ 30 ≤ (gA o 27 (bzz - 1)).toInt) (hI : InT o bzz) (h1 : f_X6_readBoth rT 12 400 rd oc p0zz = some zzz) (hy : lp_X9_readExpression_20 Nzz (tst, 0, o) = some yzz) : TstOut 2 od rd oc o zzz yzz tst k1zz k2zz pzz bzz (fun o' => ¬ IsW o' [4, 14, 1]) := by
  unfold f_X6_readBoth at h1
  obtain ⟨z1, ez1, h1⟩ := z_bd h1
  have hb2 : bzz = 0 ∨ (bnd (gA o 27 (bzz - 1))).toInt < 2 := by
    rcases hbase with qzz | qzz
    · exact Or.inl qzz
    · exact Or.inr (bnd_30 qzz)
  rcases plain_eq hR hzz h30 hp0 hp8 ht (by rcases hbase with qzz | qzz; exact Or.inl qzz; exact Or.inr (by omega)) hI ez1 hy with gzz | ⟨g1, N4zz, o4zz, n, k1', hy4, g4, -⟩
  · have ezz : zzz = z1 := by rw [← Option.some.inj (z_t h1 gzz.1), ← gzz.1]
    rw [ezz]; exact Or.inl gzz
  · exact both_lp hR h30 hp0 hp8 ht hzz.2.2.2.2.2.2.2.2.1 hb2 hI zfu N4zz 0 _ _ o4zz n k1' (g4.le (by decide)) (by decide) (by have : (0 : Int32).toInt = 0 := (by decide); omega) (z_f h1 (by rw [g1]; decide)) hy4
set_option maxHeartbeats 200000 in
theorem test_lp {rT : Ob → Ob → Int32 → Option (Int32 × Ob × Ob)} (hR : TstH rT) {od : Bool} {rd oc o yzz : Ob} {k1zz k2zz pzz bzz : Nat} {tst p0zz : Int32} {zzz : Int32 × Ob × Ob} (h30 : gI o 30 = p0zz) (hp0 : 0 ≤ p0zz.toInt) (hp8 : p0zz.toInt ≤ 8) (ht : ¬ tst = 0) (hbzz : bzz ≤ 400) (hbase : bzz = 0 ∨ (bnd (gA o 27 (bzz - 1))).toInt < 1) (hI : InT o bzz) :
    ∀ (Nzz N2 : Nat) (v2 : Int32) (rd1 oc1 o1 : Ob) (n k1' : Nat), GoodC 1 od rd oc o rd1 oc1 o1 k1zz k2zz pzz bzz n k1' → ¬ IsW o1 [4, 14, 1] → 0 ≤ v2.toInt → v2.toInt ≤ (k1' : Int) → lp_X6_readTest_12 rT 12 400 Nzz (p0zz, v2, rd1, oc1) = some zzz → lp_X9_readExpression_20 N2 (tst, 2, o1) = some yzz → TstOut 1 od rd oc o zzz yzz tst k1zz k2zz pzz bzz NoAO := by
  intro Nzz
  induction Nzz with
  | zero => intro N2 v2 rd1 oc1 o1 n k1' _ _ _ _ hzz; cases hzz
  | succ Nzz ihzz =>
    intro N2 v2 rd1 oc1 o1 n k1' gzz na hv0 hv h1 hy
    have h1 : lb_X6_readTest_12 rT 12 400 (lp_X6_readTest_12 rT 12 400 Nzz) p0zz v2 rd1 oc1 = some zzz := h1
    unfold lb_X6_readTest_12 at h1
    obtain ⟨hTzz, h19, hpos, hk13, hk11⟩ := gzz.tt
    have h400 := hTzz.1.2.2.2
    obtain ⟨azz, bb, ea, ebb, hab, hbb, -⟩ := hTzz.2.2.2.2
    have hlen : IsW o1 [18, 15] → (gI o1 14).toInt < (gI o1 15).toInt := fun wzz => by
      obtain ⟨-, a', w1zz, w2zz, -⟩ := wzz
      have w2' : (gI o1 15).toInt = (a' : Int) + 2 := by rw [w2zz]; rfl
      omega
    have hend : ¬ IsW o1 [18, 15] → zzz = (1, rd1, oc1) → TstOut 1 od rd oc o zzz yzz tst k1zz k2zz pzz bzz NoAO := fun qzz ezz => by rw [ezz]; exact Or.inr ⟨rfl, N2, o1, n, k1', hy, gzz, na, qzz⟩
    by_cases c4zz : (400 : Int32) ≤ v2
    · have d4zz := cv_le (a := 400) (b := v2.toInt) (by decide) rfl c4zz
      exact hend (fun wzz => by have := hlen wzz; omega) (Option.some.inj (z_t h1 c4zz)).symm
    · obtain ⟨zw, ezw, h1⟩ := z_bd (z_f h1 c4zz)
      rcases iw8 (R := [18, 15]) hTzz (by decide) tx4_ok ezw with ⟨q1zz, q2zz⟩ | ⟨q1zz, q2zz⟩
      · exact hend q2zz (Option.some.inj (z_t h1 q1zz)).symm
      · obtain ⟨zs, ezs, h1⟩ := z_bd (z_f h1 q1zz)
        obtain ⟨za, eza, h1⟩ := z_bd h1
        obtain ⟨zi, ezi, h1⟩ := z_bd h1
        obtain ⟨N3, zr, hbt, hy⟩ := ex_test h19 hy
        obtain ⟨z2, z3, z4, z5, f2zz, f3zz, f4zz, f5zz, ezr⟩ := bt_or hTzz na q2zz hbt
        rw [ezr] at hy
        obtain ⟨k3zz, i1zz, i2zz, i3zz, i4zz, i5zz, i6zz, i7zz, i8zz, i9zz, i10zz, i11zz, i12zz, i13, i14, i15⟩ := ao_in gzz hbzz ⟨by decide, by decide⟩ (by rcases hbase with qzz | qzz; exact Or.inl qzz; exact Or.inr qzz) (hlen q2zz) f2zz f3zz f4zz f5zz ezs eza
        have hI5 : InT z5 (bzz + 1) := hI.ext (by omega) (fun jzz hj => (i4zz jzz hj).1) (fun jzz x1zz x2zz => by
          rw [show jzz = bzz by omega, i5zz]; decide)
        rcases both_eq hR i1zz (i7zz.trans h30) hp0 hp8 ht (Or.inr (by rw [Nat.add_sub_cancel, i5zz]; decide)) hI5 ezi hy with gb | ⟨g1, N4zz, o4zz, n', k1'', hy4, g4, na4⟩
        · have ezz : zzz = zi := by rw [← Option.some.inj (z_t h1 gb.1), ← gb.1]
          rw [ezz]; exact Or.inl (gb.tr i2zz i3zz)
        · have h1 := z_f h1 (by rw [g1]; decide)
          obtain ⟨zl, ezl, h1⟩ := z_bd h1
          obtain ⟨x7, e7zz, h1⟩ := z_lt h1
          have g5zz := ao_out (L := 1) i10zz i2zz i3zz i4zz i5zz i6zz i7zz i8zz i9zz i15 i14 i12zz i11zz i13 g4 (by decide) (by decide) (Or.inr ⟨rfl, rfl⟩) ezl
          have kk := g4.tt.2.2.2.2
          have d4zz := cv_nle (a := 400) (b := v2.toInt) (by decide) rfl c4zz
          have t7 : x7.toInt = v2.toInt + 1 := by rw [e7zz]; exact i32_add rfl (by decide) (by omega) (by omega)
          exact ihzz N4zz x7 zi.2.1 zl o4zz (n + n') k1'' g5zz na4 (by omega) (by omega) h1 hy4
set_option maxHeartbeats 200000 in
theorem test_eq {rT : Ob → Ob → Int32 → Option (Int32 × Ob × Ob)} (hR : TstH rT) : TstH (fun rd oc p0zz => f_X6_readTest rT 12 400 rd oc p0zz) := by
  intro od rd oc o yzz k1zz k2zz pzz bzz Nzz tst p0zz zzz hzz h30 hp0 hp8 ht hbase h1 hy
  have h1 : f_X6_readTest rT 12 400 rd oc p0zz = some zzz := h1
  unfold f_X6_readTest at h1
  obtain ⟨z1, ez1, h1⟩ := z_bd h1
  have hI : InT o bzz := by
    rcases (show bzz = 0 ∨ 0 < bzz by omega) with qzz | qzz
    · exact Or.inl (fun jzz hj => by omega)
    · rcases hbase with uzz | uzz
      · omega
      · exact Or.inr ⟨bzz - 1, by omega, uzz, fun jzz x1zz x2zz => by omega⟩
  have hb1 : bzz = 0 ∨ (bnd (gA o 27 (bzz - 1))).toInt < 1 := by
    rcases hbase with qzz | qzz
    · exact Or.inl qzz
    · exact Or.inr (by rw [qzz]; decide)
  rcases both_eq hR hzz h30 hp0 hp8 ht (by rcases hbase with qzz | qzz; exact Or.inl qzz; exact Or.inr (by rw [qzz]; decide)) hI ez1 hy with gzz | ⟨g1, N4zz, o4zz, n, k1', hy4, g4, na⟩
  · have ezz : zzz = z1 := by rw [← Option.some.inj (z_t h1 gzz.1), ← gzz.1]
    rw [ezz]; exact Or.inl gzz
  · exact test_lp hR h30 hp0 hp8 ht hzz.2.2.2.2.2.2.2.2.1 hb1 hI zfu N4zz 0 _ _ o4zz n k1' (g4.le (by decide)) na (by decide) (by have : (0 : Int32).toInt = 0 := (by decide); omega) (z_f h1 (by rw [g1]; decide)) hy4
set_option maxHeartbeats 200000 in
theorem tests_all : ∀ d : Nat, TstH (fx_X6_readTest 12 400 d) := by
  intro d
  induction d with
  | zero => intro od rd oc o yzz k1zz k2zz pzz bzz Nzz tst p0zz zzz _ _ _ _ _ _ hzz; cases hzz
  | succ d ihzz =>
    have hzz := test_eq ihzz
    exact hzz
def XS (od : Bool) (rd oc o : Ob) (k1zz k2zz : Nat) : Prop := TT rd o ∧ gI o 19 = 0 ∧ gI rd 5 = gI o 26 ∧ (0 ≤ (gI o 26).toInt ∧ (gI o 26).toInt ≤ 50) ∧ (gI oc 8).toInt = (k1zz : Int) ∧ (gI o 23).toInt = (k2zz : Int) ∧ (k1zz : Int) ≤ (gI o 14).toInt ∧ k2zz ≤ 400 ∧ MD od rd o
def XOut (t : Bool) (od : Bool) (rd oc o : Ob) (zzz : Int32 × Ob × Ob) (yzz : Ob) (k1zz k2zz : Nat) : Prop := Bad rd oc o zzz yzz ∨ (zzz.1 = 1 ∧ ∃ (k1' k2' n : Nat), XS od zzz.2.1 zzz.2.2 yzz k1' k2' ∧ RF o yzz ∧ CF rd oc zzz.2.1 zzz.2.2 ∧ (∀ jzz, jzz < k1zz → gA zzz.2.2 5 jzz = gA oc 5 jzz ∧ gA zzz.2.2 6 jzz = gA oc 6 jzz) ∧ ckp k2zz o yzz ∧ n ≤ 50 ∧ Sx od (gA zzz.2.2 5) (gA zzz.2.2 6) (gA yzz 24) (gA yzz 25) t k1zz k1' k2zz k2' n)
set_option maxHeartbeats 200000 in
theorem x_fin {od t : Bool} {o rd' oc' o' yzz : Ob} {k1zz k2zz k1' k2' b' n : Nat} {L : Int} (hL : 1 ≤ L) (h1 : PSt od rd' oc' o' k1' k2' 0 b') (h3 : RF o o') (h10 : (gI o' 26).toInt = (gI o 26).toInt + (n : Int)) (h0n : 0 ≤ (gI o 26).toInt)
    (h11 : PEs L o' 0 (fun o3zz => ∃ k3zz : Nat, (gI o3zz 23).toInt = (k3zz : Int) ∧ k3zz ≤ 400 ∧ ckp k2zz o o3zz ∧ Sx od (gA oc' 5) (gA oc' 6) (gA o3zz 24) (gA o3zz 25) t k1zz k1' k2zz k3zz n)) (ezz : f_X9_settle o' 1 = some yzz) :
    ∃ k3zz : Nat, XS od rd' oc' yzz k1' k3zz ∧ RF o yzz ∧ ckp k2zz o yzz ∧ n ≤ 50 ∧ Sx od (gA oc' 5) (gA oc' 6) (gA yzz 24) (gA yzz 25) t k1zz k1' k2zz k3zz n := by
  obtain ⟨hTzz, h19, e5zz, hr, ek1, ek2, hp, eb, hb', hk2, hMzz⟩ := h1
  have hone : (1 : Int32).toInt = 1 := by decide
  obtain ⟨s1zz, s2zz, k3zz, s3zz, s4zz, s5, s6zz⟩ := h11.done FR9.rf (Nat.zero_le _) (by decide) (by rw [hone]; exact hL) (Or.inl rfl) ezz
  refine ⟨k3zz, ⟨hTzz.cg rfl rfl rfl rfl rfl rfl (s2zz.1 13 (by decide) (by decide)) (s2zz.2.2.1 12 (by decide) (by decide)) (s2zz.1 14 (by decide) (by decide)) (s2zz.1 15 (by decide) (by decide)) (s2zz.1 16 (by decide) (by decide)) (congrFun s2zz.2.1 17), (s2zz.1 19 (by decide) (by decide)).trans h19, ?_, ?_, ek1, s3zz, ?_, s4zz, hMzz.fr (CF.rf (oc := oc')) s2zz.rr⟩, h3.tr s2zz.rr, s5, by omega, s6zz⟩
  · rw [s2zz.1 26 (by decide) (by decide)]; exact e5zz
  · rw [s2zz.1 26 (by decide) (by decide)]; exact hr
  · rw [s2zz.1 14 (by decide) (by decide)]; omega
set_option maxHeartbeats 200000 in
theorem x_begin {od : Bool} {rd oc o o2 : Ob} {k1zz k2zz : Nat} (hzz : XS od rd oc o k1zz k2zz) (gzz : o2 = sI (sI o 29 0) 30 0) : PSt od rd oc o2 k1zz k2zz 0 0 ∧ RF o o2 ∧ ckp k2zz o o2 ∧ gI o2 30 = 0 ∧ gI o2 26 = gI o 26 := by
  obtain ⟨hTzz, h19, e5zz, hr, ek1, ek2, hp, hk2, hMzz⟩ := hzz
  have i2zz : ∀ izz, izz ≠ 29 → izz ≠ 30 → gI o2 izz = gI o izz := fun izz azz bzz => by rw [gzz]; exact (fset_ne bzz).trans (fset_ne azz)
  have A2 : ∀ izz, gA o2 izz = gA o izz := fun izz => by rw [gzz]; rfl
  have r2 : RF o o2 := ⟨fun izz _ _ _ _ _ _ _ azz bzz => i2zz izz azz bzz, fun izz _ _ _ _ => A2 izz, by rw [gzz]; rfl⟩
  have hT2 : TT rd o2 := hTzz.cg rfl rfl rfl rfl rfl rfl (i2zz 13 (by decide) (by decide)) (A2 12) (i2zz 14 (by decide) (by decide)) (i2zz 15 (by decide) (by decide)) (i2zz 16 (by decide) (by decide)) (by rw [gzz]; rfl)
  have k29 : gI o2 29 = 0 := by rw [gzz]; rfl
  have k30 : gI o2 30 = 0 := by rw [gzz]; rfl
  refine ⟨⟨hT2, (i2zz 19 (by decide) (by decide)).trans h19, e5zz.trans (i2zz 26 (by decide) (by decide)).symm, ?_, ek1, ?_, ?_, ?_, Nat.zero_le _, hk2, hMzz.fr (CF.rf (oc := oc)) r2⟩, r2, fun jzz hj => ⟨by rw [A2 24], by rw [A2 25]⟩, k30, i2zz 26 (by decide) (by decide)⟩
  · rw [i2zz 26 (by decide) (by decide)]; exact hr
  · rw [i2zz 23 (by decide) (by decide)]; exact ek2
  · rw [i2zz 14 (by decide) (by decide)]; omega
  · rw [k29]; decide
set_option maxHeartbeats 200000 in
theorem x_sum {od : Bool} {rd oc o yzz : Ob} {k1zz k2zz : Nat} {zzz : Int32 × Ob × Ob} (hzz : XS od rd oc o k1zz k2zz) (h1 : fx_X6_readSum 12 400 10 rd oc 0 = some zzz) (hy : f_X9_readExpression o 0 = some yzz) : XOut false od rd oc o zzz yzz k1zz k2zz := by
  unfold f_X9_readExpression at hy
  obtain ⟨o1, g1, hy⟩ := z_lt hy
  obtain ⟨o2, g2, hy⟩ := z_lt hy
  have hy := z_t hy rfl
  unfold bk_X9_readExpression_19 at hy
  obtain ⟨Pzz, r2, ck, k30, k26⟩ := x_begin hzz (g2.trans (by rw [g1]))
  rcases sums_all 10 od rd oc o2 yzz k1zz k2zz 0 0 zfu 0 0 zzz Pzz k30 (by decide) (by decide) (Or.inl rfl) h1 hy with gb | ⟨z1, Nzz, o', n, k1', hy, ⟨k2', b', q0, q1zz, q2zz, q3zz, q4zz, q5zz, q6zz, q7zz, q8zz, q9zz, q10zz, q11zz⟩, hno⟩
  · exact Or.inl (gb.tr r2 CF.rf)
  · obtain ⟨N', zr, hbs, hy⟩ := ex_sum q1zz.2.1 hy
    obtain ⟨op, hb71, hop⟩ := bs_norm q1zz.1 hbs
    have eop := hno.op hop
    rw [eop] at hb71
    unfold bk_X9_behindSum_71 at hb71
    obtain ⟨z6, ez6, hb71⟩ := z_bd (z_t hb71 rfl)
    have e6zz : z6 = -1 := inn_no q1zz.2.2.2.2.2.2.2.1 q1zz.2.2.2.2.2.2.2.2.1 (fun jzz hj => by have := q6zz jzz (Nat.zero_le _) hj; omega) zfu 0 0 (by decide) (Nat.zero_le _) ez6
    have hb71 := z_t (z_t (z_f hb71 (by rw [e6zz]; decide)) e6zz) rfl
    rw [← Option.some.inj hb71] at hy
    have es := ex_over q1zz.2.1 hy
    obtain ⟨k3zz, x1zz, x2zz, x3, x4zz, x5zz⟩ := x_fin (by decide) q1zz q3zz q10zz (by rw [k26]; exact hzz.2.2.2.1.1) q11zz es
    exact Or.inr ⟨z1, k1', k3zz, n, x1zz, r2.tr x2zz, q4zz, q8zz, ck.tr x3, x4zz, x5zz⟩
set_option maxHeartbeats 200000 in
theorem x_test {od : Bool} {rd oc o yzz : Ob} {k1zz k2zz : Nat} {zzz : Int32 × Ob × Ob} (hzz : XS od rd oc o k1zz k2zz) (h1 : fx_X6_readTest 12 400 10 rd oc 0 = some zzz) (hy : f_X9_readExpression o 1 = some yzz) : XOut true od rd oc o zzz yzz k1zz k2zz := by
  unfold f_X9_readExpression at hy
  obtain ⟨o1, g1, hy⟩ := z_lt hy
  obtain ⟨o2, g2, hy⟩ := z_lt hy
  have hy := z_f hy (by decide)
  unfold bk_X9_readExpression_19 at hy
  obtain ⟨Pzz, r2, ck, k30, k26⟩ := x_begin hzz (g2.trans (by rw [g1]))
  rcases tests_all 10 od rd oc o2 yzz k1zz k2zz 0 0 zfu 1 0 zzz Pzz k30 (by decide) (by decide) (by decide) (Or.inl rfl) h1 hy with gb | ⟨z1, Nzz, o', n, k1', hy, ⟨k2', b', q0, q1zz, q2zz, q3zz, q4zz, q5zz, q6zz, q7zz, q8zz, q9zz, q10zz, q11zz⟩, hno⟩
  · exact Or.inl (gb.tr r2 CF.rf)
  · obtain ⟨N', zr, hbt, hy⟩ := ex_test q1zz.2.1 hy
    unfold f_X9_behindTest at hbt
    obtain ⟨zw1, ew1, hbt⟩ := z_bd hbt
    have ua : zw1 = 0 := by
      rcases w9 (R := [4, 14, 1]) q1zz.1 (all_dig (by decide)) (by decide) (by decide) ew1 with ⟨uzz, -⟩ | ⟨-, uzz⟩
      · exact uzz
      · exact absurd uzz hno.1
    obtain ⟨zw2, ew2, hbt⟩ := z_bd (z_t hbt ua)
    have uc : zw2 = 0 := by
      rcases w9 (R := [18, 15]) q1zz.1 (all_dig (by decide)) (by decide) (by decide) ew2 with ⟨uzz, -⟩ | ⟨-, uzz⟩
      · exact uzz
      · exact absurd uzz hno.2
    obtain ⟨z7, ez7, hbt⟩ := z_bd (z_t hbt uc)
    have e7zz : z7 = -1 := inn_no q1zz.2.2.2.2.2.2.2.1 q1zz.2.2.2.2.2.2.2.2.1 (fun jzz hj => by have := q6zz jzz (Nat.zero_le _) hj; omega) zfu 0 0 (by decide) (Nat.zero_le _) ez7
    have hbt := z_t hbt e7zz
    rw [← Option.some.inj hbt] at hy
    have es := ex_over q1zz.2.1 hy
    obtain ⟨k3zz, x1zz, x2zz, x3, x4zz, x5zz⟩ := x_fin (by decide) q1zz q3zz q10zz (by rw [k26]; exact hzz.2.2.2.1.1) q11zz es
    exact Or.inr ⟨z1, k1', k3zz, n, x1zz, r2.tr x2zz, q4zz, q8zz, ck.tr x3, x4zz, x5zz⟩
def RW (Fzz azz : Nat) (o o' : Ob) : Prop := (∀ izz, izz ≠ 21 → gI o' izz = gI o izz) ∧ (∀ izz, gL o' izz = gL o izz) ∧ (∀ izz, izz ≠ Fzz → gA o' izz = gA o izz) ∧ o'.2.2.2 = o.2.2.2 ∧ (∀ jzz, (jzz < azz ∨ azz + 8 ≤ jzz) → gA o' Fzz jzz = gA o Fzz jzz)
set_option maxHeartbeats 200000 in
theorem RW.rf {Fzz azz : Nat} {o : Ob} : RW Fzz azz o o := ⟨fun _ _ => rfl, fun _ => rfl, fun _ _ => rfl, rfl, fun _ _ => rfl⟩
set_option maxHeartbeats 200000 in
theorem RW.tr {Fzz azz : Nat} {o o' o'' : Ob} (hzz : RW Fzz azz o o') (h' : RW Fzz azz o' o'') : RW Fzz azz o o'' := ⟨fun izz czz => (h'.1 izz czz).trans (hzz.1 izz czz), fun izz => (h'.2.1 izz).trans (hzz.2.1 izz), fun izz czz => (h'.2.2.1 izz czz).trans (hzz.2.2.1 izz czz), h'.2.2.2.1.trans hzz.2.2.2.1, fun jzz czz => (h'.2.2.2.2 jzz czz).trans (hzz.2.2.2.2 jzz czz)⟩
set_option maxHeartbeats 200000 in
theorem RW.tA {Fzz azz jzz : Nat} {o : Ob} {vzz : Int32} (hzz : azz ≤ jzz ∧ jzz < azz + 8) : RW Fzz azz o (tA o Fzz jzz vzz) := ⟨fun _ _ => rfl, fun _ => rfl, fun izz czz => fset_ne (f := fun izz => gA o izz) czz, rfl, fun izz czz => by rw [upd_at, if_neg (by omega)]⟩
set_option maxHeartbeats 200000 in
theorem RW.s21 {Fzz azz : Nat} {o : Ob} {vzz : Int32} : RW Fzz azz o (sI o 21 vzz) := ⟨fun _ czz => fset_ne czz, fun _ => rfl, fun _ _ => rfl, rfl, fun _ _ => rfl⟩
set_option maxHeartbeats 200000 in
theorem XS.rw' {od : Bool} {rd oc o oc' o' : Ob} {k1zz k2zz Fzz azz : Nat} (hzz : XS od rd oc o k1zz k2zz) (wzz : RW Fzz azz o o') (hF : Fzz ≠ 12) (e8 : gI oc' 8 = gI oc 8) : XS od rd oc' o' k1zz k2zz := by
  obtain ⟨hTzz, h19, e5zz, hr, ek1, ek2, hp, hk2, hMzz⟩ := hzz
  have em : ∀ izz, gM o' izz = gM o izz := fun izz => congrFun (congrArg Prod.fst wzz.2.2.2.1) izz
  refine ⟨hTzz.cg rfl rfl rfl rfl rfl rfl (wzz.1 13 (by decide)) (wzz.2.2.1 12 (fun qzz => hF qzz.symm)) (wzz.1 14 (by decide)) (wzz.1 15 (by decide)) (wzz.1 16 (by decide)) (wzz.2.1 17), (wzz.1 19 (by decide)).trans h19, e5zz.trans (wzz.1 26 (by decide)).symm, by rw [wzz.1 26 (by decide)]; exact hr, by rw [e8]; exact ek1, by rw [wzz.1 23 (by decide)]; exact ek2, by rw [wzz.1 14 (by decide)]; exact hp, hk2, ?_⟩
  exact ⟨fun qzz => by rw [wzz.1 20 (by decide)]; exact hMzz.1 qzz, fun qzz => by rw [wzz.1 20 (by decide)]; exact hMzz.2.1 qzz, fun kzz hk => by rw [em 31]; exact hMzz.2.2.1 kzz hk, fun kzz hk => by rw [em 32]; exact hMzz.2.2.2 kzz hk⟩
set_option maxHeartbeats 200000 in
theorem XS.step {od : Bool} {rd oc o rd' o' : Ob} {k1zz k2zz : Nat} (hzz : XS od rd oc o k1zz k2zz) (e1zz : f_X6_step rd = some rd') (e2zz : f_X9_next o = some o') : XS od rd' oc o' k1zz k2zz ∧ FR6 rd rd' ∧ FR9 o o' := by
  obtain ⟨hTzz, h19, e5zz, hr, ek1, ek2, hp, hk2, hMzz⟩ := hzz
  obtain ⟨azz, bzz, ea, eb, hab, hbzz, -⟩ := hTzz.2.2.2.2
  obtain ⟨T1, T2, T3, T4⟩ := tk_eq hTzz.1 hTzz.2.2.2.1 (by omega) (by omega) e1zz e2zz
  refine ⟨⟨T1, (T3.1 19 (by decide) (by decide) (by decide)).trans h19, ?_, ?_, ek1, ?_, by omega, hk2, hMzz.fr (T2.cc (oc := oc)) T3.rr⟩, T2, T3⟩
  · rw [T2.1 5 (by decide) (by decide) (by decide) (by decide), T3.1 26 (by decide) (by decide) (by decide)]; exact e5zz
  · rw [T3.1 26 (by decide) (by decide) (by decide)]; exact hr
  · rw [T3.1 23 (by decide) (by decide) (by decide)]; exact ek2
set_option maxHeartbeats 200000 in
theorem tA_gA {o : Ob} {izz jzz kzz xzz : Nat} {vzz : Int32} : gA (tA o izz jzz vzz) kzz xzz = if kzz = izz ∧ xzz = jzz then vzz else gA o kzz xzz := by
  by_cases czz : kzz = izz
  · subst czz
    rw [upd_at]
    by_cases d : xzz = jzz
    · rw [if_pos d, if_pos ⟨rfl, d⟩]
    · rw [if_neg d, if_neg (fun qzz => d qzz.2)]
  · rw [if_neg (fun qzz => czz qzz.1)]
    exact congrFun (fset_ne (f := fun izz => gA o izz) czz) xzz
def sfo (od : Bool) : Nat := if od = true then 1 else 3
def rwF (od : Bool) : Nat := if od = true then 55 else 22
def ClE (od : Bool) (oc : Ob) (gzz s2zz w2zz : Nat → Int32) (mzz K1 K2 : Nat) : Prop :=
  ∃ a1zz b1 c1zz a2 b2 c2zz d2zz : Nat, gA oc 0 mzz = gzz (8 * mzz) ∧ (0 ≤ (gA oc 0 mzz).toInt ∧ (gA oc 0 mzz).toInt ≤ 3) ∧ (gA oc 2 mzz).toInt = (a1zz : Int) ∧ (gA oc 3 mzz).toInt = (b1 : Int) ∧ (gA oc 4 mzz).toInt = (c1zz : Int) ∧ (gzz (8 * mzz + sfo od)).toInt = (a2 : Int) ∧ (gzz (8 * mzz + (sfo od + 1))).toInt = (b2 : Int) ∧ (gzz (8 * mzz + 5)).toInt = (c2zz : Int) ∧ (gzz (8 * mzz + 6)).toInt = (d2zz : Int) ∧ (a1zz ≤ b1 ∧ b1 ≤ c1zz ∧ c1zz ≤ K1 ∧ c2zz ≤ d2zz ∧ d2zz ≤ K2) ∧
  ((gA oc 0 mzz = 3 ∧ a1zz = b1 ∧ a2 = b2) ∨ (¬ gA oc 0 mzz = 3 ∧ ∃ n, n ≤ 50 ∧ b2 ≤ K2 ∧ Sx od (gA oc 5) (gA oc 6) s2zz w2zz false a1zz b1 a2 b2 n)) ∧
  ((b1 = c1zz ∧ c2zz = d2zz) ∨ (∃ n, n ≤ 50 ∧ Sx od (gA oc 5) (gA oc 6) s2zz w2zz true b1 c1zz c2zz d2zz n)) ∧
  (od = true → gA oc 1 mzz = gzz (8 * mzz + 7) ∧ 1 ≤ (gA oc 1 mzz).toInt ∧ (gA oc 1 mzz).toInt ≤ 20)
set_option maxHeartbeats 200000 in
theorem ClE.mv {od : Bool} {oc oc' : Ob} {gzz g' s2zz w2zz s2' w2' : Nat → Int32} {mzz K1 K2 K1' K2' : Nat} (hzz : ClE od oc gzz s2zz w2zz mzz K1 K2) (e0zz : ∀ izz, izz < 5 → gA oc' izz mzz = gA oc izz mzz) (e1zz : ∀ jzz, jzz < K1 → gA oc' 5 jzz = gA oc 5 jzz ∧ gA oc' 6 jzz = gA oc 6 jzz) (eg : ∀ izz, izz < 8 → g' (8 * mzz + izz) = gzz (8 * mzz + izz)) (e2zz : ∀ jzz, jzz < K2 → s2' jzz = s2zz jzz ∧ w2' jzz = w2zz jzz) (h1 : K1 ≤ K1') (h2 : K2 ≤ K2') : ClE od oc' g' s2' w2' mzz K1' K2' := by
  obtain ⟨a1zz, b1, c1zz, a2, b2, c2zz, d2zz, x0zz, x1zz, x2zz, x3, x4zz, x5zz, x6, x7, x8, x9, x10, x11, x12⟩ := hzz
  have hs : sfo od + 1 < 8 := by cases od <;> decide
  have eg0 : g' (8 * mzz) = gzz (8 * mzz) := eg 0 (by decide)
  refine ⟨a1zz, b1, c1zz, a2, b2, c2zz, d2zz, ?_, ?_, ?_, ?_, ?_, ?_, ?_, ?_, ?_, ⟨x9.1, x9.2.1, by omega, x9.2.2.2.1, by omega⟩, ?_, ?_, fun qzz => ?_⟩
  · rw [e0zz 0 (by decide), eg0]; exact x0zz
  · rw [e0zz 0 (by decide)]; exact x1zz
  · rw [e0zz 2 (by decide)]; exact x2zz
  · rw [e0zz 3 (by decide)]; exact x3
  · rw [e0zz 4 (by decide)]; exact x4zz
  · rw [eg (sfo od) (by omega)]; exact x5zz
  · rw [eg (sfo od + 1) hs]; exact x6
  · rw [eg 5 (by decide)]; exact x7
  · rw [eg 6 (by decide)]; exact x8
  · rcases x10 with ⟨p1zz, p2zz, p3zz⟩ | ⟨p1zz, n, p2zz, p3zz, p4zz⟩
    · exact Or.inl ⟨by rw [e0zz 0 (by decide)]; exact p1zz, p2zz, p3zz⟩
    · exact Or.inr ⟨by rw [e0zz 0 (by decide)]; exact p1zz, n, p2zz, by omega, p4zz.eq (fun jzz i1zz i2zz => e1zz jzz (by omega)) (fun jzz i1zz i2zz => e2zz jzz (by omega))⟩
  · rcases x11 with pzz | ⟨n, p2zz, p4zz⟩
    · exact Or.inl pzz
    · exact Or.inr ⟨n, p2zz, p4zz.eq (fun jzz i1zz i2zz => e1zz jzz (by omega)) (fun jzz i1zz i2zz => e2zz jzz (by omega))⟩
  · rw [e0zz 1 (by decide), eg 7 (by decide)]; exact x12 qzz
def HDs (o : Ob) : Prop := (∀ kzz, kzz < 4 → (gM o 33 kzz).toInt = codR (tx0.getD kzz [])) ∧ (∀ kzz, kzz < 4 → (gM o 54 kzz).toInt = codR (tx1.getD kzz []))
set_option maxHeartbeats 200000 in
theorem HDs.eq {o o' : Ob} (hzz : HDs o) (ezz : o'.2.2.2 = o.2.2.2) : HDs o' := by
  have em : ∀ izz, gM o' izz = gM o izz := fun izz => congrFun (congrArg Prod.fst ezz) izz
  exact ⟨fun kzz hk => by rw [em 33]; exact hzz.1 kzz hk, fun kzz hk => by rw [em 54]; exact hzz.2 kzz hk⟩
def ClS (od : Bool) (Gzz : Nat → Int32) (rd oc o : Ob) (k1zz k2zz n : Nat) : Prop := XS od rd oc o k1zz k2zz ∧ (gI o 21).toInt = (n : Int) ∧ (gI oc 7).toInt = (n : Int) ∧ HDs o ∧ gA o 3 = Gzz ∧ ∀ mzz, mzz < n → ClE od oc (gA o (rwF od)) (gA o 24) (gA o 25) mzz k1zz k2zz
set_option maxHeartbeats 200000 in
theorem ph_test {od : Bool} {rd oc o yzz : Ob} {k1zz k2zz : Nat} {v1zz : Int32} {zzz : Int32 × Ob × Ob} {Kzz : Ob → Option Ob} (hzz : XS od rd oc o k1zz k2zz) (h1 : bk_X6_readClause_177 12 400 v1zz rd oc = some zzz)
    (h2 : (if (gI o 19) = (0 : Int32) then ((f_X9_isWord o (294 : Int64)).bind fun z14zz => if z14zz = (0 : Int32) then Kzz o else ((f_X9_next o).bind fun z15 => (f_X9_readExpression z15 (1 : Int32)).bind fun z16 => Kzz z16)) else Kzz o) = some yzz) :
    (zzz.1 = 0 ∧ ∃ wzz, Kzz wzz = some yzz ∧ gI wzz 19 = 1 ∧ gI wzz 18 = gI zzz.2.1 3 ∧ gA wzz 3 = gA o 3) ∨
    (∃ (rd' oc' o' : Ob) (k1' k2' : Nat), bk_X6_readClause_200 12 400 v1zz rd' oc' = some zzz ∧ Kzz o' = some yzz ∧ XS od rd' oc' o' k1' k2' ∧ RF o o' ∧ CF rd oc rd' oc' ∧ (∀ jzz, jzz < k1zz → gA oc' 5 jzz = gA oc 5 jzz ∧ gA oc' 6 jzz = gA oc 6 jzz) ∧ ckp k2zz o o' ∧ ((k1' = k1zz ∧ k2' = k2zz) ∨ ∃ n, n ≤ 50 ∧ Sx od (gA oc' 5) (gA oc' 6) (gA o' 24) (gA o' 25) true k1zz k1' k2zz k2' n)) := by
  have hTzz := hzz.1
  unfold bk_X6_readClause_177 at h1
  obtain ⟨z13zz, ez13, h1⟩ := z_bd h1
  obtain ⟨z14zz, ez14, h2⟩ := z_bd (z_t h2 hzz.2.1)
  rcases iw8 (R := [6, 9]) hTzz (by decide) tx3_ok ez13 with ⟨q1zz, q2zz⟩ | ⟨q1zz, q2zz⟩ <;> rcases w9 (R := [6, 9]) hTzz (all_dig (by decide)) (by decide) (by decide) ez14 with ⟨u1zz, u2zz⟩ | ⟨u1zz, u2zz⟩
  · exact Or.inr ⟨rd, oc, o, k1zz, k2zz, z_t h1 q1zz, z_t h2 u1zz, hzz, RF.rf, CF.rf, fun _ _ => ⟨rfl, rfl⟩, ckp.rf, Or.inl ⟨rfl, rfl⟩⟩
  · exact absurd u2zz q2zz
  · exact absurd q2zz u2zz
  · obtain ⟨z17, ez17, h1⟩ := z_bd (z_f h1 q1zz)
    obtain ⟨z18, ez18, h1⟩ := z_bd h1
    obtain ⟨z15, ez15, h2⟩ := z_bd (z_f h2 u1zz)
    obtain ⟨z16, ez16, h2⟩ := z_bd h2
    obtain ⟨hX, f6zz, f9zz⟩ := hzz.step ez17 ez15
    rcases x_test hX ez18 ez16 with gb | ⟨e1zz, k1', k2', n, x1zz, x2zz, x3, x4zz, x5zz, x6, x7⟩
    · have h1 := Option.some.inj (z_t h1 gb.1)
      exact Or.inl ⟨by rw [← h1], z16, h2, gb.2.1, by rw [← h1]; exact gb.2.2.1, (gb.2.2.2.1.2.1 3 (by decide) (by decide) (by decide) (by decide)).trans (f9zz.gA 3)⟩
    · have ck : ckp k2zz o z15 := fun jzz hj => ⟨by rw [f9zz.gA 24], by rw [f9zz.gA 25]⟩
      exact Or.inr ⟨z18.2.1, z18.2.2, z16, k1', k2', z_f h1 (by rw [e1zz]; decide), h2, x1zz, f9zz.rr.tr x2zz, f6zz.cc.tr x3, x4zz, ck.tr x5zz, Or.inr ⟨n, x6, x7⟩⟩
set_option maxRecDepth 100000 in
theorem tx0_d : ∀ kzz, kzz < 4 → tx0[kzz]? = some (tx0.getD kzz []) ∧ (tx0.getD kzz []).length ≤ 10 ∧ (tx0.getD kzz []).all (fun d => decide (1 ≤ d ∧ d ≤ 26)) = true := by decide +kernel
set_option maxRecDepth 100000 in
theorem tx0_n : ∀ jzz, jzz < 4 → ∀ kzz, kzz < 4 → jzz ≠ kzz → codR (tx0.getD jzz []) ≠ codR (tx0.getD kzz []) := by decide +kernel
set_option maxHeartbeats 200000 in
theorem hd_lpL {rd o yzz : Ob} (hzz : TT rd o) (ht : ∀ kzz, kzz < 4 → (gM o 33 kzz).toInt = codR (tx0.getD kzz [])) : ∀ (Nzz : Nat) (v1zz v2 : Int32) (izz : Nat), v2.toInt = (izz : Int) → izz ≤ 4 → ((v1zz = -1 ∧ ∀ jzz, jzz < izz → ¬ IsW o (tx0.getD jzz [])) ∨ (∃ jzz : Nat, jzz < izz ∧ v1zz.toInt = (jzz : Int) ∧ IsW o (tx0.getD jzz []))) → lp_X9_readLaw_4 Nzz (v1zz, v2, o) = some yzz →
    ∃ vzz : Int32, ((vzz = -1 ∧ ∀ jzz, jzz < 4 → ¬ IsW o (tx0.getD jzz [])) ∨ (∃ jzz : Nat, jzz < 4 ∧ vzz.toInt = (jzz : Int) ∧ IsW o (tx0.getD jzz []))) ∧ (if vzz = (-1 : Int32) then (bk_X9_readLaw_53 vzz o) else (if (12 : Int32) ≤ (gI o 21) then (bk_X9_readLaw_53 vzz o) else (bk_X9_readLaw_54 vzz (1 : Int32) o))) = some yzz := by
  intro Nzz
  induction Nzz with
  | zero => intro v1zz v2 izz _ _ _ hzz; cases hzz
  | succ Nzz ihzz =>
    intro v1zz v2 izz e2zz hizz hv hz
    have hz : lb_X9_readLaw_4 (lp_X9_readLaw_4 Nzz) v1zz v2 o = some yzz := hz
    unfold lb_X9_readLaw_4 at hz
    by_cases czz : (4 : Int32) ≤ v2
    · have d := cv_le (a := 4) (b := (izz : Int)) (by decide) e2zz czz
      refine ⟨v1zz, ?_, z_t hz czz⟩
      rcases hv with ⟨q1zz, q2zz⟩ | ⟨jzz, q1zz, q2zz, q3zz⟩
      · exact Or.inl ⟨q1zz, fun jzz hj => q2zz jzz (by omega)⟩
      · exact Or.inr ⟨jzz, by omega, q2zz, q3zz⟩
    · have d := cv_nle (a := 4) (b := (izz : Int)) (by decide) e2zz czz
      obtain ⟨-, hz⟩ := z_gd (z_f hz czz)
      obtain ⟨z2, ez2, hz⟩ := z_bd hz
      have i2zz : v2.toNatClampNeg = izz := tnc_eq e2zz
      rw [i2zz] at ez2
      have hdzz := tx0_d izz (by omega)
      have hst : ∀ s0zz : Int32, bk_X9_readLaw_27 (lp_X9_readLaw_4 Nzz) v2 s0zz o = some yzz → ((s0zz = -1 ∧ ∀ jzz, jzz < izz + 1 → ¬ IsW o (tx0.getD jzz [])) ∨ (∃ jzz : Nat, jzz < izz + 1 ∧ s0zz.toInt = (jzz : Int) ∧ IsW o (tx0.getD jzz []))) → ∃ vzz : Int32, ((vzz = -1 ∧ ∀ jzz, jzz < 4 → ¬ IsW o (tx0.getD jzz [])) ∨ (∃ jzz : Nat, jzz < 4 ∧ vzz.toInt = (jzz : Int) ∧ IsW o (tx0.getD jzz []))) ∧ (if vzz = (-1 : Int32) then (bk_X9_readLaw_53 vzz o) else (if (12 : Int32) ≤ (gI o 21) then (bk_X9_readLaw_53 vzz o) else (bk_X9_readLaw_54 vzz (1 : Int32) o))) = some yzz := by
        intro s0zz kzz hs
        unfold bk_X9_readLaw_27 at kzz
        obtain ⟨x3, e3zz, kzz⟩ := z_lt kzz
        have t3zz : x3.toInt = (izz : Int) + 1 := by rw [e3zz]; exact i32_add e2zz (by decide) (by omega) (by omega)
        exact ihzz s0zz x3 (izz + 1) (by omega) (by omega) hs kzz
      rcases w9 hzz (all_dig hdzz.2.2) hdzz.2.1 (ht izz (by omega)) ez2 with ⟨g1, g2⟩ | ⟨g1, g2⟩
      · refine hst v1zz (z_t hz g1) ?_
        rcases hv with ⟨q1zz, q2zz⟩ | ⟨jzz, q1zz, q2zz, q3zz⟩
        · refine Or.inl ⟨q1zz, fun jzz hj => ?_⟩
          by_cases ezz : jzz = izz
          · rw [ezz]; exact g2
          · exact q2zz jzz (by omega)
        · exact Or.inr ⟨jzz, by omega, q2zz, q3zz⟩
      · exact hst v2 (z_f hz g1) (Or.inr ⟨izz, by omega, e2zz, g2⟩)
set_option maxHeartbeats 200000 in
theorem head_eqL {rd o yzz : Ob} {z1 : Int32} (hzz : TT rd o) (ht : ∀ kzz, kzz < 4 → (gM o 33 kzz).toInt = codR (tx0.getD kzz [])) (h1 : f_X6_wordOf rd 0 = some z1) (hy : f_X9_readLaw o = some yzz) : (z1 = -1 ∧ bk_X9_readLaw_54 (-1) 0 o = some yzz) ∨ ((0 ≤ z1.toInt ∧ z1.toInt ≤ 3) ∧ gI o 16 = 1 ∧ ((gI o 21).toInt < 12 → bk_X9_readLaw_54 z1 1 o = some yzz)) := by
  obtain ⟨vzz, bzz, hx⟩ := hd_lpL hzz ht zfu (-1) 0 0 (by decide) (by decide) (Or.inl ⟨rfl, fun jzz hj => absurd hj (Nat.not_lt_zero _)⟩) hy
  have azz := wo8 hzz (by decide) tx0_ok (by decide) h1
  have hlen : tx0.length = 4 := by decide
  have memzz : ∀ jzz, jzz < 4 → tx0.getD jzz [] ∈ tx0 := fun jzz hj => List.mem_of_getElem? (tx0_d jzz hj).1
  rcases azz with ⟨jzz, R, a1zz, a2, a3⟩ | ⟨a1zz, a2⟩ <;> rcases bzz with ⟨b1, b2⟩ | ⟨kzz, b1, b2, b3⟩
  · have hj : jzz < 4 := by
      rcases (show jzz < 4 ∨ 4 ≤ jzz by omega) with uzz | uzz
      · exact uzz
      · rw [List.getElem?_eq_none (by rw [hlen]; exact uzz)] at a1zz; cases a1zz
    have ezz : tx0.getD jzz [] = R := Option.some.inj ((tx0_d jzz hj).1.symm.trans a1zz)
    rw [← ezz] at a3
    exact absurd a3 (b2 jzz hj)
  · have hj : jzz < 4 := by
      rcases (show jzz < 4 ∨ 4 ≤ jzz by omega) with uzz | uzz
      · exact uzz
      · rw [List.getElem?_eq_none (by rw [hlen]; exact uzz)] at a1zz; cases a1zz
    have ezz : tx0.getD jzz [] = R := Option.some.inj ((tx0_d jzz hj).1.symm.trans a1zz)
    rw [← ezz] at a3
    have ejk : jzz = kzz := by
      rcases (show jzz = kzz ∨ jzz ≠ kzz by omega) with uzz | uzz
      · exact uzz
      · have dj := tx0_d jzz hj
        have dk := tx0_d kzz b1
        exact absurd b3 (IsW.ne hzz (all_dig dj.2.2) dj.2.1 (all_dig dk.2.2) dk.2.1 (tx0_n jzz hj kzz b1 uzz) a3)
    have evzz : vzz = z1 := Int32.toInt_inj.mp (by rw [b2, a2, ejk])
    rw [evzz] at hx
    refine Or.inr ⟨⟨by omega, by omega⟩, a3.1, fun qzz => ?_⟩
    have hx := z_f hx (fun czz => by have czz := cv_eq (a := z1.toInt) (b := -1) rfl (by decide) czz; omega)
    exact z_f hx (fun czz => by have czz := cv_le (a := 12) (b := (gI o 21).toInt) (by decide) rfl czz; omega)
  · refine Or.inl ⟨a1zz, ?_⟩
    have hx := z_t hx b1
    rw [b1] at hx
    exact hx
  · exact absurd b3 (a2 _ (memzz kzz b1))
set_option maxHeartbeats 200000 in
theorem too_manyL {rd o yzz : Ob} (hzz : TT rd o) (h19 : gI o 19 = 0) (ht : ∀ kzz, kzz < 4 → (gM o 33 kzz).toInt = codR (tx0.getD kzz [])) (hn : 12 ≤ (gI o 21).toInt) (hy : f_X9_readLaw o = some yzz) : gI yzz 19 = 1 ∧ gI yzz 18 = gI o 14 ∧ gA yzz 3 = gA o 3 := by
  obtain ⟨vzz, bzz, hx⟩ := hd_lpL hzz ht zfu (-1) 0 0 (by decide) (by decide) (Or.inl ⟨rfl, fun jzz hj => absurd hj (Nat.not_lt_zero _)⟩) hy
  have hx : bk_X9_readLaw_53 vzz o = some yzz := by
    by_cases czz : vzz = -1
    · exact z_t hx czz
    · exact z_t (z_f hx czz) (Int32.le_iff_toInt_le.mpr (by have : (12 : Int32).toInt = 12 := (by decide); omega))
  unfold bk_X9_readLaw_53 bk_X9_readLaw_54 at hx
  obtain ⟨zm, ezm, hx⟩ := z_bd hx
  have em := mu_no h19 ezm
  have k19 : gI zm 19 = 1 := by rw [em]; rfl
  rw [← Option.some.inj (z_f hx (by rw [k19]; decide))]
  exact ⟨k19, by rw [em]; rfl, by rw [em]; rfl⟩

set_option maxRecDepth 100000 in
theorem tx1_d : ∀ kzz, kzz < 4 → tx1[kzz]? = some (tx1.getD kzz []) ∧ (tx1.getD kzz []).length ≤ 10 ∧ (tx1.getD kzz []).all (fun d => decide (1 ≤ d ∧ d ≤ 26)) = true := by decide +kernel
set_option maxRecDepth 100000 in
theorem tx1_n : ∀ jzz, jzz < 4 → ∀ kzz, kzz < 4 → jzz ≠ kzz → codR (tx1.getD jzz []) ≠ codR (tx1.getD kzz []) := by decide +kernel
set_option maxHeartbeats 200000 in
theorem hd_lpO {rd o yzz : Ob} (hzz : TT rd o) (ht : ∀ kzz, kzz < 4 → (gM o 54 kzz).toInt = codR (tx1.getD kzz [])) : ∀ (Nzz : Nat) (v1zz v2 : Int32) (izz : Nat), v2.toInt = (izz : Int) → izz ≤ 4 → ((v1zz = -1 ∧ ∀ jzz, jzz < izz → ¬ IsW o (tx1.getD jzz [])) ∨ (∃ jzz : Nat, jzz < izz ∧ v1zz.toInt = (jzz : Int) ∧ IsW o (tx1.getD jzz []))) → lp_X9_readOrder_4 Nzz (v1zz, v2, o) = some yzz →
    ∃ vzz : Int32, ((vzz = -1 ∧ ∀ jzz, jzz < 4 → ¬ IsW o (tx1.getD jzz [])) ∨ (∃ jzz : Nat, jzz < 4 ∧ vzz.toInt = (jzz : Int) ∧ IsW o (tx1.getD jzz []))) ∧ (if vzz = (-1 : Int32) then (bk_X9_readOrder_53 vzz o) else (if (12 : Int32) ≤ (gI o 21) then (bk_X9_readOrder_53 vzz o) else (bk_X9_readOrder_54 vzz (1 : Int32) o))) = some yzz := by
  intro Nzz
  induction Nzz with
  | zero => intro v1zz v2 izz _ _ _ hzz; cases hzz
  | succ Nzz ihzz =>
    intro v1zz v2 izz e2zz hizz hv hz
    have hz : lb_X9_readOrder_4 (lp_X9_readOrder_4 Nzz) v1zz v2 o = some yzz := hz
    unfold lb_X9_readOrder_4 at hz
    by_cases czz : (4 : Int32) ≤ v2
    · have d := cv_le (a := 4) (b := (izz : Int)) (by decide) e2zz czz
      refine ⟨v1zz, ?_, z_t hz czz⟩
      rcases hv with ⟨q1zz, q2zz⟩ | ⟨jzz, q1zz, q2zz, q3zz⟩
      · exact Or.inl ⟨q1zz, fun jzz hj => q2zz jzz (by omega)⟩
      · exact Or.inr ⟨jzz, by omega, q2zz, q3zz⟩
    · have d := cv_nle (a := 4) (b := (izz : Int)) (by decide) e2zz czz
      obtain ⟨-, hz⟩ := z_gd (z_f hz czz)
      obtain ⟨z2, ez2, hz⟩ := z_bd hz
      have i2zz : v2.toNatClampNeg = izz := tnc_eq e2zz
      rw [i2zz] at ez2
      have hdzz := tx1_d izz (by omega)
      have hst : ∀ s0zz : Int32, bk_X9_readOrder_27 (lp_X9_readOrder_4 Nzz) v2 s0zz o = some yzz → ((s0zz = -1 ∧ ∀ jzz, jzz < izz + 1 → ¬ IsW o (tx1.getD jzz [])) ∨ (∃ jzz : Nat, jzz < izz + 1 ∧ s0zz.toInt = (jzz : Int) ∧ IsW o (tx1.getD jzz []))) → ∃ vzz : Int32, ((vzz = -1 ∧ ∀ jzz, jzz < 4 → ¬ IsW o (tx1.getD jzz [])) ∨ (∃ jzz : Nat, jzz < 4 ∧ vzz.toInt = (jzz : Int) ∧ IsW o (tx1.getD jzz []))) ∧ (if vzz = (-1 : Int32) then (bk_X9_readOrder_53 vzz o) else (if (12 : Int32) ≤ (gI o 21) then (bk_X9_readOrder_53 vzz o) else (bk_X9_readOrder_54 vzz (1 : Int32) o))) = some yzz := by
        intro s0zz kzz hs
        unfold bk_X9_readOrder_27 at kzz
        obtain ⟨x3, e3zz, kzz⟩ := z_lt kzz
        have t3zz : x3.toInt = (izz : Int) + 1 := by rw [e3zz]; exact i32_add e2zz (by decide) (by omega) (by omega)
        exact ihzz s0zz x3 (izz + 1) (by omega) (by omega) hs kzz
      rcases w9 hzz (all_dig hdzz.2.2) hdzz.2.1 (ht izz (by omega)) ez2 with ⟨g1, g2⟩ | ⟨g1, g2⟩
      · refine hst v1zz (z_t hz g1) ?_
        rcases hv with ⟨q1zz, q2zz⟩ | ⟨jzz, q1zz, q2zz, q3zz⟩
        · refine Or.inl ⟨q1zz, fun jzz hj => ?_⟩
          by_cases ezz : jzz = izz
          · rw [ezz]; exact g2
          · exact q2zz jzz (by omega)
        · exact Or.inr ⟨jzz, by omega, q2zz, q3zz⟩
      · exact hst v2 (z_f hz g1) (Or.inr ⟨izz, by omega, e2zz, g2⟩)
set_option maxHeartbeats 200000 in
theorem head_eqO {rd o yzz : Ob} {z1 : Int32} (hzz : TT rd o) (ht : ∀ kzz, kzz < 4 → (gM o 54 kzz).toInt = codR (tx1.getD kzz [])) (h1 : f_X6_wordOf rd 1 = some z1) (hy : f_X9_readOrder o = some yzz) : (z1 = -1 ∧ bk_X9_readOrder_54 (-1) 0 o = some yzz) ∨ ((0 ≤ z1.toInt ∧ z1.toInt ≤ 3) ∧ gI o 16 = 1 ∧ ((gI o 21).toInt < 12 → bk_X9_readOrder_54 z1 1 o = some yzz)) := by
  obtain ⟨vzz, bzz, hx⟩ := hd_lpO hzz ht zfu (-1) 0 0 (by decide) (by decide) (Or.inl ⟨rfl, fun jzz hj => absurd hj (Nat.not_lt_zero _)⟩) hy
  have azz := wo8 hzz (by decide) tx1_ok (by decide) h1
  have hlen : tx1.length = 4 := by decide
  have memzz : ∀ jzz, jzz < 4 → tx1.getD jzz [] ∈ tx1 := fun jzz hj => List.mem_of_getElem? (tx1_d jzz hj).1
  rcases azz with ⟨jzz, R, a1zz, a2, a3⟩ | ⟨a1zz, a2⟩ <;> rcases bzz with ⟨b1, b2⟩ | ⟨kzz, b1, b2, b3⟩
  · have hj : jzz < 4 := by
      rcases (show jzz < 4 ∨ 4 ≤ jzz by omega) with uzz | uzz
      · exact uzz
      · rw [List.getElem?_eq_none (by rw [hlen]; exact uzz)] at a1zz; cases a1zz
    have ezz : tx1.getD jzz [] = R := Option.some.inj ((tx1_d jzz hj).1.symm.trans a1zz)
    rw [← ezz] at a3
    exact absurd a3 (b2 jzz hj)
  · have hj : jzz < 4 := by
      rcases (show jzz < 4 ∨ 4 ≤ jzz by omega) with uzz | uzz
      · exact uzz
      · rw [List.getElem?_eq_none (by rw [hlen]; exact uzz)] at a1zz; cases a1zz
    have ezz : tx1.getD jzz [] = R := Option.some.inj ((tx1_d jzz hj).1.symm.trans a1zz)
    rw [← ezz] at a3
    have ejk : jzz = kzz := by
      rcases (show jzz = kzz ∨ jzz ≠ kzz by omega) with uzz | uzz
      · exact uzz
      · have dj := tx1_d jzz hj
        have dk := tx1_d kzz b1
        exact absurd b3 (IsW.ne hzz (all_dig dj.2.2) dj.2.1 (all_dig dk.2.2) dk.2.1 (tx1_n jzz hj kzz b1 uzz) a3)
    have evzz : vzz = z1 := Int32.toInt_inj.mp (by rw [b2, a2, ejk])
    rw [evzz] at hx
    refine Or.inr ⟨⟨by omega, by omega⟩, a3.1, fun qzz => ?_⟩
    have hx := z_f hx (fun czz => by have czz := cv_eq (a := z1.toInt) (b := -1) rfl (by decide) czz; omega)
    exact z_f hx (fun czz => by have czz := cv_le (a := 12) (b := (gI o 21).toInt) (by decide) rfl czz; omega)
  · refine Or.inl ⟨a1zz, ?_⟩
    have hx := z_t hx b1
    rw [b1] at hx
    exact hx
  · exact absurd b3 (a2 _ (memzz kzz b1))
set_option maxHeartbeats 200000 in
theorem too_manyO {rd o yzz : Ob} (hzz : TT rd o) (h19 : gI o 19 = 0) (ht : ∀ kzz, kzz < 4 → (gM o 54 kzz).toInt = codR (tx1.getD kzz [])) (hn : 12 ≤ (gI o 21).toInt) (hy : f_X9_readOrder o = some yzz) : gI yzz 19 = 1 ∧ gI yzz 18 = gI o 14 ∧ gA yzz 3 = gA o 3 := by
  obtain ⟨vzz, bzz, hx⟩ := hd_lpO hzz ht zfu (-1) 0 0 (by decide) (by decide) (Or.inl ⟨rfl, fun jzz hj => absurd hj (Nat.not_lt_zero _)⟩) hy
  have hx : bk_X9_readOrder_53 vzz o = some yzz := by
    by_cases czz : vzz = -1
    · exact z_t hx czz
    · exact z_t (z_f hx czz) (Int32.le_iff_toInt_le.mpr (by have : (12 : Int32).toInt = 12 := (by decide); omega))
  unfold bk_X9_readOrder_53 bk_X9_readOrder_54 at hx
  obtain ⟨zm, ezm, hx⟩ := z_bd hx
  have em := mu_no h19 ezm
  have k19 : gI zm 19 = 1 := by rw [em]; rfl
  rw [← Option.some.inj (z_f hx (by rw [k19]; decide))]
  exact ⟨k19, by rw [em]; rfl, by rw [em]; rfl⟩
set_option maxHeartbeats 200000 in
theorem clr_L {yzz : Ob} {v1zz v2 : Int32} {n : Nat} (e2zz : v2.toInt = 8 * (n : Int)) (hn : n < 12) : ∀ (Nzz : Nat) (v3 : Int32) (o : Ob) (izz : Nat), v3.toInt = (izz : Int) → izz ≤ 8 → lp_X9_readLaw_75 Nzz (v1zz, v2, v3, o) = some yzz →
    ∃ o7 : Ob, RW 22 (8 * n) o o7 ∧ gI o7 21 = gI o 21 + 1 ∧ gA o7 22 (8 * n) = v1zz ∧ gA o7 22 (8 * n + 3) = gI o 23 ∧ (if v1zz = (3 : Int32) then (bk_X9_readLaw_135 v2 o7) else ((f_X9_readExpression o7 (0 : Int32)).bind fun z17 => bk_X9_readLaw_135 v2 z17)) = some yzz := by
  intro Nzz
  induction Nzz with
  | zero => intro v3 o izz _ _ hzz; cases hzz
  | succ Nzz ihzz =>
    intro v3 o izz e3zz hizz hz
    have hz : lb_X9_readLaw_75 (lp_X9_readLaw_75 Nzz) v1zz v2 v3 o = some yzz := hz
    unfold lb_X9_readLaw_75 at hz
    have i0zz : v2.toNatClampNeg = 8 * n := tnc_eq (by omega)
    by_cases czz : (8 : Int32) ≤ v3
    · have d := cv_le (a := 8) (b := (izz : Int)) (by decide) e3zz czz
      obtain ⟨-, hz⟩ := z_gd (z_t hz czz)
      obtain ⟨o4zz, g4, hz⟩ := z_lt hz
      obtain ⟨o5zz, g5zz, hz⟩ := z_lt hz
      obtain ⟨-, hz⟩ := z_gd hz
      obtain ⟨o7, g7, hz⟩ := z_lt hz
      have t3zz : (v2 + (3 : Int32)).toInt = 8 * (n : Int) + 3 := i32_add e2zz (by decide) (by omega) (by omega)
      have i3zz : (v2 + (3 : Int32)).toNatClampNeg = 8 * n + 3 := tnc_eq (by omega)
      rw [i0zz] at g4
      rw [i3zz] at g7
      have w4zz : RW 22 (8 * n) o o4zz := by rw [g4]; exact RW.tA ⟨by omega, by omega⟩
      have w5 : RW 22 (8 * n) o4zz o5zz := by rw [g5zz]; exact RW.s21
      have w7zz : RW 22 (8 * n) o5zz o7 := by rw [g7]; exact RW.tA ⟨by omega, by omega⟩
      refine ⟨o7, w4zz.tr (w5.tr w7zz), ?_, ?_, ?_, hz⟩
      · have uzz : gI o7 21 = gI o5zz 21 := by rw [g7]; rfl
        have u' : gI o4zz 21 = gI o 21 := by rw [g4]; rfl
        rw [uzz, g5zz]; show gI o4zz 21 + 1 = _; rw [u']
      · rw [g7, upd_at, if_neg (by omega), g5zz]
        show gA o4zz 22 (8 * n) = v1zz
        rw [g4, upd_at, if_pos rfl]
      · rw [g7, upd_at, if_pos rfl, w5.1 23 (by decide), w4zz.1 23 (by decide)]
    · have d := cv_nle (a := 8) (b := (izz : Int)) (by decide) e3zz czz
      obtain ⟨-, hz⟩ := z_gd (z_f hz czz)
      obtain ⟨o19, g19, hz⟩ := z_lt hz
      obtain ⟨x20, gx, hz⟩ := z_lt hz
      have t3zz : (v2 + v3).toInt = 8 * (n : Int) + (izz : Int) := i32_add e2zz e3zz (by omega) (by omega)
      have i3zz : (v2 + v3).toNatClampNeg = 8 * n + izz := tnc_eq (by omega)
      have tx : x20.toInt = (izz : Int) + 1 := by rw [gx]; exact i32_add e3zz (by decide) (by omega) (by omega)
      rw [i3zz] at g19
      have w19 : RW 22 (8 * n) o o19 := by rw [g19]; exact RW.tA ⟨by omega, by omega⟩
      obtain ⟨o7, q1zz, q2zz, q3zz, q4zz, q5zz⟩ := ihzz x20 o19 (izz + 1) (by omega) (by omega) hz
      have uzz : gI o19 21 = gI o 21 := by rw [g19]; rfl
      exact ⟨o7, w19.tr q1zz, by rw [q2zz, uzz], q3zz, by rw [q4zz, w19.1 23 (by decide)], q5zz⟩
set_option maxHeartbeats 200000 in
theorem bad185 {v2 : Int32} {wzz yzz : Ob} (hzz : bk_X9_readLaw_185 v2 wzz = some yzz) : gI yzz 19 = gI wzz 19 ∧ gI yzz 18 = gI wzz 18 ∧ gA yzz 3 = gA wzz 3 := by
  unfold bk_X9_readLaw_185 at hzz
  obtain ⟨-, hzz⟩ := z_gd hzz
  obtain ⟨o13, gzz, hzz⟩ := z_lt hzz
  rw [← Option.some.inj hzz, gzz]
  exact ⟨rfl, rfl, rfl⟩
set_option maxHeartbeats 200000 in
theorem bad135 {v2 : Int32} {wzz yzz : Ob} (h19 : gI wzz 19 = 1) (hzz : bk_X9_readLaw_135 v2 wzz = some yzz) : gI yzz 19 = 1 ∧ gI yzz 18 = gI wzz 18 ∧ gA yzz 3 = gA wzz 3 := by
  unfold bk_X9_readLaw_135 at hzz
  obtain ⟨-, hzz⟩ := z_gd hzz
  obtain ⟨o9, g9, hzz⟩ := z_lt hzz
  obtain ⟨-, hzz⟩ := z_gd hzz
  obtain ⟨o11, g11, hzz⟩ := z_lt hzz
  have e19zz : gI o11 19 = 1 := by rw [g11, g9]; exact h19
  have e18zz : gI o11 18 = gI wzz 18 := by rw [g11, g9]; rfl
  have qzz := bad185 (z_f hzz (by rw [e19zz]; decide))
  exact ⟨qzz.1.trans e19zz, qzz.2.1.trans e18zz, qzz.2.2.trans (by rw [g11, g9]; rfl)⟩
set_option maxHeartbeats 200000 in
theorem ix8 {xzz czz : Int32} {n kzz : Nat} (hzz : xzz.toInt = 8 * (n : Int)) (hn : n < 12) (hczz : czz.toInt = (kzz : Int)) (hk : kzz < 8) : (xzz + czz).toNatClampNeg = 8 * n + kzz := tnc_eq (by rw [i32_add hzz hczz (by omega) (by omega)]; omega)
set_option maxHeartbeats 200000 in
theorem clause_L {rd oc o yzz : Ob} {k1zz k2zz n : Nat} {v1zz : Int32} {zzz : Int32 × Ob × Ob} {Gzz : Nat → Int32} (hC : ClS false Gzz rd oc o k1zz k2zz n) (hn : n < 12) (evzz : v1zz.toInt = (n : Int)) (h1 : f_X6_readClause 12 400 rd oc v1zz = some zzz) (hy : f_X9_readLaw o = some yzz) : (zzz.1 = 0 ∧ gI yzz 19 = 1 ∧ gI yzz 18 = gI zzz.2.1 3 ∧ gA yzz 3 = Gzz) ∨ (zzz.1 = 1 ∧ ∃ k1' k2' : Nat, ClS false Gzz zzz.2.1 zzz.2.2 yzz k1' k2' (n + 1)) := by
  obtain ⟨hX, e21zz, e7zz, hH, hG, hcl⟩ := hC
  have hTzz := hX.1
  have hMzz := hX.2.2.2.2.2.2.2.2
  have ivzz : v1zz.toNatClampNeg = n := tnc_eq evzz
  unfold f_X6_readClause at h1
  have h1 := z_f h1 (hMzz.2.1 rfl).1
  unfold bk_X6_readClause_15 at h1
  obtain ⟨z1, ez1, h1⟩ := z_bd h1
  rcases head_eqL hTzz hH.1 ez1 hy with ⟨q1zz, q2zz⟩ | ⟨q1zz, q3zz, q4zz⟩
  · refine Or.inl ?_
    have h1 := z_t h1 q1zz
    unfold bk_X6_readClause_34 at h1
    obtain ⟨zs, ezs, h1⟩ := z_bd h1
    obtain ⟨-, h1⟩ := z_gd h1
    obtain ⟨s1zz, s2zz⟩ := stop8 ezs
    unfold bk_X9_readLaw_54 at q2zz
    obtain ⟨zm, ezm, q2zz⟩ := z_bd q2zz
    have em := mu_no hX.2.1 ezm
    have k19 : gI zm 19 = 1 := by rw [em]; rfl
    rw [← Option.some.inj (z_f q2zz (by rw [k19]; decide)), ← Option.some.inj h1]
    refine ⟨s1zz, k19, ?_, Eq.trans (by rw [em]; rfl) hG⟩
    show gI zm 18 = gI zs.2 3
    rw [s2zz, em]
    show gI o 14 = gI rd 7
    exact hTzz.2.2.1.symm
  · have h1 := z_f h1 (fun czz => by have czz := cv_eq (a := z1.toInt) (b := -1) rfl (by decide) czz; omega)
    have h1 := z_f h1 (fun czz => by have czz := cv_lt (a := (n : Int)) (b := 0) evzz (by decide) czz; omega)
    have h1 := z_t h1 (Int32.lt_iff_toInt_lt.mpr (by have : (12 : Int32).toInt = 12 := (by decide); omega))
    obtain ⟨z4, ez4, h1⟩ := z_bd h1
    obtain ⟨-, h1⟩ := z_gd h1
    obtain ⟨o6, g6, h1⟩ := z_lt h1
    obtain ⟨-, h1⟩ := z_gd h1
    obtain ⟨o8zz, g8, h1⟩ := z_lt h1
    obtain ⟨-, h1⟩ := z_gd h1
    obtain ⟨o10, g10, h1⟩ := z_lt h1
    rw [ivzz] at g6 g8 g10
    have q4zz := q4zz (by omega)
    unfold bk_X9_readLaw_54 at q4zz
    obtain ⟨zm, ezm, q4zz⟩ := z_bd q4zz
    have ezm := mu_ok hX.2.1 (by decide) ezm
    obtain ⟨hX4, f6zz, f9zz⟩ := hX.step ez4 ezm
    obtain ⟨x2zz, gx2, q4zz⟩ := z_lt (z_t q4zz hX4.2.1)
    have k21 : gI zm 21 = gI o 21 := f9zz.1 21 (by decide) (by decide) (by decide)
    have tx2 : x2zz.toInt = 8 * (n : Int) := by rw [gx2, k21]; exact i32_mul (by decide) e21zz (by omega) (by omega)
    obtain ⟨o7, w7zz, c21, c0zz, c3zz, q4zz⟩ := clr_L tx2 hn zfu 0 zm 0 (by decide) (by decide) q4zz
    have k8zz : gI o10 8 = gI oc 8 := by rw [g10, g8, g6]; rfl
    have hX7 : XS false z4 o10 o7 k1zz k2zz := hX4.rw' w7zz (by decide) k8zz
    have hmid : (zzz.1 = 0 ∧ ∃ wzz, bk_X9_readLaw_135 x2zz wzz = some yzz ∧ gI wzz 19 = 1 ∧ gI wzz 18 = gI zzz.2.1 3 ∧ gA wzz 3 = gA o7 3) ∨ (∃ (rd' oc' o' : Ob) (k1' k2' : Nat), bk_X6_readClause_94 12 400 v1zz rd' oc' = some zzz ∧ bk_X9_readLaw_135 x2zz o' = some yzz ∧ XS false rd' oc' o' k1' k2' ∧ RF o7 o' ∧ CF z4 o10 rd' oc' ∧ (∀ jzz, jzz < k1zz → gA oc' 5 jzz = gA o10 5 jzz ∧ gA oc' 6 jzz = gA o10 6 jzz) ∧ ckp k2zz o7 o' ∧ ((z1 = 3 ∧ k1' = k1zz ∧ k2' = k2zz) ∨ (¬ z1 = 3 ∧ ∃ mzz, mzz ≤ 50 ∧ Sx false (gA oc' 5) (gA oc' 6) (gA o' 24) (gA o' 25) false k1zz k1' k2zz k2' mzz))) := by
      by_cases czz : z1 = 3
      · exact Or.inr ⟨z4, o10, o7, k1zz, k2zz, z_t h1 czz, z_t q4zz czz, hX7, RF.rf, CF.rf, fun _ _ => ⟨rfl, rfl⟩, ckp.rf, Or.inl ⟨czz, rfl, rfl⟩⟩
      · obtain ⟨z26, ez26, h1⟩ := z_bd (z_f h1 czz)
        obtain ⟨z17, ez17, q4zz⟩ := z_bd (z_f q4zz czz)
        rcases x_sum hX7 ez26 ez17 with gb | ⟨e1zz, k1', k2', mzz, x1zz, x2', x3, x4zz, x5zz, x6, x7⟩
        · have h1 := Option.some.inj (z_t h1 gb.1)
          exact Or.inl ⟨by rw [← h1], z17, q4zz, gb.2.1, by rw [← h1]; exact gb.2.2.1, gb.2.2.2.1.2.1 3 (by decide) (by decide) (by decide) (by decide)⟩
        · exact Or.inr ⟨z26.2.1, z26.2.2, z17, k1', k2', z_f h1 (by rw [e1zz]; decide), q4zz, x1zz, x2', x3, x4zz, x5zz, Or.inr ⟨czz, mzz, x6, x7⟩⟩
    have G7 : gA o7 3 = Gzz := (w7zz.2.2.1 3 (by decide)).trans ((f9zz.gA 3).trans hG)
    rcases hmid with ⟨e0zz, wzz, b1, b2, b3, b4⟩ | ⟨rd', oc', o', k1', k2', h1, q4zz, hX', r1zz, cf1zz, cd1, ck1, hsum⟩
    · have qzz := bad135 b2 b1
      exact Or.inl ⟨e0zz, qzz.1, qzz.2.1.trans b3, qzz.2.2.trans (b4.trans G7)⟩
    · unfold bk_X6_readClause_94 at h1
      obtain ⟨-, h1⟩ := z_gd h1
      obtain ⟨o12, g12, h1⟩ := z_lt h1
      have h1 := z_f h1 (hX'.2.2.2.2.2.2.2.2.2.1 rfl).1
      unfold bk_X9_readLaw_135 at q4zz
      obtain ⟨-, q4zz⟩ := z_gd q4zz
      obtain ⟨o9, g9, q4zz⟩ := z_lt q4zz
      obtain ⟨-, q4zz⟩ := z_gd q4zz
      obtain ⟨o11, g11, q4zz⟩ := z_lt q4zz
      rw [ix8 (kzz := 4) tx2 hn (by decide) (by decide)] at g9
      rw [ix8 (kzz := 5) tx2 hn (by decide) (by decide)] at g11
      rw [ivzz] at g12
      have y9 : RW 22 (8 * n) o' o9 := by rw [g9]; exact RW.tA ⟨by omega, by omega⟩
      have y11 : RW 22 (8 * n) o9 o11 := by rw [g11]; exact RW.tA ⟨by omega, by omega⟩
      have hX11 : XS false rd' o12 o11 k1' k2' := hX'.rw' (y9.tr y11) (by decide) (by rw [g12]; rfl)
      have G11 : gA o11 3 = Gzz := ((y9.tr y11).2.2.1 3 (by decide)).trans ((r1zz.2.1 3 (by decide) (by decide) (by decide) (by decide)).trans G7)
      rcases ph_test (Kzz := bk_X9_readLaw_185 x2zz) hX11 h1 q4zz with ⟨e0zz, wzz, b1, b2, b3, b4⟩ | ⟨rd'', oc'', o'', k1'', k2'', h1, q4zz, hX'', r2, cf2, cd2, ck2, htst⟩
      · have qzz := bad185 b1
        exact Or.inl ⟨e0zz, qzz.1.trans b2, qzz.2.1.trans b3, qzz.2.2.trans (b4.trans G11)⟩
      · unfold bk_X6_readClause_200 at h1
        obtain ⟨-, h1⟩ := z_gd h1
        obtain ⟨o15, g15, h1⟩ := z_lt h1
        obtain ⟨o16, g16, h1⟩ := z_lt h1
        unfold bk_X9_readLaw_185 at q4zz
        obtain ⟨-, q4zz⟩ := z_gd q4zz
        obtain ⟨o13, g13, q4zz⟩ := z_lt q4zz
        rw [ivzz] at g15
        rw [ix8 (kzz := 6) tx2 hn (by decide) (by decide)] at g13
        rw [← Option.some.inj h1, ← Option.some.inj q4zz]
        refine Or.inr ⟨rfl, k1'', k2'', ?_⟩
        show ClS false Gzz rd'' o16 o13 k1'' k2'' (n + 1)
        have y13 : RW 22 (8 * n) o'' o13 := by rw [g13]; exact RW.tA ⟨by omega, by omega⟩
        have hXf : XS false rd'' o16 o13 k1'' k2'' := hX''.rw' y13 (by decide) (by rw [g16, g15]; rfl)
        have A16 : ∀ izz, gA o16 izz = gA o15 izz := fun izz => by rw [g16]; rfl
        have A2 : ∀ izz, izz < 5 → gA oc'' izz = gA o12 izz := fun izz hizz => cf2.2.2.2 izz (by omega) (by omega)
        have A1 : ∀ izz, izz < 5 → gA oc' izz = gA o10 izz := fun izz hizz => cf1zz.2.2.2 izz (by omega) (by omega)
        have v8 : gI o8zz 8 = gI oc 8 := by rw [g8, g6]; rfl
        have AA : ∀ izz mzz, izz < 5 → gA o16 izz mzz = if izz = 4 ∧ mzz = n then gI oc'' 8 else if izz = 3 ∧ mzz = n then gI oc' 8 else if izz = 2 ∧ mzz = n then gI oc 8 else if izz = 1 ∧ mzz = n then 1 else if izz = 0 ∧ mzz = n then z1 else gA oc izz mzz := fun izz mzz hizz => by
          rw [A16 izz, g15, tA_gA, A2 izz hizz, g12, tA_gA, A1 izz hizz, g10, tA_gA, v8, g8, tA_gA, g6, tA_gA]
        have R'' : gA o'' 22 = gA o11 22 := r2.2.1 22 (by decide) (by decide) (by decide) (by decide)
        have R' : gA o' 22 = gA o7 22 := r1zz.2.1 22 (by decide) (by decide) (by decide) (by decide)
        have v9 : gI o9 23 = gI o' 23 := y9.1 23 (by decide)
        have BB : ∀ xzz, gA o13 22 xzz = if xzz = 8 * n + 6 then gI o'' 23 else if xzz = 8 * n + 5 then gI o' 23 else if xzz = 8 * n + 4 then gI o' 23 else gA o7 22 xzz := fun xzz => by rw [g13, upd_at, R'', g11, upd_at, v9, g9, upd_at, R']
        have l1 : k1zz ≤ k1' ∧ k2zz ≤ k2' := by
          rcases hsum with ⟨-, azz, bzz⟩ | ⟨-, mzz, -, s⟩
          · exact ⟨by omega, by omega⟩
          · have := s.lt; exact ⟨by omega, by omega⟩
        have l2 : k1' ≤ k1'' ∧ k2' ≤ k2'' := by
          rcases htst with ⟨azz, bzz⟩ | ⟨mzz, -, s⟩
          · exact ⟨by omega, by omega⟩
          · have := s.lt; exact ⟨by omega, by omega⟩
        have e16zz : ∀ izz, izz = 5 ∨ izz = 6 → gA o16 izz = gA oc'' izz := fun izz hizz => by rw [g16, g15]; rcases hizz with ezz | ezz <;> rw [ezz] <;> rfl
        have e12zz : ∀ izz, izz = 5 ∨ izz = 6 → gA o12 izz = gA oc' izz := fun izz hizz => by rw [g12]; rcases hizz with ezz | ezz <;> rw [ezz] <;> rfl
        have e10zz : ∀ izz, izz = 5 ∨ izz = 6 → gA o10 izz = gA oc izz := fun izz hizz => by rw [g10, g8, g6]; rcases hizz with ezz | ezz <;> rw [ezz] <;> rfl
        have m24 : ∀ izz, izz = 24 ∨ izz = 25 → gA o13 izz = gA o'' izz := fun izz hizz => y13.2.2.1 izz (by omega)
        have n24zz : ∀ izz, izz = 24 ∨ izz = 25 → gA o11 izz = gA o' izz := fun izz hizz => (y9.tr y11).2.2.1 izz (by omega)
        have p24 : ∀ izz, izz = 24 ∨ izz = 25 → gA o7 izz = gA o izz := fun izz hizz => (w7zz.2.2.1 izz (by omega)).trans (f9zz.gA izz)
        refine ⟨hXf, ?_, ?_, ?_, (y13.2.2.1 3 (by decide)).trans ((r2.2.1 3 (by decide) (by decide) (by decide) (by decide)).trans G11), fun mzz hmzz => ?_⟩
        · have uzz : gI o13 21 = gI o 21 + 1 := by
            rw [show gI o13 21 = gI o'' 21 by rw [g13]; rfl, r2.1 21 (by decide) (by decide) (by decide) (by decide) (by decide) (by decide) (by decide) (by decide) (by decide), show gI o11 21 = gI o' 21 by rw [g11, g9]; rfl, r1zz.1 21 (by decide) (by decide) (by decide) (by decide) (by decide) (by decide) (by decide) (by decide) (by decide), c21, k21]
          rw [uzz]; exact Eq.trans (i32_add e21zz (by decide : (1 : Int32).toInt = 1) (by omega) (by omega)) (by omega)
        · have uzz : gI o16 7 = v1zz + 1 := by rw [g16]; rfl
          rw [uzz]; exact Eq.trans (i32_add evzz (by decide : (1 : Int32).toInt = 1) (by omega) (by omega)) (by omega)
        · exact hH.eq (y13.2.2.2.1.trans (r2.2.2.trans ((y9.tr y11).2.2.2.1.trans (r1zz.2.2.trans (w7zz.2.2.2.1.trans (congrArg Prod.snd f9zz.2.2))))))
        · by_cases ezz : mzz = n
          · rw [ezz]
            have a0zz : gA o16 0 n = z1 := by rw [AA 0 n (by decide), if_neg (by omega), if_neg (by omega), if_neg (by omega), if_neg (by omega), if_pos ⟨rfl, rfl⟩]
            have a2 : gA o16 2 n = gI oc 8 := by rw [AA 2 n (by decide), if_neg (by omega), if_neg (by omega), if_pos ⟨rfl, rfl⟩]
            have a3 : gA o16 3 n = gI oc' 8 := by rw [AA 3 n (by decide), if_neg (by omega), if_pos ⟨rfl, rfl⟩]
            have a4 : gA o16 4 n = gI oc'' 8 := by rw [AA 4 n (by decide), if_pos ⟨rfl, rfl⟩]
            have b0 : gA o13 22 (8 * n) = z1 := by rw [BB, if_neg (by omega), if_neg (by omega), if_neg (by omega)]; exact c0zz
            have b3 : gA o13 22 (8 * n + 3) = gI zm 23 := by rw [BB, if_neg (by omega), if_neg (by omega), if_neg (by omega)]; exact c3zz
            have b4 : gA o13 22 (8 * n + 4) = gI o' 23 := by rw [BB, if_neg (by omega), if_neg (by omega), if_pos rfl]
            have b5 : gA o13 22 (8 * n + 5) = gI o' 23 := by rw [BB, if_neg (by omega), if_pos rfl]
            have b6 : gA o13 22 (8 * n + 6) = gI o'' 23 := by rw [BB, if_pos rfl]
            refine ⟨k1zz, k1', k1'', k2zz, k2', k2', k2'', ?_, ?_, ?_, ?_, ?_, ?_, ?_, ?_, ?_, ⟨l1.1, l2.1, Nat.le_refl _, l2.2, Nat.le_refl _⟩, ?_, ?_, fun qzz => by cases qzz⟩
            · show gA o16 0 n = gA o13 22 (8 * n); rw [a0zz, b0]
            · rw [a0zz]; exact q1zz
            · rw [a2]; exact hX.2.2.2.2.1
            · rw [a3]; exact hX'.2.2.2.2.1
            · rw [a4]; exact hX''.2.2.2.2.1
            · show (gA o13 22 (8 * n + 3)).toInt = _; rw [b3]; exact hX4.2.2.2.2.2.1
            · show (gA o13 22 (8 * n + 4)).toInt = _; rw [b4]; exact hX'.2.2.2.2.2.1
            · show (gA o13 22 (8 * n + 5)).toInt = _; rw [b5]; exact hX'.2.2.2.2.2.1
            · show (gA o13 22 (8 * n + 6)).toInt = _; rw [b6]; exact hX''.2.2.2.2.2.1
            · rw [a0zz]
              rcases hsum with ⟨azz, bzz, czz⟩ | ⟨azz, m', bzz, czz⟩
              · exact Or.inl ⟨azz, bzz.symm, czz.symm⟩
              · refine Or.inr ⟨azz, m', bzz, l2.2, czz.eq (fun jzz i1zz i2zz => ?_) (fun jzz i1zz i2zz => ?_)⟩
                · rw [e16zz 5 (Or.inl rfl), e16zz 6 (Or.inr rfl), (cd2 jzz i2zz).1, (cd2 jzz i2zz).2, e12zz 5 (Or.inl rfl), e12zz 6 (Or.inr rfl)]; exact ⟨rfl, rfl⟩
                · rw [m24 24 (Or.inl rfl), m24 25 (Or.inr rfl), (ck2 jzz i2zz).1, (ck2 jzz i2zz).2, n24zz 24 (Or.inl rfl), n24zz 25 (Or.inr rfl)]; exact ⟨rfl, rfl⟩
            · rcases htst with ⟨azz, bzz⟩ | ⟨m', azz, bzz⟩
              · exact Or.inl ⟨azz.symm, bzz.symm⟩
              · refine Or.inr ⟨m', azz, bzz.eq (fun jzz i1zz i2zz => ?_) (fun jzz i1zz i2zz => ?_)⟩
                · rw [e16zz 5 (Or.inl rfl), e16zz 6 (Or.inr rfl)]; exact ⟨rfl, rfl⟩
                · rw [m24 24 (Or.inl rfl), m24 25 (Or.inr rfl)]; exact ⟨rfl, rfl⟩
          · have hmn : mzz < n := by omega
            refine (hcl mzz hmn).mv (fun izz hizz => ?_) (fun jzz hj => ?_) (fun izz hizz => ?_) (fun jzz hj => ?_) (by omega) (by omega)
            · rw [AA izz mzz hizz, if_neg (fun qzz => ezz qzz.2), if_neg (fun qzz => ezz qzz.2), if_neg (fun qzz => ezz qzz.2), if_neg (fun qzz => ezz qzz.2), if_neg (fun qzz => ezz qzz.2)]
            · rw [e16zz 5 (Or.inl rfl), e16zz 6 (Or.inr rfl), (cd2 jzz (by omega)).1, (cd2 jzz (by omega)).2, e12zz 5 (Or.inl rfl), e12zz 6 (Or.inr rfl), (cd1 jzz hj).1, (cd1 jzz hj).2, e10zz 5 (Or.inl rfl), e10zz 6 (Or.inr rfl)]; exact ⟨rfl, rfl⟩
            · show gA o13 22 (8 * mzz + izz) = gA o 22 (8 * mzz + izz)
              rw [BB, if_neg (by omega), if_neg (by omega), if_neg (by omega), w7zz.2.2.2.2 (8 * mzz + izz) (Or.inl (by omega)), f9zz.gA 22]
            · rw [m24 24 (Or.inl rfl), m24 25 (Or.inr rfl), (ck2 jzz (by omega)).1, (ck2 jzz (by omega)).2, n24zz 24 (Or.inl rfl), n24zz 25 (Or.inr rfl), (ck1 jzz hj).1, (ck1 jzz hj).2, p24 24 (Or.inl rfl), p24 25 (Or.inr rfl)]; exact ⟨rfl, rfl⟩
