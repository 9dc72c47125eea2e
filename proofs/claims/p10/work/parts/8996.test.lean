-- centuries: the loop, and all of it
set_option maxHeartbeats 200000 in
theorem setIsl_lp {pl : List CR} {a0zz a0n : Ob} {yzz : Ob × Ob} : ∀ (Nzz : Nat) (vzz : Int32) (o onzz : Ob) (izz : Nat), vzz.toInt = (izz : Int) → izz ≤ 6 → lp_X2_set_O_88 pl a0zz a0n Nzz (vzz, o, onzz) = some yzz → yzz.2 = onzz ∧ (gI yzz.1 7 = gI a0zz 7 ∧ gI yzz.1 8 = gI a0zz 8 ∧ gI yzz.1 9 = gI a0zz 9 ∧ gI yzz.1 10 = gI a0zz 10 ∧ gI yzz.1 11 = gI a0zz 11 ∧ gI yzz.1 12 = gI a0zz 12) ∧ (∀ kzz, gA yzz.1 kzz = gA o kzz) ∧ (∀ jzz, izz ≤ jzz → jzz < 6 → gR yzz.1 6 jzz = gR a0zz 6 jzz) ∧ (∀ jzz, jzz < izz → gR yzz.1 6 jzz = gR o 6 jzz) := by
  intro Nzz
  induction Nzz with
  | zero => intro vzz o onzz izz _ _ hzz; cases hzz
  | succ Nzz ihzz =>
    intro vzz o onzz izz evzz hizz hzz
    have hzz : lb_X2_set_O_88 pl a0zz a0n (lp_X2_set_O_88 pl a0zz a0n Nzz) vzz o onzz = some yzz := hzz
    unfold lb_X2_set_O_88 at hzz
    rcases z_if hzz with ⟨czz, hzz⟩ | ⟨czz, hzz⟩
    · have czz := cv_le (a := 6) (b := (izz : Int)) (by decide) evzz czz
      obtain ⟨o12, e12zz, hzz⟩ := z_lt hzz
      obtain ⟨o13, e13zz, hzz⟩ := z_lt hzz
      obtain ⟨o14, e14zz, hzz⟩ := z_lt hzz
      obtain ⟨o15, e15zz, hzz⟩ := z_lt hzz
      obtain ⟨o16, e16zz, hzz⟩ := z_lt hzz
      obtain ⟨o17, e17zz, hzz⟩ := z_lt hzz
      have hzz := Option.some.inj hzz
      subst e12zz e13zz e14zz e15zz e16zz e17zz hzz
      exact ⟨rfl, ⟨rfl, rfl, rfl, rfl, rfl, rfl⟩, fun _ => rfl, fun jzz h1 h2 => absurd h1 (by omega), fun jzz _ => rfl⟩
    · have czz := cv_nle (a := 6) (b := (izz : Int)) (by decide) evzz czz
      have ivzz : vzz.toNatClampNeg = izz := tnc_eq evzz
      rw [ivzz] at hzz
      have hzz := (z_gd (z_gd (z_gd hzz).2).2).2
      obtain ⟨o21, e21zz, hzz⟩ := z_lt hzz
      obtain ⟨x22, e22zz, hzz⟩ := z_lt hzz
      obtain ⟨r1zz, r2, r3, r4, r5zz⟩ := ihzz x22 o21 onzz (izz + 1) (by rw [e22zz]; exact Eq.trans (i32_add evzz (by decide : (1 : Int32).toInt = 1) (by omega) (by omega)) (by omega)) (by omega) hzz
      have aR : ∀ jzz, gR o21 6 jzz = if jzz = izz then gR a0zz 6 izz else gR o 6 jzz := fun jzz => by rw [e21zz]; rfl
      refine ⟨r1zz, r2, fun kzz => (r3 kzz).trans (by rw [e21zz]; rfl), fun jzz h1 h2 => ?_, fun jzz hj => ?_⟩
      · by_cases d : jzz = izz
        · rw [r5zz jzz (by omega), aR, if_pos d, d]
        · exact r4 jzz (by omega) h2
      · rw [r5zz jzz (by omega), aR, if_neg (by omega)]
set_option maxHeartbeats 200000 in
theorem cpyZ {fzz gzz : Nat → Int32} {n jzz : Nat} (hj : jzz < n) : va_cpy fzz gzz 0 0 n jzz = fzz jzz := by
  show (if 0 ≤ jzz ∧ jzz < 0 + n then fzz (0 + (jzz - 0)) else gzz jzz) = fzz jzz
  rw [if_pos (by omega), Nat.zero_add, Nat.sub_zero]
set_option maxHeartbeats 200000 in
/-- isles set as others are -/
theorem setIsl {pl : List CR} {o onzz a0zz a0n : Ob} {yzz : Ob × Ob} (hzz : f_X2_set_O o onzz pl a0zz a0n = some yzz) : f_X4_set_O onzz a0n = some yzz.2 ∧ (gI yzz.1 7 = gI a0zz 7 ∧ gI yzz.1 8 = gI a0zz 8 ∧ gI yzz.1 9 = gI a0zz 9 ∧ gI yzz.1 10 = gI a0zz 10 ∧ gI yzz.1 11 = gI a0zz 11 ∧ gI yzz.1 12 = gI a0zz 12) ∧ (∀ jzz, jzz < 7 → gA yzz.1 1 jzz = gA a0zz 1 jzz) ∧ (∀ jzz, jzz < 28 → gA yzz.1 2 jzz = gA a0zz 2 jzz) ∧ (∀ jzz, jzz < 7 → gA yzz.1 3 jzz = gA a0zz 3 jzz) ∧ (∀ jzz, jzz < 6 → gA yzz.1 4 jzz = gA a0zz 4 jzz) ∧ (∀ jzz, jzz < 6 → gA yzz.1 5 jzz = gA a0zz 5 jzz) ∧ (∀ jzz, jzz < 6 → gR yzz.1 6 jzz = gR a0zz 6 jzz) := by
  have n0zz : (0 : Int32).toNatClampNeg = 0 := by decide
  have n6zz : (6 : Int32).toNatClampNeg = 6 := by decide
  have n7 : (7 : Int32).toNatClampNeg = 7 := by decide
  have n28zz : (28 : Int32).toNatClampNeg = 28 := by decide
  unfold f_X2_set_O at hzz
  obtain ⟨z1, e1zz, hzz⟩ := z_bd hzz
  have hzz := (z_gd hzz).2
  obtain ⟨o3zz, e3zz, hzz⟩ := z_lt hzz
  have hzz := (z_gd hzz).2
  obtain ⟨o5zz, e5zz, hzz⟩ := z_lt hzz
  have hzz := (z_gd hzz).2
  obtain ⟨o7, e7zz, hzz⟩ := z_lt hzz
  have hzz := (z_gd hzz).2
  obtain ⟨o9, e9zz, hzz⟩ := z_lt hzz
  have hzz := (z_gd hzz).2
  obtain ⟨o11, e11zz, hzz⟩ := z_lt hzz
  unfold cA at e3zz e5zz e7zz e9zz e11zz
  rw [n0zz, n7] at e3zz e7zz
  rw [n0zz, n28zz] at e5zz
  rw [n0zz, n6zz] at e9zz e11zz
  obtain ⟨r1zz, r2, r3, r4, -⟩ := setIsl_lp zfu 0 o11 z1 0 (by decide) (Nat.zero_le _) hzz
  refine ⟨by rw [r1zz]; exact e1zz, r2, fun jzz hj => ?_, fun jzz hj => ?_, fun jzz hj => ?_, fun jzz hj => ?_, fun jzz hj => ?_, fun jzz hj => r4 jzz (Nat.zero_le _) hj⟩
  · rw [r3, e11zz, e9zz, e7zz, e5zz, e3zz]; exact cpyZ hj
  · rw [r3, e11zz, e9zz, e7zz, e5zz]; exact cpyZ hj
  · rw [r3, e11zz, e9zz, e7zz]; exact cpyZ hj
  · rw [r3, e11zz, e9zz]; exact cpyZ hj
  · rw [r3, e11zz]; exact cpyZ hj
set_option maxHeartbeats 200000 in
theorem lawAt_c {azz bzz : Ob} {pzz : Int32} (e9zz : gI bzz 9 = gI azz 9) (eR : ∀ jzz, jzz < 6 → gR bzz 6 jzz = gR azz 6 jzz) : f_X2_lawAt bzz pzz = f_X2_lawAt azz pzz := by
  unfold f_X2_lawAt f_X2_isLaw
  rw [e9zz]
  by_cases czz : zin pzz 6 = true
  · have hv := z_in czz
    have wzz : gR bzz 6 pzz.toNatClampNeg = gR azz 6 pzz.toNatClampNeg := eR _ (by
      have qzz : 0 ≤ pzz.toInt ∧ pzz.toInt < 6 := of_decide_eq_true czz
      have ezz : pzz.toNatClampNeg = pzz.toInt.toNat := rfl
      omega)
    rw [wzz]
  · have czz : zin pzz 6 = false := by
      cases qzz : zin pzz 6 with
      | false => rfl
      | true => exact absurd qzz czz
    rw [czz]
    rfl
set_option maxHeartbeats 200000 in
theorem lawF_c {azz bzz : Ob} (e9zz : gI bzz 9 = gI azz 9) (e10zz : gI bzz 10 = gI azz 10) (eR : ∀ jzz, jzz < 6 → gR bzz 6 jzz = gR azz 6 jzz) : f_X2_lawInForce bzz = f_X2_lawInForce azz := by
  unfold f_X2_lawInForce
  rw [e10zz, lawAt_c e9zz eR]
def dC61 : DD := ([], [], [61], [], [])
set_option maxHeartbeats 200000 in
theorem cen195 {yzz : Int32 × Ob} {rzz : Int32} : ∀ (Nzz : Nat) (vzz : Int32) (o : Ob) (izz : Nat), vzz.toInt = (izz : Int) → izz ≤ 25 → lp_X9_centuries_195 Nzz (rzz, vzz, o) = some yzz → ∃ o1 z8 z9, f_X9_putBack (sI o1 62 (gA o1 3 0)) 16 = some z8 ∧ f_X9_tell z8 rzz = some z9 ∧ yzz = (z9.1, z9.2) ∧ (∀ jzz, gA o1 61 jzz = if izz ≤ jzz ∧ jzz < 25 then gA o 3 (4 + jzz) else gA o 61 jzz) ∧ FrX dC61 o o1 := by
  intro Nzz
  induction Nzz with
  | zero => intro vzz o izz _ _ hzz; cases hzz
  | succ Nzz ihzz =>
    intro vzz o izz evzz hizz hzz
    have n0zz : (0 : Int32).toNatClampNeg = 0 := by decide
    have hzz : lb_X9_centuries_195 (lp_X9_centuries_195 Nzz) rzz vzz o = some yzz := hzz
    unfold lb_X9_centuries_195 at hzz
    rcases z_if hzz with ⟨czz, hzz⟩ | ⟨czz, hzz⟩
    · have czz := cv_le (a := 25) (b := (izz : Int)) (by decide) evzz czz
      rw [n0zz] at hzz
      obtain ⟨o7, e7zz, hzz⟩ := z_lt hzz
      obtain ⟨z8, e8, hzz⟩ := z_bd hzz
      obtain ⟨z9, e9zz, hzz⟩ := z_bd hzz
      rw [e7zz] at e8
      exact ⟨o, z8, z9, e8, e9zz, (Option.some.inj hzz).symm, fun jzz => by rw [if_neg (by omega)], FrX.rf⟩
    · have czz := cv_nle (a := 25) (b := (izz : Int)) (by decide) evzz czz
      have i1zz : ((4 : Int32) + vzz).toNatClampNeg = 4 + izz := tnc_eq (by rw [i32_add (by decide : (4 : Int32).toInt = 4) evzz (by omega) (by omega)]; omega)
      have ivzz : vzz.toNatClampNeg = izz := tnc_eq evzz
      rw [i1zz, ivzz] at hzz
      have hzz := (z_gd (z_gd hzz).2).2
      obtain ⟨o12, e12zz, hzz⟩ := z_lt hzz
      obtain ⟨x13, e13zz, hzz⟩ := z_lt hzz
      obtain ⟨o1, z8, z9, k8zz, k9, ky, r1zz, r2⟩ := ihzz x13 o12 (izz + 1) (by rw [e13zz]; exact Eq.trans (i32_add evzz (by decide : (1 : Int32).toInt = 1) (by omega) (by omega)) (by omega)) (by omega) hzz
      have a1zz : ∀ jzz, gA o12 61 jzz = if jzz = izz then gA o 3 (4 + izz) else gA o 61 jzz := fun jzz => by rw [e12zz]; rfl
      have a3 : gA o12 3 = gA o 3 := by rw [e12zz]; rfl
      refine ⟨o1, z8, z9, k8zz, k9, ky, fun jzz => ?_, FrX.tr (by rw [e12zz]; exact FrX.tA FrX.rf rfl) r2⟩
      rw [r1zz, a3, a1zz]
      by_cases d : jzz = izz
      · rw [if_neg (by omega), if_pos d, if_pos (by omega), d]
      · by_cases d2zz : izz ≤ jzz ∧ jzz < 25
        · rw [if_pos (by omega), if_pos d2zz]
        · rw [if_neg (by omega), if_neg d, if_neg d2zz]
set_option maxHeartbeats 200000 in
theorem draw_fr {o : Ob} {pzz : Int32} {wzz : Int32 × Ob} (hzz : f_X9_draw o pzz = some wzz) : FrX dCe o wzz.2 := (fr_f_X9_draw hzz).mono rfl
set_option maxHeartbeats 200000 in
theorem cen_lp {pl : List CR} {pp isl mvI : Ob} {n : Nat} {qzz : Int32} {yzz : Int32 × Ob × Ob × Ob × Ob × Ob} {y' : Int32 × Ob} (e7zz : gI isl 7 = gI pp 7) (hn : 1 ≤ n) (hq : qzz.toInt ≤ 60) :
    ∀ (Nzz N' : Nat) (s v4zz v5 : Int32) (o8zz mezz pm czz o : Ob) (izz rzz : Nat), DrT s o → v5.toInt = (izz : Int) → v4zz.toInt = (rzz : Int) → rzz ≤ izz → izz ≤ 60 → TzN pl pp pm o n → lp_X8_centuries_64 isl mvI pl Nzz (qzz, s, v4zz, v5, o8zz, mezz, pp, pm, czz) = some yzz → lp_X9_centuries_68 N' (qzz, v4zz, v5, o) = some y' →
      ∃ (r' : Int32) (pm' o' me' c' : Ob), bk_X8_centuries_194 isl mvI pl r' o8zz me' pp pm' c' = some yzz ∧ bk_X9_centuries_192 r' o' = some y' ∧ TzN pl pp pm' o' n ∧ RwC n (gA o 3) (gA o' 3) ∧ 0 ≤ r'.toInt ∧ FrX dCe o o' := by
  intro Nzz
  induction Nzz with
  | zero => intro N' s v4zz v5 o8zz mezz pm czz o izz rzz _ _ _ _ _ _ h1; cases h1
  | succ Nzz ihzz =>
    intro N' s v4zz v5 o8zz mezz pm czz o izz rzz hD e5zz e4zz hri hi60 hSzz h1 h2
    cases N' with
    | zero => cases h2
    | succ N' =>
    have h1 : lb_X8_centuries_64 isl mvI pl (lp_X8_centuries_64 isl mvI pl Nzz) qzz s v4zz v5 o8zz mezz pp pm czz = some yzz := h1
    have h2 : lb_X9_centuries_68 (lp_X9_centuries_68 N') qzz v4zz v5 o = some y' := h2
    obtain ⟨hI, hMzz, hL, h20, en⟩ := id hSzz
    have hn7 : n ≤ 7 := by have := hI.1.2.2; omega
    have n0zz : (0 : Int32).toNatClampNeg = 0 := by decide
    have n4zz : (4 : Int32).toNatClampNeg = 4 := by decide
    unfold lb_X8_centuries_64 at h1
    unfold lb_X9_centuries_68 at h2
    rw [n0zz, n4zz] at h2
    rw [hMzz.2.2.2.1.1] at h1
    by_cases c0zz : qzz ≤ v5
    · exact ⟨v4zz, pm, o, mezz, czz, z_t h1 c0zz, z_t h2 c0zz, hSzz, RwC.rf, by omega, FrX.rf⟩
    · have h1 := z_f h1 c0zz
      have h2 := z_f h2 c0zz
      have c0' := cv_nle (a := qzz.toInt) (b := (izz : Int)) rfl e5zz c0zz
      by_cases c1zz : (999 : Int32) ≤ gA o 3 4
      · exact ⟨v4zz, pm, o, mezz, czz, z_t h1 c1zz, z_t h2 c1zz, hSzz, RwC.rf, by omega, FrX.rf⟩
      · have h1 := z_f h1 c1zz
        have h2 := z_f h2 c1zz
        have c1' := cv_nle (a := 999) (b := (gA o 3 4).toInt) (by decide) rfl c1zz
        obtain ⟨z4, k4zz, h1⟩ := z_bd h1
        obtain ⟨z5, k5zz, h1⟩ := z_bd h1
        obtain ⟨z6, k6zz, h1⟩ := z_bd h1
        obtain ⟨w14zz, l14, h2⟩ := z_bd h2
        obtain ⟨w15, l15, h2⟩ := z_bd h2
        obtain ⟨w16, l16, h2⟩ := z_bd h2
        obtain ⟨D1, p1zz, p2zz, p3zz, p4zz, p5zz⟩ := draw_eq hD en (by omega) k4zz l14
        obtain ⟨D2, q1zz, q2zz, q3zz, q4zz, q5zz⟩ := draw_eq (Pzz := 4) D1 (by decide) (by decide) k5zz l15
        obtain ⟨D3, t1zz, t2zz, t3zz, t4zz, t5zz⟩ := draw_eq (Pzz := 4) D2 (by decide) (by decide) k6zz l16
        have F16 : FrX dCe o w16.2 := ((draw_fr l14).tr (draw_fr l15)).tr (draw_fr l16)
        have e3zz : gA w16.2 3 = gA o 3 := by rw [t4zz, q4zz, p4zz]
        have e20 : gI w16.2 20 = gI o 20 := by rw [t5zz, q5zz, p5zz]
        have hS16 : TzN pl pp pm w16.2 n := hSzz.sc e3zz e20
        rw [← t1zz] at h1
        obtain ⟨Pzz, eP⟩ : ∃ Pzz : Nat, w14zz.1.toInt = (Pzz : Int) := ⟨w14zz.1.toInt.toNat, by omega⟩
        obtain ⟨R, eR⟩ : ∃ R : Nat, w15.1.toInt = (R : Int) := ⟨w15.1.toInt.toNat, by omega⟩
        have ePe : z4 - z4 / gI isl 7 * gI isl 7 = w14zz.1 := by
          have : gI isl 7 = gA o 3 0 := e7zz.trans hI.1.1
          rw [this]; exact p1zz.symm
        -- the year, and on
        have gozz : ∀ (v4' : Int32) (r' : Nat) (me' pm' c' o' : Ob), v4'.toInt = (r' : Int) → r' ≤ izz + 1 → TzN pl pp pm' o' n → gI pm' 4 = gI pm 4 → RwC n (gA o 3) (gA o' 3) → gL o' 60 = gL w16.2 60 → FrX dCe o o' → bk_X8_centuries_177 isl mvI pl (lp_X8_centuries_64 isl mvI pl Nzz) qzz z6 v4' v5 o8zz me' pp pm' c' = some yzz → bk_X9_centuries_181 (lp_X9_centuries_68 N') qzz v4' v5 o' = some y' →
            ∃ (r'' : Int32) (pm'' o'' me'' c'' : Ob), bk_X8_centuries_194 isl mvI pl r'' o8zz me'' pp pm'' c'' = some yzz ∧ bk_X9_centuries_192 r'' o'' = some y' ∧ TzN pl pp pm'' o'' n ∧ RwC n (gA o 3) (gA o'' 3) ∧ 0 ≤ r''.toInt ∧ FrX dCe o o'' := by
          intro v4' r' me' pm' c' o' er hr hS' ey hw' e60 F' h1 h2
          unfold bk_X8_centuries_177 at h1
          unfold bk_X9_centuries_181 at h2
          obtain ⟨z9, k9, h1⟩ := z_bd h1
          obtain ⟨x10, g10, h1⟩ := z_lt h1
          obtain ⟨w17, l17, h2⟩ := z_bd h2
          obtain ⟨x18, g18, h2⟩ := z_lt h2
          have qx : x18 = x10 := g18.trans g10.symm
          rw [qx] at h2
          have hyy : (gA o' 3 4).toInt < 999 := by
            rw [← hS'.2.1.2.2.2.1.1, ey, hMzz.2.2.2.1.1]; omega
          obtain ⟨u1zz, u2zz⟩ := pap_pass hS' hyy k9 l17
          have f17zz := fr_f_X9_passIt l17
          have D' : DrT z6 w17.2 := ⟨by rw [f17zz.L 60 rfl, e60]; exact D3.1, D3.2⟩
          obtain ⟨r2, pm2, o2, me2, c2zz, a1zz, a2, a3, a4, a5, a6⟩ := ihzz N' z6 v4' x10 o8zz z9.2.2.2 z9.2.2.1 z9.2.1 w17.2 (izz + 1) r' D' (by rw [g10]; exact Eq.trans (i32_add e5zz (by decide : (1 : Int32).toInt = 1) (by omega) (by omega)) (by omega)) er hr (by omega) u1zz h1 h2
          exact ⟨r2, pm2, o2, me2, c2zz, a1zz, a2, a3, (hw'.tr u2zz).tr a4, a5, (F'.tr (f17zz.mono rfl)).tr a6⟩
        by_cases c2zz : (2 : Int32) ≤ w16.1
        · have h1 := z_t h1 c2zz
          have h2 := z_t h2 c2zz
          unfold bk_X9_centuries_140 at h2
          by_cases c3zz : w16.1 = 2
          · -- a race
            have h1 := z_t h1 c3zz
            have h2 := z_t h2 c3zz
            unfold bk_X8_centuries_128 at h1
            have h1 := z_t h1 rfl
            rw [← q1zz] at h1
            unfold bk_X8_centuries_158 at h1
            obtain ⟨z8, k8zz, h1⟩ := z_bd h1
            have h1 := z_t h1 rfl
            obtain ⟨w20, l20, h2⟩ := z_bd h2
            have f20zz := fr_f_X9_layPlaces l20
            have r0 : RwC n (gA o 3) (gA w20 3) := by rw [f20zz.A 3 rfl, e3zz]; exact RwC.rf
            rcases pap_race hS16 eR (by omega) k8zz l20 with ⟨u1zz, u2zz, u3, u4zz⟩ | ⟨u1zz, u2zz, u3⟩
            · have h1 := z_t h1 u1zz
              have h2 := z_t h2 u2zz
              unfold bk_X9_centuries_169 at h2
              have h2 := z_f h2 (by rw [c3zz]; decide)
              exact gozz v4zz rzz _ _ _ _ e4zz (by omega) u3 u4zz r0 (f20zz.L 60 rfl) (F16.tr (f20zz.mono rfl)) h1 h2
            · have h1 := z_f h1 u1zz
              have h2 := z_f h2 u2zz
              obtain ⟨x11, g11, h1⟩ := z_lt h1
              obtain ⟨w21, l21, h2⟩ := z_bd h2
              obtain ⟨x22, g22, h2⟩ := z_lt h2
              have f21 := fr_f_X9_raceIt l21
              have qx : x22 = x11 := g22.trans g11.symm
              rw [qx] at h2
              obtain ⟨a1zz, a2, a3⟩ := u3 w21 l21
              rw [e3zz] at a2
              unfold bk_X9_centuries_169 at h2
              have h2 := z_f h2 (by rw [c3zz]; decide)
              exact gozz x11 (rzz + 1) _ _ _ _ (by rw [g11]; exact Eq.trans (i32_add e4zz (by decide : (1 : Int32).toInt = 1) (by omega) (by omega)) (by omega)) (by omega) a1zz a3 a2 ((f21.L 60 rfl).trans (f20zz.L 60 rfl)) ((F16.tr (f20zz.mono rfl)).tr (f21.mono rfl)) h1 h2
          · -- the gap
            have h1 := z_f h1 c3zz
            have h2 := z_f h2 c3zz
            have c4zz : w16.1 = 3 := by
              have azz := cv_le (a := 2) (b := w16.1.toInt) (by decide) rfl c2zz
              have bzz := cv_ne (a := w16.1.toInt) (b := 2) rfl (by decide) c3zz
              exact Int32.toInt_inj.mp (by rw [(by decide : (3 : Int32).toInt = 3)]; omega)
            unfold bk_X9_centuries_169 at h2
            have h2 := z_t h2 c4zz
            obtain ⟨w19, l19, h2⟩ := z_bd h2
            have f19 := fr_f_X9_takeIt l19
            unfold bk_X8_centuries_128 at h1
            have h1 := (z_gd (z_f h1 (by decide))).2
            rw [ePe] at h1
            unfold bk_X8_centuries_158 at h1
            obtain ⟨z8, k8zz, h1⟩ := z_bd h1
            have h1 := z_f h1 (by decide)
            obtain ⟨a1zz, a2, a3⟩ := pap_take hS16 eP (by omega) k8zz l19
            rw [e3zz] at a2
            exact gozz v4zz rzz _ _ _ _ e4zz (by omega) a1zz a3 a2 (f19.L 60 rfl) (F16.tr (f19.mono rfl)) h1 h2
        · -- an entry
          have h1 := z_f h1 c2zz
          have h2 := z_f h2 c2zz
          have i22 : ((22 : Int32) + w14zz.1).toNatClampNeg = 22 + Pzz := tnc_eq (by rw [i32_add (by decide : (22 : Int32).toInt = 22) eP (by omega) (by omega)]; omega)
          rw [i22] at h2
          have h2 := (z_gd (z_gd h2).2).2
          obtain ⟨o25, g25, h2⟩ := z_lt h2
          unfold bk_X8_centuries_128 at h1
          have h1 := (z_gd (z_f h1 (by decide))).2
          rw [ePe] at h1
          unfold bk_X8_centuries_158 at h1
          obtain ⟨z8, k8zz, h1⟩ := z_bd h1
          have h1 := z_f h1 (by decide)
          have n2zz : ¬ w16.1 = 2 := fun zzz => c2zz (by rw [zzz]; decide)
          have n3zz : ¬ w16.1 = 3 := fun zzz => c2zz (by rw [zzz]; decide)
          unfold bk_X9_centuries_140 at h2
          have h2 := z_f h2 n2zz
          unfold bk_X9_centuries_169 at h2
          have h2 := z_f h2 n3zz
          obtain ⟨a1zz, a2, a3⟩ := pap_enter (o5zz := o25) hS16 eP (by omega) k8zz (by rw [g25]; rfl) (by rw [g25]; rfl)
          rw [e3zz] at a2
          exact gozz v4zz rzz _ _ _ _ e4zz (by omega) a1zz a3 a2 (by rw [g25]; rfl) (F16.tr (by rw [g25]; exact FrX.tA FrX.rf rfl)) h1 h2
/-- the latest centuries, in both -/
def drA (o : Ob) : Nat → Int32 := fun jzz => gA o 61 (jzz - 4)
def PpT (pp pm o : Ob) : Prop := ((gI o 62 = gI pp 7 ∧ 0 ≤ (gI pp 7).toInt ∧ (gI pp 7).toInt ≤ 7) ∨ (gI o 62 = -1 ∧ gI pp 7 = 0)) ∧ TzM pm (drA o)
set_option maxHeartbeats 200000 in
theorem PpT.eq {pp pm o o' : Ob} (hzz : PpT pp pm o) (ezz : gI o' 62 = gI o 62) (e1zz : gA o' 61 = gA o 61) : PpT pp pm o' := by
  unfold PpT drA
  rw [ezz, e1zz]; exact hzz
set_option maxHeartbeats 200000 in
theorem cent_eq {pl : List CR} {isl mv pa mezz pp pm czz o8zz o : Ob} {n : Nat} {p0zz p1zz : Int32} {yzz : Int32 × Ob × Ob × Ob × Ob × Ob} {y' : Int32 × Ob} (hSzz : TzS pl isl mv pa o n) (hst : StT o8zz o) (hpp : PpT pp pm o) (h1 : f_X8_centuries o8zz mezz isl mv pp pm czz pl p0zz p1zz = some yzz) (h2 : f_X9_centuries o p0zz p1zz = some y') : yzz.1 = y'.1 ∧ TzS pl isl mv pa y'.2 n ∧ gA y'.2 3 = gA o 3 ∧ StT yzz.2.1 y'.2 ∧ PpT yzz.2.2.2.1 yzz.2.2.2.2.1 y'.2 := by
  obtain ⟨hI, hMzz, hP, hL, h20, en, hZ⟩ := id hSzz
  have hn7 : n ≤ 7 := by have := hI.1.2.2; omega
  have n0zz : (0 : Int32).toNatClampNeg = 0 := by decide
  unfold f_X8_centuries at h1
  unfold f_X9_centuries at h2
  rw [n0zz] at h2
  obtain ⟨o1, g1, h2⟩ := z_lt h2
  have A1 : ∀ izz, gA o1 izz = gA o izz := fun izz => by rw [g1]; rfl
  have hS1 : TzS pl isl mv pa o1 n := hSzz.sc (A1 3) (by rw [g1]; rfl) (A1 6) (A1 7) (by rw [g1]; rfl)
  have hst1 : StT o8zz o1 := hst.eq rfl rfl (by rw [g1]; rfl) (A1 2)
  have hpp1 : PpT pp pm o1 := hpp.eq (by rw [g1]; rfl) (A1 61)
  -- refused
  have no1 : bk_X8_centuries_22 isl mv pl o8zz mezz pp pm czz = some yzz → bk_X9_centuries_29 o1 = some y' → yzz.1 = y'.1 ∧ TzS pl isl mv pa y'.2 n ∧ gA y'.2 3 = gA o 3 ∧ StT yzz.2.1 y'.2 ∧ PpT yzz.2.2.2.1 yzz.2.2.2.2.1 y'.2 := by
    intro h1 h2
    unfold bk_X8_centuries_22 at h1
    unfold bk_X9_centuries_29 at h2
    obtain ⟨z1, k1zz, h1⟩ := z_bd h1
    obtain ⟨z3, k3zz, h2⟩ := z_bd h2
    have h1 := Option.some.inj h1
    have h2 := Option.some.inj h2
    obtain ⟨s1zz, s2zz, s3zz⟩ := st_refuse hst1 (Or.inl rfl) k1zz k3zz
    have ft := fr_f_X9_tell k3zz
    rw [← h1, ← h2]
    exact ⟨s1zz.trans s2zz.symm, hS1.sc (ft.A 3 rfl) (ft.I 8 rfl) (ft.A 6 rfl) (ft.A 7 rfl) (ft.I 20 rfl), (ft.A 3 rfl).trans (A1 3), s3zz, hpp1.eq (ft.I 62 rfl) (ft.A 61 rfl)⟩
  obtain ⟨z2, k2zz, h2⟩ := z_bd h2
  have in2 := in9 (m := 0) (n := 1000000) (by decide) (by decide) k2zz
  by_cases c0zz : p0zz < 0
  · have c0' := cv_lt (a := p0zz.toInt) (b := 0) rfl (by decide) c0zz
    rcases in2 with ⟨uzz, -⟩ | ⟨-, uzz⟩
    · exact no1 (z_t h1 c0zz) (z_t h2 uzz)
    · omega
  have h1 := z_f h1 c0zz
  have c0' := cv_nlt (a := p0zz.toInt) (b := 0) rfl (by decide) c0zz
  by_cases c1zz : (1000000 : Int32) < p0zz
  · have c1' := cv_lt (a := 1000000) (b := p0zz.toInt) (by decide) rfl c1zz
    rcases in2 with ⟨uzz, -⟩ | ⟨-, uzz⟩
    · exact no1 (z_t h1 c1zz) (z_t h2 uzz)
    · omega
  have h1 := z_f h1 c1zz
  have c1' := cv_nlt (a := 1000000) (b := p0zz.toInt) (by decide) rfl c1zz
  have u2zz : ¬ z2 = 0 := by
    rcases in2 with ⟨-, uzz⟩ | ⟨uzz, -⟩
    · exact absurd ⟨c0', c1'⟩ uzz
    · exact uzz
  have h2 := z_f h2 u2zz
  obtain ⟨z4, k4zz, h2⟩ := z_bd h2
  have in4 := in9 (m := 1) (n := 60) (by decide) (by decide) k4zz
  by_cases c2zz : p1zz < 1
  · have c2' := cv_lt (a := p1zz.toInt) (b := 1) rfl (by decide) c2zz
    rcases in4 with ⟨uzz, -⟩ | ⟨-, uzz⟩
    · exact no1 (z_t h1 c2zz) (z_t h2 uzz)
    · omega
  have h1 := z_f h1 c2zz
  have c2' := cv_nlt (a := p1zz.toInt) (b := 1) rfl (by decide) c2zz
  by_cases c3zz : p1zz ≤ 60
  · have h1 := z_t h1 c3zz
    have c3' := cv_le (a := p1zz.toInt) (b := 60) rfl (by decide) c3zz
    have u4zz : ¬ z4 = 0 := by
      rcases in4 with ⟨-, uzz⟩ | ⟨uzz, -⟩
      · exact absurd ⟨c2', c3'⟩ uzz
      · exact uzz
    have h2 := z_f h2 u4zz
    rw [A1, ← hI.1.1] at h2
    by_cases c4zz : gI isl 7 = 0
    · have h1 := z_t h1 c4zz
      have h2 := z_t h2 c4zz
      obtain ⟨z12, k12, h1⟩ := z_bd h1
      obtain ⟨z26, k26, h2⟩ := z_bd h2
      have h1 := Option.some.inj h1
      have h2 := Option.some.inj h2
      obtain ⟨s1zz, s2zz, s3zz⟩ := st_refuse hst1 (Or.inr (Or.inr (Or.inl rfl))) k12 k26
      have ft := fr_f_X9_tell k26
      rw [← h1, ← h2]
      exact ⟨s1zz.trans s2zz.symm, hS1.sc (ft.A 3 rfl) (ft.I 8 rfl) (ft.A 6 rfl) (ft.A 7 rfl) (ft.I 20 rfl), (ft.A 3 rfl).trans (A1 3), s3zz, hpp1.eq (ft.I 62 rfl) (ft.A 61 rfl)⟩
    · have h1 := z_f h1 c4zz
      have h2 := z_f h2 c4zz
      have hn1 : 1 ≤ n := by
        have := cv_ne (a := (n : Int)) (b := 0) (by rw [hI.1.1]; exact en) (by decide) c4zz
        omega
      obtain ⟨zs, kszz, h1⟩ := z_bd h1
      obtain ⟨z5, k5zz, h2⟩ := z_bd h2
      obtain ⟨o6, g6, h2⟩ := z_lt h2
      obtain ⟨sm4, ⟨i7zz, i8zz, i9zz, i10zz, i11zz, i12zz⟩, -, a2, -, -, -, aR⟩ := setIsl kszz
      obtain ⟨m0zz, m1zz, m2zz, m3zz, m4zz⟩ := setM sm4
      have f5zz := fr_f_X9_keepAll k5zz
      unfold f_X9_keepAll at k5zz
      have d5zz := keepAll_lp (mzz := 16) (by decide) (by decide) zfu 0 o1 0 (by decide) (Nat.zero_le _) k5zz
      have e63 : gA o6 3 = gA o 3 := by rw [g6]; exact (f5zz.A 3 rfl).trans (A1 3)
      have hSN : TzN pl zs.1 zs.2 o6 n := by
        refine ⟨?_, ?_, ?_, ?_, by rw [e63]; exact en⟩
        · rw [e63]
          exact ⟨by rw [i7zz]; exact hI.1, fun jzz hj => by rw [a2 jzz hj]; exact hI.2.1 jzz hj, by rw [i12zz]; exact hI.2.2⟩
        · rw [e63]
          exact hMzz.ext m0zz m1zz m2zz m3zz m4zz (fun _ _ _ => rfl)
        · rw [e63, lawF_c i9zz i10zz aR]; exact hL
        · rw [g6]; exact (f5zz.I 20 rfl).trans ((by rw [g1]; rfl : gI o1 20 = gI o 20).trans h20)
      have D0 : DrT p0zz o6 := ⟨by rw [g6]; rfl, c0', by omega⟩
      obtain ⟨r', pm', o', me', c', b1, b2, b3, b4, b5, b6⟩ := cen_lp (pl := pl) (pp := zs.1) (isl := isl) (mvI := mv) i7zz.symm hn1 c3' zfu zfu p0zz 0 0 o8zz mezz zs.2 czz o6 0 0 D0 (by decide) (by decide) (Nat.le_refl _) (by decide) hSN h1 h2
      rw [e63] at b4
      unfold bk_X8_centuries_194 at b1
      unfold bk_X9_centuries_192 at b2
      obtain ⟨z3, k3zz, b1⟩ := z_bd b1
      have b1 := Option.some.inj b1
      obtain ⟨q1zz, z8, z9, k8zz, k9, ky, v61, F61⟩ := cen195 zfu 0 o' 0 (by decide) (Nat.zero_le _) b2
      have f8zz := fr_f_X9_putBack k8zz
      have ft := fr_f_X9_tell k9
      unfold f_X9_putBack at k8zz
      have d8zz := putBack_lp (mzz := 16) (by decide) (by decide) zfu 0 (sI q1zz 62 (gA q1zz 3 0)) 0 (by decide) (Nat.zero_le _) k8zz
      have e6zz : ∀ jzz, gA q1zz 6 jzz = if 25 * 16 + 0 ≤ jzz ∧ jzz < 25 * 16 + 25 then gA o 3 (4 + (jzz - 25 * 16)) else gA o 6 jzz := by
        intro jzz
        rw [F61.A 6 rfl, b6.A 6 rfl, g6]
        show gA z5 6 jzz = _
        rw [d5zz, A1, A1]
      have e8 : gA z8 3 = gA o 3 := by
        funext jzz
        rw [d8zz]
        show (if 4 + 0 ≤ jzz ∧ jzz < 29 then gA q1zz 6 (25 * 16 + (jzz - 4)) else gA q1zz 3 jzz) = gA o 3 jzz
        by_cases c5zz : 4 + 0 ≤ jzz ∧ jzz < 29
        · have et : 4 + (25 * 16 + (jzz - 4) - 25 * 16) = jzz := by omega
          rw [if_pos c5zz, e6zz, if_pos (by omega), et]
        · rw [if_neg c5zz, F61.A 3 rfl]
          exact b4 jzz (by omega)
      have st9zz : StT o8zz z8 := hst.eq rfl rfl ((f8zz.I 1 rfl).trans ((F61.I 1 rfl).trans ((b6.I 1 rfl).trans (by rw [g6]; exact (f5zz.I 1 rfl).trans (by rw [g1]; rfl))))) ((f8zz.A 2 rfl).trans ((F61.A 2 rfl).trans ((b6.A 2 rfl).trans (by rw [g6]; exact (f5zz.A 2 rfl).trans (A1 2)))))
      obtain ⟨s1zz, s2zz, s3zz⟩ := st_grant st9zz b5 k3zz k9
      have e67 : gA z9.2 7 = gA o 7 := (ft.A 7 rfl).trans ((f8zz.A 7 rfl).trans ((F61.A 7 rfl).trans ((b6.A 7 rfl).trans (by rw [g6]; exact (f5zz.A 7 rfl).trans (A1 7)))))
      have e68 : gI z9.2 8 = gI o 8 := (ft.I 8 rfl).trans ((f8zz.I 8 rfl).trans ((F61.I 8 rfl).trans ((b6.I 8 rfl).trans (by rw [g6]; exact (f5zz.I 8 rfl).trans (by rw [g1]; rfl)))))
      have e620 : gI z9.2 20 = gI o 20 := (ft.I 20 rfl).trans ((f8zz.I 20 rfl).trans ((F61.I 20 rfl).trans ((b6.I 20 rfl).trans (by rw [g6]; exact (f5zz.I 20 rfl).trans (by rw [g1]; rfl)))))
      have e93zz : gA z9.2 3 = gA o 3 := (ft.A 3 rfl).trans e8
      have e96 : ∀ jzz, jzz < 400 → gA z9.2 6 jzz = gA o 6 jzz := by
        intro jzz hj
        rw [ft.A 6 rfl, f8zz.A 6 rfl]
        show gA q1zz 6 jzz = _
        rw [e6zz, if_neg (by omega)]
      rw [← b1, ky]
      refine ⟨s1zz.trans s2zz.symm, hSzz.mv (by show RwC n (gA o 3) (gA z9.2 3); rw [e93zz]; exact RwC.rf) (by show TzM mv (gA z9.2 3); rw [e93zz]; exact hMzz) ?_ e620, e93zz, s3zz, Or.inl ⟨?_, ?_⟩, ?_⟩
      · show PaT pa z9.2 n (gA z9.2 3)
        rw [e93zz]
        obtain ⟨q0, sz, fi, y1, y2, y3, y4, y5⟩ := hP
        exact ⟨q0.trans e68.symm, sz, fi, y1, y2, y3, y4, fun izz hizz => (y5 izz hizz).mv rfl (fun _ _ => rfl) (by rw [e67]) (fun t ht => e96 _ (by omega)) (fun _ _ => rfl)⟩
      · show gI z9.2 62 = gI zs.1 7
        rw [ft.I 62 rfl, f8zz.I 62 rfl]
        show gA q1zz 3 0 = gI zs.1 7
        rw [F61.A 3 rfl, b4 0 (by omega), i7zz, hI.1.1]
      · show 0 ≤ (gI zs.1 7).toInt ∧ (gI zs.1 7).toInt ≤ 7
        rw [i7zz, hI.1.1]; exact hI.1.2
      · show TzM pm' (drA z9.2)
        refine b3.2.1.ext (fun _ _ => rfl) (fun _ _ => rfl) rfl rfl rfl (fun jzz j1 j2zz => ?_)
        show gA z9.2 61 (jzz - 4) = gA o' 3 jzz
        rw [ft.A 61 rfl, f8zz.A 61 rfl]
        show gA q1zz 61 (jzz - 4) = gA o' 3 jzz
        have et : 4 + (jzz - 4) = jzz := by omega
        rw [v61, if_pos (by omega), et]
  · have h1 := z_f h1 c3zz
    have c3' := cv_nle (a := p1zz.toInt) (b := 60) rfl (by decide) c3zz
    rcases in4 with ⟨uzz, -⟩ | ⟨-, uzz⟩
    · exact no1 h1 (z_t h2 uzz)
    · omega
