-- scores: never
set_option maxHeartbeats 200000 in
theorem barred01 {o : Ob} {pzz rzz : Int32} {wzz : Int32 × Ob} (hzz : f_X9_isBarred o pzz rzz = some wzz) : wzz.1 = 0 ∨ wzz.1 = 1 := by
  unfold f_X9_isBarred at hzz
  obtain ⟨zzz, kzz, hzz⟩ := z_bd hzz
  rcases z_if hzz with ⟨-, hzz⟩ | ⟨-, hzz⟩
  · rw [← Option.some.inj hzz]; exact Or.inr rfl
  · rw [← Option.some.inj hzz]; exact Or.inl rfl
set_option maxHeartbeats 200000 in
theorem run_rng {o : Ob} {pzz rzz : Int32} {wzz : Int32 × Ob} (hzz : f_X9_runsOf o pzz rzz = some wzz) : 0 ≤ wzz.1.toInt ∧ wzz.1.toInt ≤ 99 := by
  unfold f_X9_runsOf at hzz
  have hzz := (z_gd hzz).2
  obtain ⟨w1zz, e2zz, hzz⟩ := z_bd hzz
  obtain ⟨w3zz, e3zz, hzz⟩ := z_bd hzz
  have hzz := Option.some.inj hzz
  rw [← hzz]
  exact within_rng (M := 99) (by decide) (by decide) e3zz
/-- what the reference says of a person and a race, whenever it is asked over this row -/
def Bv (Gzz : Nat → Int32) (pzz R : Nat) (bzz : Int32) : Prop := ∀ (o : Ob) (pp rr : Int32) (wzz : Int32 × Ob), gA o 3 = Gzz → gI o 20 = 0 → pp.toInt = (pzz : Int) → rr.toInt = (R : Int) → f_X9_isBarred o pp rr = some wzz → wzz.1 = bzz
def RvX (Gzz : Nat → Int32) (pzz R : Nat) (vzz : Int32) : Prop := ∀ (o : Ob) (pp rr : Int32) (wzz : Int32 × Ob), gA o 3 = Gzz → gI o 20 = 0 → pp.toInt = (pzz : Int) → rr.toInt = (R : Int) → f_X9_runsOf o pp rr = some wzz → wzz.1 = vzz
def ScV (st : Ob) (Gzz : Nat → Int32) (R pzz : Nat) : Prop := (gA st 5 (7 * R + pzz) = -1 ∧ Bv Gzz pzz R 1) ∨ (Bv Gzz pzz R 0 ∧ RvX Gzz pzz R (gA st 5 (7 * R + pzz)))
set_option maxHeartbeats 200000 in
theorem a5_at {o : Ob} {jzz xzz : Nat} {vzz : Int32} : gA (tA o 5 jzz vzz) 5 xzz = if xzz = jzz then vzz else gA o 5 xzz := rfl
set_option maxHeartbeats 200000 in
theorem a41_at {o : Ob} {jzz xzz : Nat} {vzz : Int32} : gA (tA o 41 jzz vzz) 41 xzz = if xzz = jzz then vzz else gA o 41 xzz := rfl
set_option maxHeartbeats 200000 in
theorem a44_at {o : Ob} {jzz xzz : Nat} {vzz : Int32} : gA (tA o 44 jzz vzz) 44 xzz = if xzz = jzz then vzz else gA o 44 xzz := rfl
set_option maxHeartbeats 200000 in
theorem sc_cls {pl : List CR} {czz isl mv : Ob} {Gzz : Nat → Int32} {lz : Option Nat} {n R : Nat} {rc : Int32} {zz : Ob × Ob} (hL : LwP pl lz Gzz (Gzz 3)) (hW : WtL isl mv Gzz) (en : (Gzz 0).toInt = (n : Int)) (eR : rc.toInt = (R : Int)) (hR : R < 4) : ∀ (Nzz : Nat) (v3 : Int32) (st mezz : Ob) (izz : Nat), v3.toInt = (izz : Int) → izz ≤ n → lp_X7_setScores_10 czz isl mv pl Nzz (rc, lz, v3, st, mezz) = some zz → (∀ pzz, izz ≤ pzz → pzz < n → ScV zz.1 Gzz R pzz) ∧ ∀ jzz, (jzz < 7 * R + izz ∨ 7 * R + 7 ≤ jzz) → gA zz.1 5 jzz = gA st 5 jzz := by
  have n7 : n ≤ 7 := by have := hW.1.2; omega
  intro Nzz
  induction Nzz with
  | zero => intro v3 st mezz izz _ _ hzz; cases hzz
  | succ Nzz ihzz =>
    intro v3 st mezz izz ezz hizz hzz
    have hzz : lb_X7_setScores_10 czz isl mv pl (lp_X7_setScores_10 czz isl mv pl Nzz) rc lz v3 st mezz = some zz := hzz
    unfold lb_X7_setScores_10 at hzz
    rw [hW.1.1] at hzz
    by_cases c1zz : Gzz 0 ≤ v3
    · have d := cv_le (a := (n : Int)) (b := (izz : Int)) en ezz c1zz
      rw [← Option.some.inj (z_t hzz c1zz)]
      exact ⟨fun pzz h1 h2 => absurd h1 (by omega), fun jzz _ => rfl⟩
    · have d := cv_nle (a := (n : Int)) (b := (izz : Int)) en ezz c1zz
      obtain ⟨z2, k2zz, hzz⟩ := z_bd (z_f hzz c1zz)
      have e1zz : (v3 + (1 : Int32)).toInt = ((izz + 1 : Nat) : Int) := Eq.trans (i32_add ezz (by decide : (1 : Int32).toInt = 1) (by omega) (by omega)) (by omega)
      have ix : ((rc * (7 : Int32)) + v3).toNatClampNeg = 7 * R + izz := tnc_eq (by rw [i32_add (i32_mul eR (by decide : (7 : Int32).toInt = 7) (by omega) (by omega)) ezz (by omega) (by omega)]; omega)
      have ask : ∀ (o : Ob) (pp rr : Int32), gA o 3 = Gzz → gI o 20 = 0 → pp.toInt = (izz : Int) → rr.toInt = (R : Int) → pp = v3 ∧ rr = rc ∧ Asked pl lz isl mv o v3 rc := fun o pp rr e3zz h20 ep er =>
        ⟨Int32.toInt_inj.mp (ep.trans ezz.symm), Int32.toInt_inj.mp (er.trans eR.symm), by rw [e3zz]; exact hL, by rw [e3zz]; exact hW, h20, ⟨izz, ezz, by rw [hW.1.1, en]; omega⟩, R, eR, hR⟩
      have hBzz : Bv Gzz izz R z2.1 := fun o pp rr wzz e3zz h20 ep er hw => by
        obtain ⟨q1zz, q2zz, hA⟩ := ask o pp rr e3zz h20 ep er
        rw [q1zz, q2zz] at hw
        exact (barred_eq hA k2zz hw).symm
      -- a score is written
      have wrzz : ∀ (s0zz : Int32) (me' : Ob), bk_X7_setScores_58 czz isl mv pl (lp_X7_setScores_10 czz isl mv pl Nzz) rc lz v3 s0zz ((rc * (7 : Int32)) + v3) st me' = some zz → (∀ pzz, izz + 1 ≤ pzz → pzz < n → ScV zz.1 Gzz R pzz) ∧ gA zz.1 5 (7 * R + izz) = s0zz ∧ ∀ jzz, (jzz < 7 * R + izz ∨ 7 * R + 7 ≤ jzz) → gA zz.1 5 jzz = gA st 5 jzz := by
        intro s0zz me' hzz
        unfold bk_X7_setScores_58 at hzz
        have hzz := (z_gd hzz).2
        rw [ix] at hzz
        obtain ⟨s5, g5zz, hzz⟩ := z_lt hzz
        obtain ⟨x6, g6, hzz⟩ := z_lt hzz
        obtain ⟨r1zz, r2⟩ := ihzz x6 s5 me' (izz + 1) (by rw [g6]; exact e1zz) (by omega) hzz
        refine ⟨r1zz, by rw [r2 _ (Or.inl (by omega)), g5zz, a5_at, if_pos rfl], fun jzz hj => ?_⟩
        rw [r2 jzz (by omega), g5zz, a5_at, if_neg (by omega)]
      by_cases c2zz : z2.1 = 0
      · obtain ⟨z3, k3zz, hzz⟩ := z_bd (z_t hzz c2zz)
        obtain ⟨r1zz, r2, r3⟩ := wrzz _ _ hzz
        rw [c2zz] at hBzz
        refine ⟨fun pzz h1 h2 => ?_, r3⟩
        by_cases cp : pzz = izz
        · rw [cp]
          refine Or.inr ⟨hBzz, ?_⟩
          rw [r2]
          intro o pp rr wzz e3zz h20 ep er hw
          obtain ⟨q1zz, q2zz, hA⟩ := ask o pp rr e3zz h20 ep er
          rw [q1zz, q2zz] at hw
          exact (runs_eq hA k3zz hw).symm
        · exact r1zz pzz (by omega) h2
      · obtain ⟨r1zz, r2, r3⟩ := wrzz _ _ (z_f hzz c2zz)
        refine ⟨fun pzz h1 h2 => ?_, r3⟩
        by_cases cp : pzz = izz
        · rw [cp]
          refine Or.inl ⟨r2, fun o pp rr wzz e3zz h20 ep er hw => ?_⟩
          have qzz := hBzz o pp rr wzz e3zz h20 ep er hw
          rcases barred01 hw with bzz | bzz
          · exact absurd (qzz.symm.trans bzz) c2zz
          · exact bzz
        · exact r1zz pzz (by omega) h2
def ScP (st o : Ob) (Gzz : Nat → Int32) (R pzz : Nat) : Prop := (gA o 44 pzz = 0 ∧ gA st 5 (7 * R + pzz) = gA o 41 pzz ∧ 0 ≤ (gA o 41 pzz).toInt ∧ (gA o 41 pzz).toInt ≤ 99) ∨ (gA o 44 pzz = 1 ∧ gA st 5 (7 * R + pzz) = -1 ∧ Bv Gzz pzz R 1)
set_option maxHeartbeats 200000 in
theorem sc_lay {st o' : Ob} {Gzz : Nat → Int32} {n R : Nat} {rc : Int32} (hV : ∀ pzz, pzz < n → ScV st Gzz R pzz) (en : (Gzz 0).toInt = (n : Int)) (n7 : n ≤ 7) (eR : rc.toInt = (R : Int)) : ∀ (Nzz : Nat) (v2 : Int32) (o : Ob) (izz : Nat), v2.toInt = (izz : Int) → izz ≤ n → gA o 3 = Gzz → gI o 20 = 0 → (∀ pzz, pzz < izz → ScP st o Gzz R pzz) → lp_X9_layRuns_2 Nzz (rc, v2, o) = some o' → ∀ pzz, pzz < n → ScP st o' Gzz R pzz := by
  have n0zz : (0 : Int32).toNatClampNeg = 0 := by decide
  intro Nzz
  induction Nzz with
  | zero => intro v2 o izz _ _ _ _ _ hzz; cases hzz
  | succ Nzz ihzz =>
    intro v2 o izz ezz hizz e3zz h20 hSzz hzz
    have hzz : lb_X9_layRuns_2 (lp_X9_layRuns_2 Nzz) rc v2 o = some o' := hzz
    unfold lb_X9_layRuns_2 at hzz
    rw [n0zz, e3zz] at hzz
    by_cases c1zz : Gzz 0 ≤ v2
    · have d := cv_le (a := (n : Int)) (b := (izz : Int)) en ezz c1zz
      rw [← Option.some.inj (z_t hzz c1zz)]
      exact fun pzz hp => hSzz pzz (by omega)
    · have d := cv_nle (a := (n : Int)) (b := (izz : Int)) en ezz c1zz
      have ii : v2.toNatClampNeg = izz := tnc_eq ezz
      have e1zz : (v2 + (1 : Int32)).toInt = ((izz + 1 : Nat) : Int) := Eq.trans (i32_add ezz (by decide : (1 : Int32).toInt = 1) (by omega) (by omega)) (by omega)
      obtain ⟨z1, k1zz, hzz⟩ := z_bd (z_f hzz c1zz)
      have hzz := (z_gd hzz).2
      rw [ii] at hzz
      obtain ⟨q3zz, g3zz, hzz⟩ := z_lt hzz
      obtain ⟨z4, k4zz, hzz⟩ := z_bd hzz
      have hzz := (z_gd hzz).2
      obtain ⟨q6zz, g6, hzz⟩ := z_lt hzz
      obtain ⟨x7, g7, hzz⟩ := z_lt hzz
      have f1zz := fr_f_X9_runsOf k1zz
      have f4zz := fr_f_X9_isBarred k4zz
      have s3zz : gA q3zz 3 = Gzz := by rw [g3zz]; exact (f1zz.A 3 rfl).trans e3zz
      have s20 : gI q3zz 20 = 0 := by rw [g3zz]; exact (f1zz.I 20 rfl).trans h20
      have t3zz : gA q6zz 3 = Gzz := by rw [g6]; exact (f4zz.A 3 rfl).trans s3zz
      have t20 : gI q6zz 20 = 0 := by rw [g6]; exact (f4zz.I 20 rfl).trans s20
      have a41 : ∀ xzz, gA q6zz 41 xzz = if xzz = izz then z1.1 else gA o 41 xzz := fun xzz => by
        rw [g6]
        show gA z4.2 41 xzz = _
        rw [f4zz.A 41 rfl, g3zz, a41_at, f1zz.A 41 rfl]
      have a44 : ∀ xzz, gA q6zz 44 xzz = if xzz = izz then vp_nar .boolean z4.1 else gA o 44 xzz := fun xzz => by
        rw [g6, a44_at, f4zz.A 44 rfl, g3zz]
        show (if xzz = izz then _ else gA z1.2 44 xzz) = _
        rw [f1zz.A 44 rfl]
      refine ihzz x7 q6zz (izz + 1) (by rw [g7]; exact e1zz) (by omega) t3zz t20 (fun pzz hp => ?_) hzz
      unfold ScP
      rw [a41, a44]
      by_cases cp : pzz = izz
      · rw [if_pos cp, if_pos cp, cp]
        have rr := run_rng k1zz
        rcases hV izz (by omega) with ⟨b1, b2⟩ | ⟨b1, b2⟩
        · have wzz := b2 q3zz v2 rc z4 s3zz s20 ezz eR k4zz
          exact Or.inr ⟨by rw [wzz]; decide, b1, b2⟩
        · have wzz := b1 q3zz v2 rc z4 s3zz s20 ezz eR k4zz
          have uzz := b2 o v2 rc z1 e3zz h20 ezz eR k1zz
          exact Or.inl ⟨by rw [wzz]; decide, uzz.symm, rr⟩
      · rw [if_neg cp, if_neg cp]
        exact hSzz pzz (by omega)
set_option maxHeartbeats 200000 in
theorem sc_v {pl : List CR} {st czz isl mv mezz o : Ob} {n R : Nat} {rc : Int32} {zz : Ob × Ob} (hA : AsB pl isl mv o n) (eR : rc.toInt = (R : Int)) (hR : R < 4) (h1 : f_X7_setScores st czz isl mv mezz pl rc = some zz) : (∀ pzz, pzz < n → ScV zz.1 (gA o 3) R pzz) ∧ ∀ jzz, (jzz < 7 * R ∨ 7 * R + 7 ≤ jzz) → gA zz.1 5 jzz = gA st 5 jzz := by
  unfold f_X7_setScores at h1
  obtain ⟨lz, kz, h1⟩ := z_bd h1
  obtain ⟨azz, bzz⟩ := sc_cls (hA.1 lz kz) hA.2.1 hA.2.2.2 eR hR zfu 0 st mezz 0 (by decide) (Nat.zero_le _) h1
  exact ⟨fun pzz hp => azz pzz (Nat.zero_le _) hp, bzz⟩
set_option maxHeartbeats 200000 in
theorem scr_eq {pl : List CR} {st czz isl mv mezz o o' : Ob} {n R : Nat} {rc : Int32} {zz : Ob × Ob} (hA : AsB pl isl mv o n) (eR : rc.toInt = (R : Int)) (hR : R < 4) (h1 : f_X7_setScores st czz isl mv mezz pl rc = some zz) (h2 : f_X9_layRuns o rc = some o') : ∀ pzz, pzz < n → ScP zz.1 o' (gA o 3) R pzz := by
  unfold f_X9_layRuns at h2
  exact sc_lay (sc_v hA eR hR h1).1 hA.2.2.2 hA.ppl.2 eR zfu 0 o 0 (by decide) (Nat.zero_le _) rfl hA.2.2.1 (fun pzz hp => absurd hp (Nat.not_lt_zero pzz)) h2
-- bits
def bsm (fzz : Nat → Bool) : Nat → Nat
  | 0 => 0
  | izz + 1 => bsm fzz izz + (if fzz izz = true then 2 ^ izz else 0)
def cntf (fzz : Nat → Bool) : Nat → Nat
  | 0 => 0
  | izz + 1 => cntf fzz izz + (if fzz izz = true then 1 else 0)
set_option maxHeartbeats 200000 in
theorem bsm_lt (fzz : Nat → Bool) : ∀ izz, bsm fzz izz < 2 ^ izz
  | 0 => by show (0 : Nat) < 2 ^ 0; decide
  | izz + 1 => by
    have hzz := bsm_lt fzz izz
    show bsm fzz izz + (if fzz izz = true then 2 ^ izz else 0) < 2 ^ (izz + 1)
    rw [Nat.pow_succ]
    by_cases czz : fzz izz = true
    · rw [if_pos czz]; omega
    · rw [if_neg czz]; omega
set_option maxHeartbeats 200000 in
theorem p2_le {izz : Nat} (hzz : izz ≤ 7) : 2 ^ izz ≤ 128 := Nat.pow_le_pow_right (n := 2) (by decide) hzz
set_option maxHeartbeats 200000 in
theorem bsm_z {fzz : Nat → Bool} : ∀ {n : Nat}, bsm fzz n = 0 → ∀ qzz, qzz < n → fzz qzz = false
  | 0, _, qzz, hq => absurd hq (Nat.not_lt_zero qzz)
  | n + 1, hzz, qzz, hq => by
    have hzz : bsm fzz n + (if fzz n = true then 2 ^ n else 0) = 0 := hzz
    by_cases czz : fzz n = true
    · rw [if_pos czz] at hzz
      have := Nat.two_pow_pos n
      omega
    · by_cases cq : qzz = n
      · rw [cq]; exact Bool.eq_false_iff.mpr czz
      · rw [if_neg czz] at hzz
        exact bsm_z hzz qzz (by omega)
set_option maxHeartbeats 200000 in
theorem bsm_z' {fzz : Nat → Bool} : ∀ {n : Nat}, (∀ qzz, qzz < n → fzz qzz = false) → bsm fzz n = 0
  | 0, _ => rfl
  | n + 1, hzz => by
    show bsm fzz n + (if fzz n = true then 2 ^ n else 0) = 0
    rw [bsm_z' (fun qzz hq => hzz qzz (by omega)), hzz n (by omega)]
    rfl
set_option maxHeartbeats 200000 in
theorem cnt_z {fzz : Nat → Bool} : ∀ {n : Nat}, cntf fzz n = 0 → ∀ qzz, qzz < n → fzz qzz = false
  | 0, _, qzz, hq => absurd hq (Nat.not_lt_zero qzz)
  | n + 1, hzz, qzz, hq => by
    have hzz : cntf fzz n + (if fzz n = true then 1 else 0) = 0 := hzz
    by_cases czz : fzz n = true
    · rw [if_pos czz] at hzz; omega
    · by_cases cq : qzz = n
      · rw [cq]; exact Bool.eq_false_iff.mpr czz
      · rw [if_neg czz] at hzz
        exact cnt_z hzz qzz (by omega)
set_option maxHeartbeats 200000 in
theorem cnt_z' {fzz : Nat → Bool} : ∀ {n : Nat}, (∀ qzz, qzz < n → fzz qzz = false) → cntf fzz n = 0
  | 0, _ => rfl
  | n + 1, hzz => by
    show cntf fzz n + (if fzz n = true then 1 else 0) = 0
    rw [cnt_z' (fun qzz hq => hzz qzz (by omega)), hzz n (by omega)]
    rfl
set_option maxHeartbeats 200000 in
theorem cntf_le (fzz : Nat → Bool) : ∀ n, cntf fzz n ≤ n
  | 0 => Nat.le_refl _
  | n + 1 => by
    have hzz := cntf_le fzz n
    show cntf fzz n + (if fzz n = true then 1 else 0) ≤ n + 1
    by_cases czz : fzz n = true
    · rw [if_pos czz]; omega
    · rw [if_neg czz]; omega
set_option maxHeartbeats 200000 in
theorem or_bit : ∀ izz, izz < 7 → ∀ ezz, ezz < 128 → ezz < 2 ^ izz → (Int32.ofNat ezz) ||| ((1 : Int32) <<< ((Int32.ofNat izz) &&& 31)) = Int32.ofNat (ezz + 2 ^ izz) := by decide +kernel
set_option maxHeartbeats 200000 in
theorem of_z : ∀ ezz, ezz < 128 → Int32.ofNat ezz = 0 → ezz = 0 := by decide +kernel
/-- who would be ahead, by scores -/
def ahf (st : Ob) (R Pzz qzz : Nat) : Bool := decide (¬ gA st 5 (7 * R + qzz) = -1 ∧ (gA st 5 (7 * R + Pzz) < gA st 5 (7 * R + qzz) ∨ (gA st 5 (7 * R + qzz) = gA st 5 (7 * R + Pzz) ∧ qzz < Pzz)))
set_option maxHeartbeats 200000 in
theorem ah_lp {st isl : Ob} {pzz rzz zzz : Int32} {n R Pzz : Nat} (e7zz : (gI isl 7).toInt = (n : Int)) (n7 : n ≤ 7) (eP : pzz.toInt = (Pzz : Int)) (eR : rzz.toInt = (R : Int)) (hR : R < 4) : ∀ (Nzz : Nat) (v4zz v5 : Int32) (izz : Nat), v5.toInt = (izz : Int) → izz ≤ n → v4zz = Int32.ofNat (bsm (ahf st R Pzz) izz) → lp_X7_aheadOf_18 st isl Nzz (pzz, rzz, gA st 5 (7 * R + Pzz), v4zz, v5) = some zzz → zzz = Int32.ofNat (bsm (ahf st R Pzz) n) := by
  intro Nzz
  induction Nzz with
  | zero => intro v4zz v5 izz _ _ _ hzz; cases hzz
  | succ Nzz ihzz =>
    intro v4zz v5 izz ezz hizz e4zz hzz
    have hzz : lb_X7_aheadOf_18 st isl (lp_X7_aheadOf_18 st isl Nzz) pzz rzz (gA st 5 (7 * R + Pzz)) v4zz v5 = some zzz := hzz
    unfold lb_X7_aheadOf_18 at hzz
    by_cases c1zz : gI isl 7 ≤ v5
    · have d := cv_le (a := (n : Int)) (b := (izz : Int)) e7zz ezz c1zz
      have ein : izz = n := by omega
      rw [← Option.some.inj (z_t hzz c1zz), e4zz, ein]
    · have d := cv_nle (a := (n : Int)) (b := (izz : Int)) e7zz ezz c1zz
      have e1zz : (v5 + (1 : Int32)).toInt = ((izz + 1 : Nat) : Int) := Eq.trans (i32_add ezz (by decide : (1 : Int32).toInt = 1) (by omega) (by omega)) (by omega)
      have ix : ((rzz * (7 : Int32)) + v5).toNatClampNeg = 7 * R + izz := tnc_eq (by rw [i32_add (i32_mul eR (by decide : (7 : Int32).toInt = 7) (by omega) (by omega)) ezz (by omega) (by omega)]; omega)
      have hzz := (z_gd (z_f hzz c1zz)).2
      rw [ix] at hzz
      obtain ⟨x4zz, g4, hzz⟩ := z_lt hzz
      have no : ahf st R Pzz izz = false → bk_X7_aheadOf_77 st isl (lp_X7_aheadOf_18 st isl Nzz) pzz rzz (gA st 5 (7 * R + Pzz)) v4zz v5 = some zzz → zzz = Int32.ofNat (bsm (ahf st R Pzz) n) := by
        intro hf hzz
        unfold bk_X7_aheadOf_77 at hzz
        obtain ⟨x5zz, g5zz, hzz⟩ := z_lt hzz
        refine ihzz v4zz x5zz (izz + 1) (by rw [g5zz]; exact e1zz) (by omega) ?_ hzz
        rw [e4zz]
        show _ = Int32.ofNat (bsm (ahf st R Pzz) izz + (if ahf st R Pzz izz = true then 2 ^ izz else 0))
        rw [hf]; rfl
      have yes : ahf st R Pzz izz = true → bk_X7_aheadOf_68 st isl (lp_X7_aheadOf_18 st isl Nzz) pzz rzz (gA st 5 (7 * R + Pzz)) v4zz v5 = some zzz → zzz = Int32.ofNat (bsm (ahf st R Pzz) n) := by
        intro hf hzz
        unfold bk_X7_aheadOf_68 bk_X7_aheadOf_77 at hzz
        obtain ⟨x6, g6, hzz⟩ := z_lt hzz
        obtain ⟨x5zz, g5zz, hzz⟩ := z_lt hzz
        refine ihzz x6 x5zz (izz + 1) (by rw [g5zz]; exact e1zz) (by omega) ?_ hzz
        have e5zz : v5 = Int32.ofNat izz := i32_of ezz (by omega)
        have b1 := bsm_lt (ahf st R Pzz) izz
        have b2 := p2_le (show izz ≤ 7 by omega)
        rw [g6, e4zz, e5zz, or_bit izz (by omega) _ (by omega) b1]
        show _ = Int32.ofNat (bsm (ahf st R Pzz) izz + (if ahf st R Pzz izz = true then 2 ^ izz else 0))
        rw [if_pos hf]
      by_cases c2zz : x4zz = -1
      · exact no (decide_eq_false (fun qzz => qzz.1 (g4 ▸ c2zz))) (z_t hzz c2zz)
      · have hzz := z_f hzz c2zz
        by_cases c3zz : gA st 5 (7 * R + Pzz) < x4zz
        · exact yes (decide_eq_true ⟨g4 ▸ c2zz, Or.inl (g4 ▸ c3zz)⟩) (z_t hzz c3zz)
        · have hzz := z_f hzz c3zz
          by_cases c4zz : x4zz = gA st 5 (7 * R + Pzz)
          · have hzz := z_t hzz c4zz
            by_cases c5zz : pzz ≤ v5
            · have d5zz := cv_le (a := (Pzz : Int)) (b := (izz : Int)) eP ezz c5zz
              refine no (decide_eq_false (fun qzz => ?_)) (z_t hzz c5zz)
              rcases qzz.2 with qzz | qzz
              · exact c3zz (g4 ▸ qzz)
              · omega
            · have d5zz := cv_nle (a := (Pzz : Int)) (b := (izz : Int)) eP ezz c5zz
              exact yes (decide_eq_true ⟨g4 ▸ c2zz, Or.inr ⟨g4 ▸ c4zz, by omega⟩⟩) (z_f hzz c5zz)
          · refine no (decide_eq_false (fun qzz => ?_)) (z_f hzz c4zz)
            rcases qzz.2 with qzz | qzz
            · exact c3zz (g4 ▸ qzz)
            · exact c4zz (g4 ▸ qzz.1)
set_option maxHeartbeats 200000 in
theorem ah_eq {st isl : Ob} {pzz rzz zzz : Int32} {n R Pzz : Nat} (e7zz : (gI isl 7).toInt = (n : Int)) (n7 : n ≤ 7) (eP : pzz.toInt = (Pzz : Int)) (hP : Pzz < 7) (eR : rzz.toInt = (R : Int)) (hR : R < 4) (hzz : f_X7_aheadOf st isl pzz rzz = some zzz) : zzz = Int32.ofNat (bsm (ahf st R Pzz) n) := by
  have ix : ((rzz * (7 : Int32)) + pzz).toNatClampNeg = 7 * R + Pzz := tnc_eq (by rw [i32_add (i32_mul eR (by decide : (7 : Int32).toInt = 7) (by omega) (by omega)) eP (by omega) (by omega)]; omega)
  unfold f_X7_aheadOf at hzz
  have hzz := (z_gd hzz).2
  rw [ix] at hzz
  obtain ⟨x2zz, g2, hzz⟩ := z_lt hzz
  rw [g2] at hzz
  exact ah_lp e7zz n7 eP eR hR zfu 0 0 0 (by decide) (Nat.zero_le _) rfl hzz
set_option maxHeartbeats 200000 in
theorem pl_lp {o st : Ob} {Gzz : Nat → Int32} {pzz v2 zzz : Int32} {n R Pzz ezz : Nat} (eP : pzz.toInt = (Pzz : Int)) (n7 : n ≤ 7) (hP : Pzz < n) (en : (gA o 3 0).toInt = (n : Int)) (hSzz : ∀ qzz, qzz < n → ScP st o Gzz R qzz) (hbzz : gA o 44 Pzz = 0) (evzz : v2 = Int32.ofNat ezz) (he : ezz < 128) : ∀ (Nzz : Nat) (v3 v4zz : Int32) (izz : Nat), v4zz.toInt = (izz : Int) → izz ≤ n → v3.toInt = 1 + (cntf (fun qzz => ahf st R Pzz qzz && decide ((ezz / 2 ^ qzz) % 2 = 1)) izz : Int) → lp_X9_placeOf_5 o Nzz (pzz, v2, v3, v4zz) = some zzz → zzz.toInt = 1 + (cntf (fun qzz => ahf st R Pzz qzz && decide ((ezz / 2 ^ qzz) % 2 = 1)) n : Int) := by
  have n0zz : (0 : Int32).toNatClampNeg = 0 := by decide
  have iP : pzz.toNatClampNeg = Pzz := tnc_eq eP
  have sP : gA st 5 (7 * R + Pzz) = gA o 41 Pzz := by
    rcases hSzz Pzz hP with ⟨-, qzz, -⟩ | ⟨qzz, -, -⟩
    · exact qzz
    · rw [hbzz] at qzz; exact absurd qzz (by decide)
  intro Nzz
  induction Nzz with
  | zero => intro v3 v4zz izz _ _ _ hzz; cases hzz
  | succ Nzz ihzz =>
    intro v3 v4zz izz e4zz hizz e3zz hzz
    have hzz : lb_X9_placeOf_5 o (lp_X9_placeOf_5 o Nzz) pzz v2 v3 v4zz = some zzz := hzz
    unfold lb_X9_placeOf_5 at hzz
    rw [n0zz] at hzz
    by_cases c1zz : gA o 3 0 ≤ v4zz
    · have d := cv_le (a := (n : Int)) (b := (izz : Int)) en e4zz c1zz
      have ein : izz = n := by omega
      rw [← Option.some.inj (z_t hzz c1zz), e3zz, ein]
    · have d := cv_nle (a := (n : Int)) (b := (izz : Int)) en e4zz c1zz
      have ii : v4zz.toNatClampNeg = izz := tnc_eq e4zz
      have e1zz : (v4zz + (1 : Int32)).toInt = ((izz + 1 : Nat) : Int) := Eq.trans (i32_add e4zz (by decide : (1 : Int32).toInt = 1) (by omega) (by omega)) (by omega)
      have hzz := z_f hzz c1zz
      rw [ii, iP] at hzz
      have cl := cntf_le (fun qzz => ahf st R Pzz qzz && decide ((ezz / 2 ^ qzz) % 2 = 1)) izz
      have no : (ahf st R Pzz izz && decide ((ezz / 2 ^ izz) % 2 = 1)) = false → bk_X9_placeOf_84 o (lp_X9_placeOf_5 o Nzz) pzz v2 v4zz v3 = some zzz → zzz.toInt = 1 + (cntf (fun qzz => ahf st R Pzz qzz && decide ((ezz / 2 ^ qzz) % 2 = 1)) n : Int) := by
        intro hf hzz
        unfold bk_X9_placeOf_84 bk_X9_placeOf_85 at hzz
        obtain ⟨x1zz, g1, hzz⟩ := z_lt hzz
        obtain ⟨x2zz, g2, hzz⟩ := z_lt hzz
        refine ihzz x1zz x2zz (izz + 1) (by rw [g2]; exact e1zz) (by omega) ?_ hzz
        rw [g1, Int32.add_zero, e3zz]
        show _ = 1 + ((cntf (fun qzz => ahf st R Pzz qzz && decide ((ezz / 2 ^ qzz) % 2 = 1)) izz + (if (ahf st R Pzz izz && decide ((ezz / 2 ^ izz) % 2 = 1)) = true then 1 else 0) : Nat) : Int)
        rw [hf]; rfl
      have yes : (ahf st R Pzz izz && decide ((ezz / 2 ^ izz) % 2 = 1)) = true → bk_X9_placeOf_80 o (lp_X9_placeOf_5 o Nzz) pzz v2 v4zz v3 = some zzz → zzz.toInt = 1 + (cntf (fun qzz => ahf st R Pzz qzz && decide ((ezz / 2 ^ qzz) % 2 = 1)) n : Int) := by
        intro hf hzz
        unfold bk_X9_placeOf_80 bk_X9_placeOf_85 at hzz
        obtain ⟨x1zz, g1, hzz⟩ := z_lt hzz
        obtain ⟨x2zz, g2, hzz⟩ := z_lt hzz
        refine ihzz x1zz x2zz (izz + 1) (by rw [g2]; exact e1zz) (by omega) ?_ hzz
        rw [g1, i32_add e3zz (by decide : (1 : Int32).toInt = 1) (by omega) (by omega)]
        show _ = 1 + ((cntf (fun qzz => ahf st R Pzz qzz && decide ((ezz / 2 ^ qzz) % 2 = 1)) izz + (if (ahf st R Pzz izz && decide ((ezz / 2 ^ izz) % 2 = 1)) = true then 1 else 0) : Nat) : Int)
        rw [if_pos hf]; omega
      have nfzz : ahf st R Pzz izz = false → (ahf st R Pzz izz && decide ((ezz / 2 ^ izz) % 2 = 1)) = false := fun qzz => by rw [qzz]; rfl
      by_cases c2zz : v4zz = pzz
      · have ei : izz = Pzz := by
          have qzz := cv_eq (a := (izz : Int)) (b := (Pzz : Int)) e4zz eP c2zz
          omega
        refine no (nfzz (decide_eq_false (fun qzz => ?_))) (z_t hzz c2zz)
        rw [ei] at qzz
        rcases qzz.2 with qzz | qzz
        · exact Int32.lt_irrefl qzz
        · omega
      · have hzz := z_f hzz c2zz
        obtain ⟨w3zz, l3, hzz⟩ := z_bd hzz
        unfold f_X9_is at l3
        have e5zz : v4zz = Int32.ofNat izz := i32_of e4zz (by omega)
        have bb := bit_all ezz he izz (by omega)
        rw [← evzz, ← e5zz] at bb
        by_cases cb : ((v2 >>> (v4zz &&& 31)) &&& (1 : Int32)) = (1 : Int32)
        · have w30 : ¬ w3zz = 0 := by rw [← Option.some.inj (z_t l3 cb)]; decide
          have b1 : (ezz / 2 ^ izz) % 2 = 1 := by
            rw [cb, (by decide : (1 : Int32).toInt = 1)] at bb
            omega
          have hzz := (z_gd (z_f hzz w30)).2
          rcases hSzz izz (by omega) with ⟨s1zz, s2zz, s3zz, s4zz⟩ | ⟨s1zz, s2zz, -⟩
          · have hzz := (z_gd (z_gd (z_t hzz s1zz)).2).2
            have ne : ¬ gA st 5 (7 * R + izz) = -1 := fun qzz => by
              rw [← s2zz, qzz, (by decide : (-1 : Int32).toInt = -1)] at s3zz; omega
            by_cases c3zz : gA o 41 Pzz < gA o 41 izz
            · have t : ahf st R Pzz izz = true := decide_eq_true ⟨ne, Or.inl (by rw [sP, s2zz]; exact c3zz)⟩
              exact yes (by rw [t, decide_eq_true b1]; rfl) (z_t hzz c3zz)
            · have hzz := (z_gd (z_gd (z_f hzz c3zz)).2).2
              by_cases c4zz : gA o 41 izz = gA o 41 Pzz
              · have hzz := z_t hzz c4zz
                by_cases c5zz : pzz ≤ v4zz
                · have d5zz := cv_le (a := (Pzz : Int)) (b := (izz : Int)) eP e4zz c5zz
                  refine no (nfzz (decide_eq_false (fun qzz => ?_))) (z_t hzz c5zz)
                  rcases qzz.2 with qzz | qzz
                  · rw [sP, s2zz] at qzz; exact c3zz qzz
                  · omega
                · have d5zz := cv_nle (a := (Pzz : Int)) (b := (izz : Int)) eP e4zz c5zz
                  have t : ahf st R Pzz izz = true := decide_eq_true ⟨ne, Or.inr ⟨by rw [sP, s2zz]; exact c4zz, by omega⟩⟩
                  exact yes (by rw [t, decide_eq_true b1]; rfl) (z_f hzz c5zz)
              · refine no (nfzz (decide_eq_false (fun qzz => ?_))) (z_f hzz c4zz)
                rcases qzz.2 with qzz | qzz
                · rw [sP, s2zz] at qzz; exact c3zz qzz
                · rw [sP, s2zz] at qzz; exact c4zz qzz.1
          · have nb : ¬ gA o 44 izz = 0 := by rw [s1zz]; decide
            exact no (nfzz (decide_eq_false (fun qzz => qzz.1 s2zz))) (z_f hzz nb)
        · have w30 : w3zz = 0 := (Option.some.inj (z_f l3 cb)).symm
          have b0 : ¬ (ezz / 2 ^ izz) % 2 = 1 := fun qzz => cb (Int32.toInt_inj.mp (by rw [bb, qzz]; decide))
          refine no ?_ (z_t hzz w30)
          rw [decide_eq_false b0, Bool.and_false]
set_option maxHeartbeats 200000 in
theorem pl_eq {o st : Ob} {Gzz : Nat → Int32} {pzz v2 zzz : Int32} {n R Pzz ezz : Nat} (eP : pzz.toInt = (Pzz : Int)) (n7 : n ≤ 7) (hP : Pzz < n) (en : (gA o 3 0).toInt = (n : Int)) (hSzz : ∀ qzz, qzz < n → ScP st o Gzz R qzz) (hbzz : gA o 44 Pzz = 0) (evzz : v2 = Int32.ofNat ezz) (he : ezz < 128) (hzz : f_X9_placeOf o pzz v2 = some zzz) : zzz.toInt = 1 + (cntf (fun qzz => ahf st R Pzz qzz && decide ((ezz / 2 ^ qzz) % 2 = 1)) n : Int) := by
  unfold f_X9_placeOf at hzz
  exact pl_lp eP n7 hP en hSzz hbzz evzz he zfu 1 0 0 (by decide) (Nat.zero_le _) (by show (1 : Int32).toInt = 1 + ((0 : Nat) : Int); decide) hzz
set_option maxHeartbeats 200000 in
theorem b127 : ∀ qzz, qzz < 7 → (127 / 2 ^ qzz) % 2 = 1 := by decide
set_option maxHeartbeats 200000 in
theorem nv_in {pl : List CR} {czz isl mv st mezz o : Ob} {rec14 : Int32 × Int32 × Ob × Ob → Option (Int32 × Ob × Ob)} {rec18 : Int32 × Int32 × Ob → Option (Int32 × Ob)} {Gzz : Nat → Int32} {v2 : Int32} {n R : Nat} {yzz : Int32 × Ob × Ob} {y' : Int32 × Ob} {Qzz : Prop} (e7zz : gI isl 7 = gA o 3 0) (n7 : n ≤ 7) (en : (gA o 3 0).toInt = (n : Int)) (eR : v2.toInt = (R : Int)) (hR : R < 4) (hSzz : ∀ qzz, qzz < n → ScP st o Gzz R qzz)
    (hrec : ∀ (xzz v1zz : Int32), xzz = v2 + 1 → rec14 (v1zz, xzz, st, mezz) = some yzz → rec18 (v1zz, xzz, o) = some y' → Qzz) : ∀ (Nzz N' : Nat) (v1zz v3 : Int32) (izz : Nat), v3.toInt = (izz : Int) → izz ≤ n → lp_X7_neverSecond_26 czz isl mv pl rec14 Nzz (v1zz, v2, v3, st, mezz) = some yzz → lp_X9_never_30 rec18 N' (v1zz, v2, v3, o) = some y' → Qzz := by
  have n0zz : (0 : Int32).toNatClampNeg = 0 := by decide
  intro Nzz
  induction Nzz with
  | zero => intro N' v1zz v3 izz _ _ hzz; cases hzz
  | succ Nzz ihzz =>
    intro N' v1zz v3 izz ezz hizz h1 h2
    cases N' with
    | zero => cases h2
    | succ N' =>
    have h1 : lb_X7_neverSecond_26 czz isl mv pl rec14 (lp_X7_neverSecond_26 czz isl mv pl rec14 Nzz) v1zz v2 v3 st mezz = some yzz := h1
    have h2 : lb_X9_never_30 rec18 (lp_X9_never_30 rec18 N') v1zz v2 v3 o = some y' := h2
    unfold lb_X7_neverSecond_26 at h1
    unfold lb_X9_never_30 at h2
    rw [n0zz] at h2
    rw [e7zz] at h1
    by_cases c1zz : gA o 3 0 ≤ v3
    · obtain ⟨x3, g3zz, h1⟩ := z_lt (z_t h1 c1zz)
      obtain ⟨x4zz, g4, h2⟩ := z_lt (z_t h2 c1zz)
      have exzz : x4zz = x3 := g4.trans g3zz.symm
      rw [exzz] at h2
      exact hrec x3 v1zz g3zz h1 h2
    · have d := cv_nle (a := (n : Int)) (b := (izz : Int)) en ezz c1zz
      have ii : v3.toNatClampNeg = izz := tnc_eq ezz
      have e1zz : (v3 + (1 : Int32)).toInt = ((izz + 1 : Nat) : Int) := Eq.trans (i32_add ezz (by decide : (1 : Int32).toInt = 1) (by omega) (by omega)) (by omega)
      have ix : ((v2 * (7 : Int32)) + v3).toNatClampNeg = 7 * R + izz := tnc_eq (by rw [i32_add (i32_mul eR (by decide : (7 : Int32).toInt = 7) (by omega) (by omega)) ezz (by omega) (by omega)]; omega)
      have h1 := (z_gd (z_f h1 c1zz)).2
      have h2 := (z_gd (z_f h2 c1zz)).2
      rw [ix] at h1
      rw [ii] at h2
      have skip : bk_X7_neverSecond_69 czz isl mv pl rec14 (lp_X7_neverSecond_26 czz isl mv pl rec14 Nzz) v1zz v2 v3 st mezz = some yzz → bk_X9_never_61 rec18 (lp_X9_never_30 rec18 N') v2 v3 v1zz o = some y' → Qzz := by
        intro h1 h2
        unfold bk_X7_neverSecond_69 at h1
        unfold bk_X9_never_61 bk_X9_never_70 at h2
        obtain ⟨x5zz, g5zz, h1⟩ := z_lt h1
        obtain ⟨x6, g6, h2⟩ := z_lt h2
        obtain ⟨x7, g7, h2⟩ := z_lt h2
        have exzz : x7 = x5zz := g7.trans g5zz.symm
        have evzz : x6 = v1zz := by rw [g6, Int32.and_neg_one]
        rw [exzz, evzz] at h2
        exact ihzz N' v1zz x5zz (izz + 1) (by rw [g5zz]; exact e1zz) (by omega) h1 h2
      rcases hSzz izz (by omega) with ⟨s1zz, s2zz, s3zz, s4zz⟩ | ⟨s1zz, s2zz, -⟩
      · have ne : ¬ gA st 5 (7 * R + izz) = -1 := fun qzz => by
          rw [← s2zz, qzz, (by decide : (-1 : Int32).toInt = -1)] at s3zz; omega
        obtain ⟨z6, k6zz, h1⟩ := z_bd (z_f h1 ne)
        obtain ⟨w8, l8, h2⟩ := z_bd (z_t h2 s1zz)
        have za := ah_eq (by rw [e7zz]; exact en) n7 ezz (by omega) eR hR k6zz
        have wp := pl_eq (ezz := 127) ezz n7 (by omega) en hSzz s1zz rfl (by decide) l8
        have bl := bsm_lt (ahf st R izz) n
        have b2 := p2_le n7
        by_cases cz : z6 = 0
        · have bz := of_z _ (by omega) (za.symm.trans cz)
          have cz' : cntf (fun qzz => ahf st R izz qzz && decide ((127 / 2 ^ qzz) % 2 = 1)) n = 0 := cnt_z' (fun qzz hq => by rw [bsm_z bz qzz hq]; rfl)
          rw [cz'] at wp
          have w81 : w8 = 1 := Int32.toInt_inj.mp (by rw [wp]; decide)
          exact skip (z_t h1 cz) (z_t h2 w81)
        · have w81 : ¬ w8 = 1 := fun qzz => by
            rw [qzz, (by decide : (1 : Int32).toInt = 1)] at wp
            have c0zz : cntf (fun qzz => ahf st R izz qzz && decide ((127 / 2 ^ qzz) % 2 = 1)) n = 0 := by omega
            have bz : bsm (ahf st R izz) n = 0 := bsm_z' (fun qzz hq => by
              have uzz := cnt_z c0zz qzz hq
              rw [decide_eq_true (b127 qzz (by omega)), Bool.and_true] at uzz
              exact uzz)
            rw [bz] at za
            exact cz za
          obtain ⟨x7, g7, h1⟩ := z_lt (z_f h1 cz)
          have h2 := z_f h2 w81
          unfold bk_X7_neverSecond_69 at h1
          unfold bk_X9_never_70 at h2
          obtain ⟨x5zz, g5zz, h1⟩ := z_lt h1
          obtain ⟨x6, g6, h2⟩ := z_lt h2
          obtain ⟨x8, g8, h2⟩ := z_lt h2
          have exzz : x8 = x5zz := g8.trans g5zz.symm
          have evzz : x6 = x7 := g6.trans g7.symm
          rw [exzz, evzz] at h2
          exact ihzz N' x7 x5zz (izz + 1) (by rw [g5zz]; exact e1zz) (by omega) h1 h2
      · have nb : ¬ gA o 44 izz = 0 := by rw [s1zz]; decide
        exact skip (z_t h1 s2zz) (z_f h2 nb)
set_option maxHeartbeats 200000 in
theorem nv_out {pl : List CR} {czz isl mv : Ob} {n : Nat} {yzz : Int32 × Ob × Ob} {y' : Int32 × Ob} : ∀ (Nzz N' : Nat) (v1zz v2 : Int32) (st mezz o : Ob) (izz : Nat), v2.toInt = (izz : Int) → izz ≤ 4 → AsB pl isl mv o n → lp_X7_neverSecond_14 czz isl mv pl Nzz (v1zz, v2, st, mezz) = some yzz → lp_X9_never_18 N' (v1zz, v2, o) = some y' → yzz.1 = y'.1 := by
  intro Nzz
  induction Nzz with
  | zero => intro N' v1zz v2 st mezz o izz _ _ _ hzz; cases hzz
  | succ Nzz ihzz =>
    intro N' v1zz v2 st mezz o izz ezz hizz hA h1 h2
    cases N' with
    | zero => cases h2
    | succ N' =>
    have h1 : lb_X7_neverSecond_14 czz isl mv pl (lp_X7_neverSecond_14 czz isl mv pl Nzz) v1zz v2 st mezz = some yzz := h1
    have h2 : lb_X9_never_18 (lp_X9_never_18 N') v1zz v2 o = some y' := h2
    unfold lb_X7_neverSecond_14 at h1
    unfold lb_X9_never_18 at h2
    by_cases c1zz : (4 : Int32) ≤ v2
    · rw [← Option.some.inj (z_t h1 c1zz), ← Option.some.inj (z_t h2 c1zz)]
    · have d := cv_nle (a := 4) (b := (izz : Int)) (by decide) ezz c1zz
      have e1zz : (v2 + (1 : Int32)).toInt = ((izz + 1 : Nat) : Int) := Eq.trans (i32_add ezz (by decide : (1 : Int32).toInt = 1) (by omega) (by omega)) (by omega)
      obtain ⟨z2, k2zz, h1⟩ := z_bd (z_f h1 c1zz)
      obtain ⟨w3zz, l3, h2⟩ := z_bd (z_f h2 c1zz)
      have hSzz := scr_eq hA ezz (by omega) k2zz l3
      have flzz := fr_f_X9_layRuns l3
      have hA' : AsB pl isl mv w3zz n := hA.eq (flzz.A 3 rfl) (flzz.I 20 rfl)
      have pp := hA'.ppl
      exact nv_in pp.1 pp.2 hA'.2.2.2 ezz (by omega) hSzz (fun xzz vzz hx h1 h2 => ihzz N' vzz xzz z2.1 z2.2 w3zz (izz + 1) (by rw [hx]; exact e1zz) (by omega) hA' h1 h2) zfu zfu v1zz 0 0 (by decide) (Nat.zero_le _) h1 h2
set_option maxHeartbeats 200000 in
theorem tf_never {pl : List CR} {o0zz o1 mezz o4zz o5zz czz st o8zz o6 o11 o9 : Ob} {im0 im1 : Option IR} {yzz : Int32 × Ob × Ob} {y' : Int32 × Ob} (ht : TF pl o0zz o1 o4zz o5zz o8zz o6 o11 o9 im0 im1) (h20 : gI o9 20 = 0) (h1 : f_X8_never o0zz mezz o4zz o5zz czz st pl = some yzz) (h2 : f_X9_never o9 = some y') : yzz.1 = y'.1 := by
  have n0zz : (0 : Int32).toNatClampNeg = 0 := by decide
  unfold f_X8_never at h1
  unfold f_X9_never at h2
  rw [n0zz] at h2
  obtain ⟨q1zz, g1, h2⟩ := z_lt h2
  have ht1 : TF pl o0zz o1 o4zz o5zz o8zz o6 o11 q1zz im0 im1 := by rw [g1]; exact ht.sI0
  have hA := (ht1.s (by rw [g1]; exact h20)).asb
  obtain ⟨x2zz, g2, h2⟩ := z_lt h2
  obtain ⟨z1, k1zz, h1⟩ := z_bd h1
  rw [← Option.some.inj h1]
  unfold f_X7_neverSecond at k1zz
  obtain ⟨x1zz, f1zz, k1zz⟩ := z_lt k1zz
  have exzz : x2zz = x1zz := by rw [g2, f1zz, hA.ppl.1]
  rw [exzz] at h2
  show z1.1 = y'.1
  exact nv_out zfu zfu x1zz 0 st mezz q1zz 0 (by decide) (Nat.zero_le _) hA k1zz h2
