set_option maxHeartbeats 200000 in
theorem at_eq {czz : Ob} {pzz zzz : Int32} {kzz izz : Nat} (ek : (gI czz 4).toInt = (kzz : Int)) (ep : pzz.toInt = (izz : Int) + 1) (hizz : izz < 7) (hzz : f_X1_at czz pzz = some zzz) : (izz < kzz ∧ zzz = gA czz 2 izz) ∨ (kzz ≤ izz ∧ zzz = -1) := by
  unfold f_X1_at at hzz
  rcases z_if hzz with ⟨c0zz, hzz⟩ | ⟨c0zz, hzz⟩
  · have c0zz := cv_lt (a := (izz : Int) + 1) (b := 1) ep (by decide) c0zz
    omega
  · rcases z_if hzz with ⟨c1zz, hzz⟩ | ⟨c1zz, hzz⟩
    · have c1zz := cv_lt (a := (kzz : Int)) (b := (izz : Int) + 1) ek ep c1zz
      exact Or.inr ⟨by omega, (Option.some.inj hzz).symm⟩
    · have c1zz := cv_nlt (a := (kzz : Int)) (b := (izz : Int) + 1) ek ep c1zz
      have hzz := Option.some.inj (z_gd hzz).2
      have ix : (pzz - (1 : Int32)).toNatClampNeg = izz := tnc_eq (by rw [i32_sub ep (by decide : (1 : Int32).toInt = 1) (by omega) (by omega)]; omega)
      rw [ix] at hzz
      exact Or.inl ⟨by omega, hzz.symm⟩
set_option maxHeartbeats 200000 in
/-- the line of both, as far as it is told -/
def Lne (czz o : Ob) (n kzz : Nat) : Prop := gI czz 4 = gI o 43 ∧ (gI czz 4).toInt = (kzz : Int) ∧ ∀ jzz, jzz < kzz → gA czz 2 jzz = gA o 42 jzz ∧ 0 ≤ (gA czz 2 jzz).toInt ∧ (gA czz 2 jzz).toInt < (n : Int)
set_option maxHeartbeats 200000 in
theorem LUt.lne {czz o : Ob} {n kzz : Nat} (hzz : LUt czz o n kzz) : Lne czz o n kzz := ⟨hzz.1, hzz.2.1, fun jzz hj => ⟨(hzz.2.2 jzz hj).1, (hzz.2.2 jzz hj).2.1, (hzz.2.2 jzz hj).2.2.1⟩⟩
set_option maxHeartbeats 200000 in
theorem Lne.eq {czz o o' : Ob} {n kzz : Nat} (hzz : Lne czz o n kzz) (e1zz : gI o' 43 = gI o 43) (e2zz : gA o' 42 = gA o 42) : Lne czz o' n kzz := ⟨hzz.1.trans e1zz.symm, hzz.2.1, fun jzz hj => by rw [e2zz]; exact hzz.2.2 jzz hj⟩
set_option maxHeartbeats 200000 in
theorem race_clr {czz isl : Ob} {pl : List CR} {n kzz : Nat} {fzz : Int32} {yzz : Int32 × Ob × Ob} {y' : Int32 × Ob} (hn7 : n ≤ 7) (hkn : kzz ≤ n) :
    ∀ (Nzz N' : Nat) (vzz : Int32) (mv mezz o : Ob) (izz : Nat), vzz.toInt = (izz : Int) → izz ≤ kzz → Lne czz o n kzz → TzM mv (gA o 3) → lp_X1_heldRace_186 czz isl pl Nzz (fzz, vzz, mv, mezz) = some yzz → lp_X9_raceIt_219 N' (fzz, vzz, o) = some y' → yzz.1 = fzz ∧ y'.1 = fzz ∧ TzM yzz.2.1 (gA y'.2 3) ∧ RwC n (gA o 3) (gA y'.2 3) := by
  intro Nzz
  induction Nzz with
  | zero => intro N' vzz mv mezz o izz _ _ _ _ h1; cases h1
  | succ Nzz ihzz =>
    intro N' vzz mv mezz o izz evzz hizz hTzz hMzz h1 h2
    cases N' with
    | zero => cases h2
    | succ N' =>
    have h1 : lb_X1_heldRace_186 czz isl pl (lp_X1_heldRace_186 czz isl pl Nzz) fzz vzz mv mezz = some yzz := h1
    have h2 : lb_X9_raceIt_219 (lp_X9_raceIt_219 N') fzz vzz o = some y' := h2
    unfold lb_X1_heldRace_186 at h1
    unfold lb_X9_raceIt_219 at h2
    rw [← hTzz.1] at h2
    by_cases c0zz : gI czz 4 ≤ vzz
    · have h1 := Option.some.inj (z_t h1 c0zz)
      have h2 := Option.some.inj (z_t h2 c0zz)
      rw [← h1, ← h2]
      exact ⟨rfl, rfl, hMzz, RwC.rf⟩
    · have h1 := z_f h1 c0zz
      have h2 := z_f h2 c0zz
      have c0zz := cv_nle (a := (kzz : Int)) (b := (izz : Int)) hTzz.2.1 evzz c0zz
      have ivzz : vzz.toNatClampNeg = izz := tnc_eq evzz
      rw [ivzz] at h1 h2
      have h1 := (z_gd h1).2
      have h2 := (z_gd (z_gd h2).2).2
      obtain ⟨l1, l2, l3⟩ := hTzz.2.2 izz (by omega)
      rw [← l1] at h2
      obtain ⟨xzz, exzz⟩ : ∃ xzz : Nat, (gA czz 2 izz).toInt = (xzz : Int) := ⟨(gA czz 2 izz).toInt.toNat, by omega⟩
      have ix : ((22 : Int32) + gA czz 2 izz).toNatClampNeg = 22 + xzz := tnc_eq (by rw [i32_add (by decide : (22 : Int32).toInt = 22) exzz (by omega) (by omega)]; omega)
      rw [ix] at h2
      obtain ⟨m9zz, g9, h1⟩ := z_lt h1
      obtain ⟨x10, q1zz, h1⟩ := z_lt h1
      obtain ⟨o11, k11, h2⟩ := z_lt h2
      obtain ⟨x12, q2zz, h2⟩ := z_lt h2
      have qx : x12 = x10 := q2zz.trans q1zz.symm
      rw [qx] at h2
      have bc := bits_clear (Ezz := gI mv 2) hMzz.2.2.2.2.2 exzz (by omega)
      have eG : gA o11 3 = upd (gA o 3) (22 + xzz) 0 := by rw [k11]; rfl
      have hM9 : TzM m9zz (gA o11 3) := by rw [g9, eG]; exact hMzz.ent bc.2 bc.1 (by omega)
      obtain ⟨r1zz, r2, r3, r4⟩ := ihzz N' x10 m9zz mezz o11 (izz + 1) (by rw [q1zz]; exact Eq.trans (i32_add evzz (by decide : (1 : Int32).toInt = 1) (by omega) (by omega)) (by omega)) (by omega) (hTzz.eq (by rw [k11]; rfl) (by rw [k11]; rfl)) hM9 h1 h2
      exact ⟨r1zz, r2, r3, RwC.tr (by rw [eG]; exact RwC.up (by omega)) r4⟩
set_option maxHeartbeats 200000 in
theorem upd_own {Gzz : Nat → Int32} {azz : Nat} {vzz : Int32} (hzz : vzz = Gzz azz) : upd Gzz azz vzz = Gzz := by
  funext jzz
  rw [updA]
  by_cases czz : jzz = azz
  · rw [if_pos czz, hzz, czz]
  · rw [if_neg czz]
/-- from the third's prizes on -/
theorem race_end {czz isl mv mezz o : Ob} {pl : List CR} {n kzz : Nat} {fzz t w3zz : Int32} {yzz : Int32 × Ob × Ob} {y' : Int32 × Ob} (hn7 : n ≤ 7) (hkn : kzz ≤ n) (hTzz : Lne czz o n kzz) (hMzz : TzM mv (gA o 3)) (h3 : 0 ≤ w3zz.toInt ∧ w3zz.toInt ≤ 9) (ht : (kzz ≤ 2 ∧ t = -1) ∨ (2 < kzz ∧ t = gA czz 2 2))
    (h1 : bk_X1_heldRace_163 czz isl pl fzz t w3zz mv mezz = some yzz) (h2 : bk_X9_raceIt_169 fzz w3zz o = some y') : yzz.1 = fzz ∧ y'.1 = fzz ∧ TzM yzz.2.1 (gA y'.2 3) ∧ RwC n (gA o 3) (gA y'.2 3) := by
  unfold bk_X1_heldRace_163 at h1
  unfold bk_X9_raceIt_169 at h2
  have n2zz : (2 : Int32).toNatClampNeg = 2 := by decide
  rw [n2zz, ← hTzz.1] at h2
  rcases ht with ⟨q1zz, q2zz⟩ | ⟨q1zz, q2zz⟩
  · have h1 := z_t h1 q2zz
    have h2 := z_t h2 (Int32.le_iff_toInt_le.mpr (by rw [hTzz.2.1]; have : (2 : Int32).toInt = 2 := (by decide); omega))
    unfold bk_X1_heldRace_183 at h1
    unfold bk_X9_raceIt_216 at h2
    exact race_clr hn7 hkn zfu zfu 0 mv mezz o 0 (by decide) (Nat.zero_le _) hTzz hMzz h1 h2
  · obtain ⟨l1, l2, l3⟩ := hTzz.2.2 2 q1zz
    obtain ⟨xzz, exzz⟩ : ∃ xzz : Nat, (gA czz 2 2).toInt = (xzz : Int) := ⟨(gA czz 2 2).toInt.toNat, by omega⟩
    have h1 := z_f h1 (fun qzz => by rw [q2zz] at qzz; rw [qzz] at l2; exact absurd l2 (by decide))
    have h2 := z_f h2 (fun qzz => by have qzz := cv_le (a := (kzz : Int)) (b := 2) hTzz.2.1 (by decide) qzz; omega)
    have ix : ((15 : Int32) + gA czz 2 2).toNatClampNeg = 15 + xzz := tnc_eq (by rw [i32_add (by decide : (15 : Int32).toInt = 15) exzz (by omega) (by omega)]; omega)
    rw [← l1, ix] at h2
    rw [q2zz] at h1
    obtain ⟨z11, e11zz, h1⟩ := z_bd h1
    have h2 := (z_gd h2).2
    obtain ⟨z14zz, e14zz, h2⟩ := z_bd h2
    have h2 := (z_gd h2).2
    obtain ⟨o16, k16, h2⟩ := z_lt h2
    unfold bk_X1_heldRace_183 at h1
    unfold bk_X9_raceIt_216 at h2
    have eG : gA o16 3 = upd (gA o 3) (15 + xzz) z14zz := by rw [k16]; rfl
    have hM' : TzM z11 (gA o16 3) := by rw [eG]; exact hMzz.prize exzz (by omega) ⟨h3.1, by omega⟩ e11zz e14zz
    obtain ⟨r1zz, r2, r3, r4⟩ := race_clr hn7 hkn zfu zfu 0 z11 mezz o16 0 (by decide) (Nat.zero_le _) (hTzz.eq (by rw [k16]; rfl) (by rw [k16]; rfl)) hM' h1 h2
    exact ⟨r1zz, r2, r3, RwC.tr (by rw [eG]; exact RwC.up (by omega)) r4⟩
set_option maxHeartbeats 200000 in
/-- from what all win on -/
theorem race_tail {czz isl mv mezz o : Ob} {pl : List CR} {lz : Option Nat} {rc : Int32} {n kzz : Nat} {fzz s t w1zz w2zz w3zz t2zz : Int32} {yzz : Int32 × Ob × Ob} {y' : Int32 × Ob} (hn7 : n ≤ 7) (hkn : kzz ≤ n) (hk : 1 ≤ kzz) (hTzz : Lne czz o n kzz) (hMzz : TzM mv (gA o 3))
    (hf : fzz = gA czz 2 0) (hw1 : 0 ≤ w1zz.toInt ∧ w1zz.toInt ≤ 9) (hw2 : 0 ≤ w2zz.toInt ∧ w2zz.toInt ≤ 9) (hw3 : 0 ≤ w3zz.toInt ∧ w3zz.toInt ≤ 9) (ht2 : 0 ≤ t2zz.toInt ∧ t2zz.toInt ≤ 9)
    (hs : (kzz = 1 ∧ s = -1 ∧ w2zz = 0) ∨ (1 < kzz ∧ s = gA czz 2 1 ∧ ∀ (zzz : Int32 × Ob), f_X1_turnsTo_Q czz isl mv mezz pl lz s rc = some zzz → zzz.1 = t2zz)) (ht : (kzz ≤ 2 ∧ t = -1) ∨ (2 < kzz ∧ t = gA czz 2 2))
    (h1 : bk_X1_heldRace_87 czz isl pl rc lz fzz s t w1zz w2zz w3zz mv mezz = some yzz) (h2 : bk_X9_raceIt_90 fzz w1zz w2zz t2zz w3zz o = some y') : yzz.1 = fzz ∧ y'.1 = fzz ∧ TzM yzz.2.1 (gA y'.2 3) ∧ RwC n (gA o 3) (gA y'.2 3) := by
  have n7 : (7 : Int32).toNatClampNeg = 7 := by decide
  have n1zz : (1 : Int32).toNatClampNeg = 1 := by decide
  obtain ⟨l1, l2, l3⟩ := hTzz.2.2 0 (by omega)
  obtain ⟨xzz, exzz⟩ : ∃ xzz : Nat, (gA czz 2 0).toInt = (xzz : Int) := ⟨(gA czz 2 0).toInt.toNat, by omega⟩
  have exf : fzz.toInt = (xzz : Int) := by rw [hf]; exact exzz
  have nfzz : ¬ fzz = -1 := fun qzz => by rw [qzz] at exf; have wzz : (-1 : Int32).toInt = -1 := (by decide); omega
  have ix : ((15 : Int32) + fzz).toNatClampNeg = 15 + xzz := tnc_eq (by rw [i32_add (by decide : (15 : Int32).toInt = 15) exf (by omega) (by omega)]; omega)
  unfold bk_X9_raceIt_90 at h2
  rw [n7, n1zz, ix] at h2
  have h2 := (z_gd h2).2
  obtain ⟨z4, e4zz, h2⟩ := z_bd h2
  have h2 := (z_gd h2).2
  obtain ⟨o6, k6zz, h2⟩ := z_lt h2
  obtain ⟨z7, e7zz, h2⟩ := z_bd h2
  obtain ⟨o8zz, k8zz, h2⟩ := z_lt h2
  have G6 : gA o6 3 = upd (gA o 3) (15 + xzz) z4 := by rw [k6zz]; rfl
  have G8 : gA o8zz 3 = upd (upd (gA o 3) (15 + xzz) z4) 7 z7 := by rw [k8zz, ← G6]; rfl
  have g67 : gA o6 3 7 = gA o 3 7 := by rw [G6, updA, if_neg (by omega)]
  rw [g67] at e7zz
  have T8 : Lne czz o8zz n kzz := hTzz.eq (by rw [k8zz, k6zz]; rfl) (by rw [k8zz, k6zz]; rfl)
  have hgap := hMzz.2.2.1
  obtain ⟨s1zz, s2zz⟩ := sum999 (zzz := if (gA o 3 7 + w2zz) < (999 : Int32) then (gA o 3 7 + w2zz) else (999 : Int32)) ⟨hgap.2.1, hgap.2.2⟩ ⟨hw2.1, by omega⟩ rfl e7zz
  unfold bk_X1_heldRace_87 at h1
  rw [← T8.1] at h2
  rcases hs with ⟨q1zz, q2zz, q3zz⟩ | ⟨q1zz, q2zz, q3zz⟩
  · have h1 := z_t h1 q2zz
    have h2 := z_t h2 (Int32.le_iff_toInt_le.mpr (by rw [T8.2.1]; have : (1 : Int32).toInt = 1 := (by decide); omega))
    unfold bk_X1_heldRace_145 at h1
    have h1 := z_f h1 nfzz
    obtain ⟨z12, e12zz, h1⟩ := z_bd h1
    have e70 : z7 = gA o 3 7 := by
      have wzz : gA o 3 7 + w2zz = gA o 3 7 := by
        rw [q3zz]; exact Int32.toInt_inj.mp (by rw [i32_add rfl (by decide : (0 : Int32).toInt = 0) (by omega) (by omega)]; omega)
      rw [wzz] at e7zz
      exact with_id (M := 999) (by decide) ⟨hgap.2.1, hgap.2.2⟩ e7zz
    have G8' : gA o8zz 3 = upd (gA o 3) (15 + xzz) z4 := by rw [G8]; exact upd_own (by rw [updA, if_neg (by omega)]; exact e70)
    have hM' : TzM z12 (gA o8zz 3) := by rw [G8']; exact hMzz.prize exf (by omega) ⟨hw1.1, by omega⟩ e12zz e4zz
    obtain ⟨r1zz, r2, r3, r4⟩ := race_end hn7 hkn T8 hM' hw3 ht h1 h2
    exact ⟨r1zz, r2, r3, RwC.tr (by rw [G8']; exact RwC.up (by omega)) r4⟩
  · obtain ⟨m1zz, m2zz, m3zz⟩ := hTzz.2.2 1 q1zz
    obtain ⟨uzz, eu⟩ : ∃ uzz : Nat, (gA czz 2 1).toInt = (uzz : Int) := ⟨(gA czz 2 1).toInt.toNat, by omega⟩
    have eus : s.toInt = (uzz : Int) := by rw [q2zz]; exact eu
    have h1 := z_f h1 (fun qzz => by rw [qzz] at eus; have wzz : (-1 : Int32).toInt = -1 := (by decide); omega)
    have h2 := z_f h2 (fun qzz => by have qzz := cv_le (a := (kzz : Int)) (b := 1) T8.2.1 (by decide) qzz; omega)
    obtain ⟨z13zz, e13zz, h1⟩ := z_bd h1
    have et := q3zz z13zz e13zz
    have h1 := (z_gd h1).2
    have iszz : s.toNatClampNeg = uzz := tnc_eq eus
    rw [iszz, et] at h1
    obtain ⟨m15, g15, h1⟩ := z_lt h1
    obtain ⟨m16, g16, h1⟩ := z_lt h1
    have l42 : gA o8zz 42 1 = gA czz 2 1 := by rw [k8zz, k6zz]; exact m1zz.symm
    have iu : ((8 : Int32) + gA czz 2 1).toNatClampNeg = 8 + uzz := tnc_eq (by rw [i32_add (by decide : (8 : Int32).toInt = 8) eu (by omega) (by omega)]; omega)
    rw [l42, iu] at h2
    have h2 := (z_gd h2).2
    obtain ⟨o18, k18, h2⟩ := z_lt h2
    have G18 : gA o18 3 = upd (upd (upd (gA o 3) (15 + xzz) z4) 7 z7) (8 + uzz) t2zz := by rw [k18, ← G8]; rfl
    have hM15 : TzM m15 (upd (gA o 3) (8 + uzz) t2zz) := by rw [g15]; exact hMzz.trade (by omega) ht2
    have e16zz : m16 = sI m15 3 z7 := by
      rw [g16]
      have wzz : gI m15 3 = gA o 3 7 := by rw [g15]; exact hgap.1
      rw [wzz, s1zz]
    have hM16 : TzM m16 (upd (upd (gA o 3) (8 + uzz) t2zz) 7 z7) := by rw [e16zz]; exact hM15.gap s2zz
    unfold bk_X1_heldRace_145 at h1
    have h1 := z_f h1 nfzz
    obtain ⟨z12, e12zz, h1⟩ := z_bd h1
    have e4' : f_X9_within ((upd (upd (gA o 3) (8 + uzz) t2zz) 7 z7 (15 + xzz)) + w1zz).toInt64 0 999 = some z4 := by
      rw [updA, if_neg (by omega), updA, if_neg (by omega)]; exact e4zz
    have hM12 := hM16.prize exf (by omega) ⟨hw1.1, by omega⟩ e12zz e4'
    have eG : upd (upd (upd (gA o 3) (8 + uzz) t2zz) 7 z7) (15 + xzz) z4 = gA o18 3 := by
      rw [G18, upd_cm (azz := 7) (bzz := 15 + xzz) (by omega), upd_cm (azz := 8 + uzz) (bzz := 15 + xzz) (by omega), upd_cm (azz := 8 + uzz) (bzz := 7) (by omega)]
    rw [eG] at hM12
    obtain ⟨r1zz, r2, r3, r4⟩ := race_end hn7 hkn (T8.eq (by rw [k18]; rfl) (by rw [k18]; rfl)) hM12 hw3 ht h1 h2
    refine ⟨r1zz, r2, r3, RwC.tr ?_ r4⟩
    rw [G18]
    exact RwC.tr (RwC.up (azz := 15 + xzz) (by omega)) (RwC.tr (RwC.up (azz := 7) (by omega)) (RwC.up (azz := 8 + uzz) (by omega)))
set_option maxHeartbeats 200000 in
theorem turn_rng {o : Ob} {pzz rzz : Int32} {wzz : Int32 × Ob} (hzz : f_X9_turnsOf o pzz rzz = some wzz) : 0 ≤ wzz.1.toInt ∧ wzz.1.toInt ≤ 9 := by
  unfold f_X9_turnsOf at hzz
  have hzz := (z_gd hzz).2
  obtain ⟨w1zz, e2zz, hzz⟩ := z_bd hzz
  obtain ⟨w3zz, e3zz, hzz⟩ := z_bd hzz
  have hzz := Option.some.inj hzz
  rw [← hzz]
  exact within_rng (M := 9) (by decide) (by decide) e3zz
set_option maxHeartbeats 200000 in
/-- both hold a race alike -/
theorem race_eq {czz isl mv mezz o : Ob} {pl : List CR} {rc : Int32} {n kzz R : Nat} {yzz : Int32 × Ob × Ob} {y' : Int32 × Ob} (hLW : ∀ zzz, f_X2_lawInForce isl = some zzz → LwP pl zzz (gA o 3) (gA o 3 3)) (hw : WtL isl mv (gA o 3)) (hMzz : TzM mv (gA o 3)) (h20 : gI o 20 = 0) (en : (gA o 3 0).toInt = (n : Int)) (eR : rc.toInt = (R : Int)) (hR : R < 4) (hTzz : Lne czz o n kzz) (hk : 1 ≤ kzz) (hkn : kzz ≤ n)
    (h1 : f_X1_heldRace czz isl mv mezz pl rc = some yzz) (h2 : f_X9_raceIt o rc = some y') : yzz.1 = y'.1 ∧ 0 ≤ y'.1.toInt ∧ TzM yzz.2.1 (gA y'.2 3) ∧ RwC n (gA o 3) (gA y'.2 3) := by
  have hn7 : n ≤ 7 := by have := hw.1.2.2; omega
  have n0zz : (0 : Int32).toNatClampNeg = 0 := by decide
  have n1zz : (1 : Int32).toNatClampNeg = 1 := by decide
  have n2zz : (2 : Int32).toNatClampNeg = 2 := by decide
  have z0 : 0 ≤ (0 : Int32).toInt ∧ (0 : Int32).toInt ≤ 9 := by decide
  unfold f_X1_heldRace at h1
  obtain ⟨lz, el, h1⟩ := z_bd h1
  obtain ⟨fzz, ef, h1⟩ := z_bd h1
  obtain ⟨s, es, h1⟩ := z_bd h1
  obtain ⟨t, et, h1⟩ := z_bd h1
  have hL := hLW lz el
  have aF := at_eq (izz := 0) hTzz.2.1 (by decide) (by decide) ef
  have aS := at_eq (izz := 1) hTzz.2.1 (by decide) (by decide) es
  have aT := at_eq (izz := 2) hTzz.2.1 (by decide) (by decide) et
  have hf : fzz = gA czz 2 0 := by
    rcases aF with ⟨-, qzz⟩ | ⟨qzz, -⟩
    · exact qzz
    · omega
  have ht : (kzz ≤ 2 ∧ t = -1) ∨ (2 < kzz ∧ t = gA czz 2 2) := by
    rcases aT with ⟨azz, bzz⟩ | ⟨azz, bzz⟩
    · exact Or.inr ⟨azz, bzz⟩
    · exact Or.inl ⟨azz, bzz⟩
  obtain ⟨l1, l2, l3⟩ := hTzz.2.2 0 (by omega)
  have nfzz : ¬ fzz = -1 := fun qzz => by rw [hf] at qzz; rw [qzz] at l2; exact absurd l2 (by decide)
  have h1 := z_f h1 nfzz
  obtain ⟨z5, e5zz, h1⟩ := z_bd h1
  -- whoever is asked
  have ask : ∀ (o' : Ob) (pzz : Int32), gA o' 3 = gA o 3 → gI o' 20 = 0 → 0 ≤ pzz.toInt → pzz.toInt < (n : Int) → Asked pl lz isl mv o' pzz rc := fun o' pzz g1 g2 g3zz g4 => ⟨by rw [g1]; exact hL, by rw [g1]; exact hw, g2, ⟨pzz.toInt.toNat, by omega, by rw [hw.1.1]; omega⟩, R, eR, hR⟩
  unfold f_X9_raceIt at h2
  rw [n0zz, n1zz] at h2
  obtain ⟨x1zz, ex1, h2⟩ := z_lt h2
  have fx : x1zz = fzz := by rw [ex1, hf]; exact l1.symm
  rw [fx] at h2
  obtain ⟨w2zz, e2zz, h2⟩ := z_bd h2
  have f2zz := fr_f_X9_winsOf e2zz
  obtain ⟨u1zz, u2zz⟩ := wins_eq (ask o fzz rfl h20 (by rw [hf]; exact l2) (by rw [hf]; exact l3)) (Or.inl rfl) e5zz e2zz
  have G2zz : gA w2zz.2 3 = gA o 3 := f2zz.A 3 rfl
  have K2 : gI w2zz.2 20 = 0 := (f2zz.I 20 rfl).trans h20
  have T2 : Lne czz w2zz.2 n kzz := hTzz.eq (f2zz.I 43 rfl) (f2zz.A 42 rfl)
  have k43 : ∀ o' : Ob, gI o' 43 = gI w2zz.2 43 → (gI o' 43).toInt = (kzz : Int) := fun o' qzz => by rw [qzz, ← T2.1]; exact hTzz.2.1
  rw [u1zz] at h1
  unfold bk_X1_heldRace_45 at h1
  by_cases c1zz : kzz ≤ 1
  · -- one runs alone
    have hs : s = -1 := by
      rcases aS with ⟨qzz, -⟩ | ⟨-, qzz⟩
      · omega
      · exact qzz
    have ht' : t = -1 := by
      rcases ht with ⟨-, qzz⟩ | ⟨qzz, -⟩
      · exact qzz
      · omega
    have le1 : ∀ o' : Ob, gI o' 43 = gI w2zz.2 43 → gI o' 43 ≤ (1 : Int32) := fun o' qzz => Int32.le_iff_toInt_le.mpr (by rw [k43 o' qzz]; have : (1 : Int32).toInt = 1 := (by decide); omega)
    have le2 : ∀ o' : Ob, gI o' 43 = gI w2zz.2 43 → gI o' 43 ≤ (2 : Int32) := fun o' qzz => Int32.le_iff_toInt_le.mpr (by rw [k43 o' qzz]; have : (2 : Int32).toInt = 2 := (by decide); omega)
    have h2 := z_t h2 (le1 _ rfl)
    unfold bk_X9_raceIt_39 at h2
    have h2 := z_t h2 (le1 _ rfl)
    unfold bk_X9_raceIt_64 at h2
    have h2 := z_t h2 (le2 _ rfl)
    have h1 := z_t h1 hs
    unfold bk_X1_heldRace_66 at h1
    have h1 := z_t h1 ht'
    obtain ⟨r1zz, r2, r3, r4⟩ := race_tail hn7 hkn hk T2 (by rw [G2zz]; exact hMzz) hf u2zz z0 z0 z0 (Or.inl ⟨by omega, hs, rfl⟩) ht h1 h2
    rw [G2zz] at r4
    exact ⟨r1zz.trans r2.symm, by rw [r2, hf]; exact l2, r3, r4⟩
  · obtain ⟨m1zz, m2zz, m3zz⟩ := hTzz.2.2 1 (by omega)
    have hs : s = gA czz 2 1 := by
      rcases aS with ⟨-, qzz⟩ | ⟨qzz, -⟩
      · exact qzz
      · omega
    have nle1 : ∀ o' : Ob, gI o' 43 = gI w2zz.2 43 → ¬ gI o' 43 ≤ (1 : Int32) := fun o' qzz zzz => by have zzz := cv_le (a := (kzz : Int)) (b := 1) (k43 o' qzz) (by decide) zzz; omega
    have h2 := z_f h2 (nle1 _ rfl)
    have l421 : gA w2zz.2 42 1 = s := by rw [f2zz.A 42 rfl, hs]; exact m1zz.symm
    rw [l421] at h2
    obtain ⟨w21, e21zz, h2⟩ := z_bd h2
    have f21 := fr_f_X9_winsOf e21zz
    have h1 := z_f h1 (fun qzz => by rw [hs] at qzz; rw [qzz] at m2zz; exact absurd m2zz (by decide))
    obtain ⟨z6, e6zz, h1⟩ := z_bd h1
    obtain ⟨v1zz, v2⟩ := wins_eq (ask w2zz.2 s G2zz K2 (by rw [hs]; exact m2zz) (by rw [hs]; exact m3zz)) (Or.inr (Or.inl rfl)) e6zz e21zz
    have G21 : gA w21.2 3 = gA o 3 := (f21.A 3 rfl).trans G2zz
    have K21 : gI w21.2 20 = 0 := (f21.I 20 rfl).trans K2
    have q21 : gI w21.2 43 = gI w2zz.2 43 := f21.I 43 rfl
    rw [v1zz] at h1
    unfold bk_X9_raceIt_39 at h2
    rw [n1zz] at h2
    have h2 := z_f h2 (nle1 _ q21)
    have l21 : gA w21.2 42 1 = s := by rw [f21.A 42 rfl]; exact l421
    rw [l21] at h2
    obtain ⟨w20, e20, h2⟩ := z_bd h2
    have f20zz := fr_f_X9_turnsOf e20
    have G20 : gA w20.2 3 = gA o 3 := (f20zz.A 3 rfl).trans G21
    have K20 : gI w20.2 20 = 0 := (f20zz.I 20 rfl).trans K21
    have q20 : gI w20.2 43 = gI w2zz.2 43 := (f20zz.I 43 rfl).trans q21
    have T20 : Lne czz w20.2 n kzz := T2.eq q20 ((f20zz.A 42 rfl).trans (f21.A 42 rfl))
    have hturn : ∀ (me' : Ob) (zzz : Int32 × Ob), f_X1_turnsTo_Q czz isl mv me' pl lz s rc = some zzz → zzz.1 = w20.1 ∧ 0 ≤ w20.1.toInt ∧ w20.1.toInt ≤ 9 := fun me' zzz ez => turns_eq (ask w21.2 s G21 K21 (by rw [hs]; exact m2zz) (by rw [hs]; exact m3zz)) ez e20
    unfold bk_X9_raceIt_64 at h2
    rw [n2zz] at h2
    unfold bk_X1_heldRace_66 at h1
    by_cases c2zz : kzz ≤ 2
    · have ht' : t = -1 := by
        rcases ht with ⟨-, qzz⟩ | ⟨qzz, -⟩
        · exact qzz
        · omega
      have h2 := z_t h2 (Int32.le_iff_toInt_le.mpr (by rw [k43 _ q20]; have : (2 : Int32).toInt = 2 := (by decide); omega))
      have h1 := z_t h1 ht'
      have rt : 0 ≤ w20.1.toInt ∧ w20.1.toInt ≤ 9 := turn_rng e20
      obtain ⟨r1zz, r2, r3, r4⟩ := race_tail hn7 hkn hk T20 (by rw [G20]; exact hMzz) hf u2zz v2 z0 rt (Or.inr ⟨by omega, hs, fun zzz ez => (hturn _ zzz ez).1⟩) ht h1 h2
      rw [G20] at r4
      exact ⟨r1zz.trans r2.symm, by rw [r2, hf]; exact l2, r3, r4⟩
    · obtain ⟨p1zz, p2zz, p3zz⟩ := hTzz.2.2 2 (by omega)
      have ht' : t = gA czz 2 2 := by
        rcases ht with ⟨qzz, -⟩ | ⟨-, qzz⟩
        · omega
        · exact qzz
      have h2 := z_f h2 (fun zzz => by have zzz := cv_le (a := (kzz : Int)) (b := 2) (k43 _ q20) (by decide) zzz; omega)
      have l20 : gA w20.2 42 2 = t := by rw [f20zz.A 42 rfl, f21.A 42 rfl, f2zz.A 42 rfl, ht']; exact p1zz.symm
      rw [l20] at h2
      obtain ⟨w19, e19zz, h2⟩ := z_bd h2
      have f19 := fr_f_X9_winsOf e19zz
      have h1 := z_f h1 (fun qzz => by rw [ht'] at qzz; rw [qzz] at p2zz; exact absurd p2zz (by decide))
      obtain ⟨z7, e7zz, h1⟩ := z_bd h1
      obtain ⟨x1zz, x2zz⟩ := wins_eq (ask w20.2 t G20 K20 (by rw [ht']; exact p2zz) (by rw [ht']; exact p3zz)) (Or.inr (Or.inr rfl)) e7zz e19zz
      rw [x1zz] at h1
      have G19 : gA w19.2 3 = gA o 3 := (f19.A 3 rfl).trans G20
      have rt : 0 ≤ w20.1.toInt ∧ w20.1.toInt ≤ 9 := turn_rng e20
      obtain ⟨r1zz, r2, r3, r4⟩ := race_tail hn7 hkn hk (T20.eq (f19.I 43 rfl) (f19.A 42 rfl)) (by rw [G19]; exact hMzz) hf u2zz v2 x2zz rt (Or.inr ⟨by omega, hs, fun zzz ez => (hturn _ zzz ez).1⟩) ht h1 h2
      rw [G19] at r4
      exact ⟨r1zz.trans r2.symm, by rw [r2, hf]; exact l2, r3, r4⟩
