-- a race held: the class's heldRace, the reference's raceIt
set_option maxHeartbeats 200000 in
theorem i32_of {xzz : Int32} {ezz : Nat} (hzz : xzz.toInt = (ezz : Int)) (he : ezz < 2147483648) : xzz = Int32.ofNat ezz := Int32.toInt_inj.mp (by rw [Int32.toInt_ofNat_of_lt (by omega)]; exact hzz)
set_option maxHeartbeats 200000 in
theorem en_clear : ∀ ezz, ezz < 128 → ∀ xzz, xzz < 7 → (∀ pzz, pzz < 7 → ((((Int32.ofNat ezz) &&& (((1 : Int32) <<< ((Int32.ofNat xzz) &&& 31)) ^^^ (-1 : Int32))) >>> ((Int32.ofNat pzz) &&& 31)) &&& (1 : Int32)) = if pzz = xzz then 0 else (((Int32.ofNat ezz) >>> ((Int32.ofNat pzz) &&& 31)) &&& (1 : Int32))) ∧ 0 ≤ ((Int32.ofNat ezz) &&& (((1 : Int32) <<< ((Int32.ofNat xzz) &&& 31)) ^^^ (-1 : Int32))).toInt ∧ ((Int32.ofNat ezz) &&& (((1 : Int32) <<< ((Int32.ofNat xzz) &&& 31)) ^^^ (-1 : Int32))).toInt < 128 := by decide +kernel
set_option maxHeartbeats 200000 in
theorem en_turn : ∀ ezz, ezz < 128 → ∀ xzz, xzz < 7 → (∀ pzz, pzz < 7 → ((((Int32.ofNat ezz) ^^^ ((1 : Int32) <<< ((Int32.ofNat xzz) &&& 31))) >>> ((Int32.ofNat pzz) &&& 31)) &&& (1 : Int32)) = if pzz = xzz then (1 : Int32) - (((Int32.ofNat ezz) >>> ((Int32.ofNat pzz) &&& 31)) &&& (1 : Int32)) else (((Int32.ofNat ezz) >>> ((Int32.ofNat pzz) &&& 31)) &&& (1 : Int32))) ∧ 0 ≤ ((Int32.ofNat ezz) ^^^ ((1 : Int32) <<< ((Int32.ofNat xzz) &&& 31))).toInt ∧ ((Int32.ofNat ezz) ^^^ ((1 : Int32) <<< ((Int32.ofNat xzz) &&& 31))).toInt < 128 := by decide +kernel
set_option maxHeartbeats 200000 in
/-- what moves: class and reference -/
def TzM (mv : Ob) (Gzz : Nat → Int32) : Prop := (∀ jzz, jzz < 7 → gA mv 0 jzz = Gzz (8 + jzz) ∧ 0 ≤ (Gzz (8 + jzz)).toInt ∧ (Gzz (8 + jzz)).toInt ≤ 9) ∧ (∀ jzz, jzz < 7 → gA mv 1 jzz = Gzz (15 + jzz) ∧ 0 ≤ (Gzz (15 + jzz)).toInt ∧ (Gzz (15 + jzz)).toInt ≤ 999) ∧ (gI mv 3 = Gzz 7 ∧ 0 ≤ (Gzz 7).toInt ∧ (Gzz 7).toInt ≤ 999) ∧ (gI mv 4 = Gzz 4 ∧ 0 ≤ (Gzz 4).toInt ∧ (Gzz 4).toInt ≤ 999) ∧ EnT mv Gzz ∧ 0 ≤ (gI mv 2).toInt ∧ (gI mv 2).toInt < 128
set_option maxHeartbeats 200000 in
theorem updA {Gzz : Nat → Int32} {azz jzz : Nat} {vzz : Int32} : upd Gzz azz vzz jzz = if jzz = azz then vzz else Gzz jzz := rfl
set_option maxHeartbeats 200000 in
theorem upd_cm {Gzz : Nat → Int32} {azz bzz : Nat} {vzz wzz : Int32} (hzz : azz ≠ bzz) : upd (upd Gzz azz vzz) bzz wzz = upd (upd Gzz bzz wzz) azz vzz := by
  funext jzz
  rw [updA, updA, updA, updA]
  by_cases czz : jzz = bzz
  · rw [if_pos czz, if_neg (by omega), if_pos czz]
  · rw [if_neg czz, if_neg czz]
/-- what a move may change of the row, with n people -/
def RwC (n : Nat) (Gzz G' : Nat → Int32) : Prop := ∀ jzz, (jzz < 4 ∨ jzz = 5 ∨ jzz = 6 ∨ 29 ≤ jzz ∨ (15 + n ≤ jzz ∧ jzz < 22) ∨ (22 + n ≤ jzz ∧ jzz < 29)) → G' jzz = Gzz jzz
set_option maxHeartbeats 200000 in
theorem RwC.rf {n : Nat} {Gzz : Nat → Int32} : RwC n Gzz Gzz := fun _ _ => rfl
set_option maxHeartbeats 200000 in
theorem RwC.tr {n : Nat} {Gzz G' G'' : Nat → Int32} (hzz : RwC n Gzz G') (kzz : RwC n G' G'') : RwC n Gzz G'' := fun jzz hj => (kzz jzz hj).trans (hzz jzz hj)
set_option maxHeartbeats 200000 in
theorem RwC.up {n azz : Nat} {Gzz : Nat → Int32} {vzz : Int32} (hzz : ¬ (azz < 4 ∨ azz = 5 ∨ azz = 6 ∨ 29 ≤ azz ∨ (15 + n ≤ azz ∧ azz < 22) ∨ (22 + n ≤ azz ∧ azz < 29))) : RwC n Gzz (upd Gzz azz vzz) := by
  intro jzz hj
  rw [updA, if_neg (fun qzz => by rw [qzz] at hj; exact hzz hj)]
/-- min of the class, within of the reference, of a sum -/
theorem sum999 {azz bzz zzz wzz : Int32} (hazz : 0 ≤ azz.toInt ∧ azz.toInt ≤ 999) (hbzz : 0 ≤ bzz.toInt ∧ bzz.toInt ≤ 999) (hz : zzz = if (azz + bzz) < (999 : Int32) then (azz + bzz) else (999 : Int32)) (hw : f_X9_within (azz + bzz).toInt64 0 999 = some wzz) : zzz = wzz ∧ 0 ≤ wzz.toInt ∧ wzz.toInt ≤ 999 := by
  have s : (azz + bzz).toInt = azz.toInt + bzz.toInt := i32_add rfl rfl (by omega) (by omega)
  have rg := within_rng (M := 999) (by decide) (by decide) hw
  refine ⟨?_, rg⟩
  have z9 : (999 : Int32).toInt = 999 := by decide
  rw [hz]
  by_cases czz : azz + bzz < (999 : Int32)
  · rw [if_pos czz]
    have czz := cv_lt (a := azz.toInt + bzz.toInt) (b := 999) s z9 czz
    exact (with_id (M := 999) (by decide) ⟨by omega, by omega⟩ hw).symm
  · rw [if_neg czz]
    have czz := cv_nlt (a := azz.toInt + bzz.toInt) (b := 999) s z9 czz
    unfold f_X9_within at hw
    have e1zz : ((azz + bzz).toInt64).toInt = azz.toInt + bzz.toInt := by rw [Int32.toInt_toInt64]; exact s
    have e0zz : ((0 : Int32).toInt64).toInt = 0 := by decide
    have e9zz : ((999 : Int32).toInt64).toInt = 999 := by decide
    rcases z_if hw with ⟨d, hw⟩ | ⟨d, hw⟩
    · rcases z_if hw with ⟨d2zz, hw⟩ | ⟨d2zz, hw⟩
      · have d2zz := cvl_le (a := azz.toInt + bzz.toInt) (b := 999) e1zz e9zz d2zz
        have hw := Option.some.inj hw
        rw [← hw, i64_32]
        exact Int32.toInt_inj.mp (by rw [z9, s]; omega)
      · exact Option.some.inj hw
    · have d := cvl_nge (a := azz.toInt + bzz.toInt) (b := 0) e1zz e0zz d
      omega
set_option maxHeartbeats 200000 in
theorem EnT.of {mv mv' : Ob} {Gzz G' : Nat → Int32} (hzz : EnT mv Gzz) (ezz : gI mv' 2 = gI mv 2) (eg : ∀ jzz, 22 ≤ jzz → jzz < 29 → G' jzz = Gzz jzz) : EnT mv' G' := by
  intro pzz h0 h1
  have bzz : pzz.toNatClampNeg < 7 := by have : pzz.toNatClampNeg = pzz.toInt.toNat := rfl; omega
  rw [ezz, eg _ (by omega) (by omega)]
  exact hzz pzz h0 h1
set_option maxHeartbeats 200000 in
theorem TzM.trade {mv : Ob} {Gzz : Nat → Int32} {izz : Nat} {t : Int32} (hzz : TzM mv Gzz) (hizz : izz < 7) (ht : 0 ≤ t.toInt ∧ t.toInt ≤ 9) : TzM (tA mv 0 izz t) (upd Gzz (8 + izz) t) := by
  refine ⟨fun jzz hj => ?_, fun jzz hj => ?_, ?_, ?_, hzz.2.2.2.2.1.of rfl (fun jzz h1 h2 => by rw [updA, if_neg (by omega)]), hzz.2.2.2.2.2⟩
  · have ezz : gA (tA mv 0 izz t) 0 jzz = if jzz = izz then t else gA mv 0 jzz := rfl
    rw [ezz, updA]
    by_cases czz : jzz = izz
    · rw [if_pos czz, if_pos (by omega)]; exact ⟨rfl, ht⟩
    · rw [if_neg czz, if_neg (by omega)]; exact hzz.1 jzz hj
  · rw [updA, if_neg (by omega)]; exact hzz.2.1 jzz hj
  · rw [updA, if_neg (by omega)]; exact hzz.2.2.1
  · rw [updA, if_neg (by omega)]; exact hzz.2.2.2.1
set_option maxHeartbeats 200000 in
theorem TzM.prize {mv mv' : Ob} {Gzz : Nat → Int32} {izz : Nat} {xzz wzz uzz : Int32} (hzz : TzM mv Gzz) (ei : xzz.toInt = (izz : Int)) (hizz : izz < 7) (hw : 0 ≤ wzz.toInt ∧ wzz.toInt ≤ 999) (h1 : f_X4_addPrizes mv xzz wzz = some mv') (h2 : f_X9_within (Gzz (15 + izz) + wzz).toInt64 0 999 = some uzz) : TzM mv' (upd Gzz (15 + izz) uzz) := by
  have ix : xzz.toNatClampNeg = izz := tnc_eq ei
  unfold f_X4_addPrizes at h1
  have h1 := (z_gd (z_gd h1).2).2
  rw [ix] at h1
  obtain ⟨o3zz, e3zz, h1⟩ := z_lt h1
  have h1 := Option.some.inj h1
  have hp := hzz.2.1 izz hizz
  rw [hp.1] at e3zz
  obtain ⟨s1zz, s2zz⟩ := sum999 ⟨hp.2.1, hp.2.2⟩ hw rfl h2
  rw [s1zz] at e3zz
  rw [← h1, e3zz]
  refine ⟨fun jzz hj => ?_, fun jzz hj => ?_, ?_, ?_, hzz.2.2.2.2.1.of rfl (fun jzz h1 h2 => by rw [updA, if_neg (by omega)]), hzz.2.2.2.2.2⟩
  · rw [updA, if_neg (by omega)]; exact hzz.1 jzz hj
  · have ezz : gA (tA mv 1 izz uzz) 1 jzz = if jzz = izz then uzz else gA mv 1 jzz := rfl
    rw [ezz, updA]
    by_cases czz : jzz = izz
    · rw [if_pos czz, if_pos (by omega)]; exact ⟨rfl, s2zz⟩
    · rw [if_neg czz, if_neg (by omega)]; exact hzz.2.1 jzz hj
  · rw [updA, if_neg (by omega)]; exact hzz.2.2.1
  · rw [updA, if_neg (by omega)]; exact hzz.2.2.2.1
set_option maxHeartbeats 200000 in
theorem TzM.gap {mv : Ob} {Gzz : Nat → Int32} {vzz : Int32} (hzz : TzM mv Gzz) (hv : 0 ≤ vzz.toInt ∧ vzz.toInt ≤ 999) : TzM (sI mv 3 vzz) (upd Gzz 7 vzz) := by
  refine ⟨fun jzz hj => ?_, fun jzz hj => ?_, ⟨rfl, hv⟩, ?_, hzz.2.2.2.2.1.of rfl (fun jzz h1 h2 => by rw [updA, if_neg (by omega)]), hzz.2.2.2.2.2⟩
  · rw [updA, if_neg (by omega)]; exact hzz.1 jzz hj
  · rw [updA, if_neg (by omega)]; exact hzz.2.1 jzz hj
  · rw [updA, if_neg (by omega)]; exact hzz.2.2.2.1
set_option maxHeartbeats 200000 in
theorem TzM.year {mv : Ob} {Gzz : Nat → Int32} {vzz : Int32} (hzz : TzM mv Gzz) (hv : 0 ≤ vzz.toInt ∧ vzz.toInt ≤ 999) : TzM (sI mv 4 vzz) (upd Gzz 4 vzz) := by
  refine ⟨fun jzz hj => ?_, fun jzz hj => ?_, ?_, ⟨rfl, hv⟩, hzz.2.2.2.2.1.of rfl (fun jzz h1 h2 => by rw [updA, if_neg (by omega)]), hzz.2.2.2.2.2⟩
  · rw [updA, if_neg (by omega)]; exact hzz.1 jzz hj
  · rw [updA, if_neg (by omega)]; exact hzz.2.1 jzz hj
  · rw [updA, if_neg (by omega)]; exact hzz.2.2.1
set_option maxHeartbeats 200000 in
theorem TzM.ent {mv : Ob} {Gzz : Nat → Int32} {izz : Nat} {vzz uzz : Int32} (hzz : TzM mv Gzz) (hv : 0 ≤ vzz.toInt ∧ vzz.toInt < 128) (hbzz : ∀ pzz : Int32, 0 ≤ pzz.toInt → pzz.toInt < 7 → (vzz >>> (pzz &&& 31)) &&& (1 : Int32) = if pzz.toNatClampNeg = izz then uzz else ((gI mv 2) >>> (pzz &&& 31)) &&& (1 : Int32)) (hizz : izz < 7) : TzM (sI mv 2 vzz) (upd Gzz (22 + izz) uzz) := by
  refine ⟨fun jzz hj => ?_, fun jzz hj => ?_, ?_, ?_, fun pzz h0 h1 => ?_, hv⟩
  · rw [updA, if_neg (by omega)]; exact hzz.1 jzz hj
  · rw [updA, if_neg (by omega)]; exact hzz.2.1 jzz hj
  · rw [updA, if_neg (by omega)]; exact hzz.2.2.1
  · rw [updA, if_neg (by omega)]; exact hzz.2.2.2.1
  · have ezz : gI (sI mv 2 vzz) 2 = vzz := rfl
    rw [ezz, hbzz pzz h0 h1, updA]
    by_cases czz : pzz.toNatClampNeg = izz
    · rw [if_pos czz, if_pos (by omega)]
    · rw [if_neg czz, if_neg (by omega)]; exact hzz.2.2.2.2.1 pzz h0 h1
set_option maxHeartbeats 200000 in
theorem bits_clear {Ezz xzz : Int32} {izz : Nat} (hE : 0 ≤ Ezz.toInt ∧ Ezz.toInt < 128) (ei : xzz.toInt = (izz : Int)) (hizz : izz < 7) : (∀ pzz : Int32, 0 ≤ pzz.toInt → pzz.toInt < 7 → ((Ezz &&& (((1 : Int32) <<< (xzz &&& 31)) ^^^ (-1 : Int32))) >>> (pzz &&& 31)) &&& (1 : Int32) = if pzz.toNatClampNeg = izz then 0 else (Ezz >>> (pzz &&& 31)) &&& (1 : Int32)) ∧ 0 ≤ (Ezz &&& (((1 : Int32) <<< (xzz &&& 31)) ^^^ (-1 : Int32))).toInt ∧ (Ezz &&& (((1 : Int32) <<< (xzz &&& 31)) ^^^ (-1 : Int32))).toInt < 128 := by
  obtain ⟨ezz, ee⟩ : ∃ ezz : Nat, Ezz.toInt = (ezz : Int) := ⟨Ezz.toInt.toNat, by omega⟩
  have qzz := en_clear ezz (by omega) izz hizz
  rw [i32_of ee (by omega), i32_of ei (by omega)]
  refine ⟨fun pzz h0 h1 => ?_, qzz.2⟩
  obtain ⟨bzz, eb⟩ : ∃ bzz : Nat, pzz.toInt = (bzz : Int) := ⟨pzz.toInt.toNat, by omega⟩
  have ib : pzz.toNatClampNeg = bzz := tnc_eq eb
  rw [ib, i32_of eb (by omega)]
  exact qzz.1 bzz (by omega)
set_option maxHeartbeats 200000 in
theorem bits_turn {Ezz xzz : Int32} {izz : Nat} (hE : 0 ≤ Ezz.toInt ∧ Ezz.toInt < 128) (ei : xzz.toInt = (izz : Int)) (hizz : izz < 7) : (∀ pzz : Int32, 0 ≤ pzz.toInt → pzz.toInt < 7 → ((Ezz ^^^ ((1 : Int32) <<< (xzz &&& 31))) >>> (pzz &&& 31)) &&& (1 : Int32) = if pzz.toNatClampNeg = izz then (1 : Int32) - ((Ezz >>> (xzz &&& 31)) &&& (1 : Int32)) else (Ezz >>> (pzz &&& 31)) &&& (1 : Int32)) ∧ 0 ≤ (Ezz ^^^ ((1 : Int32) <<< (xzz &&& 31))).toInt ∧ (Ezz ^^^ ((1 : Int32) <<< (xzz &&& 31))).toInt < 128 := by
  obtain ⟨ezz, ee⟩ : ∃ ezz : Nat, Ezz.toInt = (ezz : Int) := ⟨Ezz.toInt.toNat, by omega⟩
  have qzz := en_turn ezz (by omega) izz hizz
  rw [i32_of ee (by omega), i32_of ei (by omega)]
  refine ⟨fun pzz h0 h1 => ?_, qzz.2⟩
  obtain ⟨bzz, eb⟩ : ∃ bzz : Nat, pzz.toInt = (bzz : Int) := ⟨pzz.toInt.toNat, by omega⟩
  have ib : pzz.toNatClampNeg = bzz := tnc_eq eb
  have wzz := qzz.1 bzz (by omega)
  rw [ib, i32_of eb (by omega)]
  by_cases czz : bzz = izz
  · rw [if_pos czz] at wzz ⊢
    rw [wzz, czz]
  · rw [if_neg czz] at wzz ⊢
    exact wzz
