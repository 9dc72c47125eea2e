def smf (fzz : Nat → Int) : Nat → Int
  | 0 => 0
  | n + 1 => smf fzz n + fzz n
set_option maxHeartbeats 200000 in
theorem smf_z {fzz : Nat → Int} {n : Nat} (hn : n ≤ 7) (hz : ∀ jzz, n ≤ jzz → jzz < 7 → fzz jzz = 0) : smf fzz n = smf fzz 7 := by
  have step : ∀ kzz, n + kzz ≤ 7 → smf fzz (n + kzz) = smf fzz n := by
    intro kzz
    induction kzz with
    | zero => intro _; rfl
    | succ kzz ihzz =>
      intro hzz
      show smf fzz (n + kzz) + fzz (n + kzz) = smf fzz n
      rw [ihzz (by omega), hz (n + kzz) (by omega) (by omega)]; omega
  have wzz := step (7 - n) (by omega)
  have ezz : n + (7 - n) = 7 := by omega
  rw [ezz] at wzz
  exact wzz.symm
set_option maxHeartbeats 200000 in
theorem smf_rg {fzz : Nat → Int} {M : Int} : ∀ n, (∀ jzz, jzz < n → 0 ≤ fzz jzz ∧ fzz jzz ≤ M) → 0 ≤ smf fzz n ∧ smf fzz n ≤ M * (n : Int) := by
  intro n
  induction n with
  | zero => intro _; exact ⟨Int.le_refl _, by show (0 : Int) ≤ _; omega⟩
  | succ n ihzz =>
    intro hzz
    have wzz := ihzz (fun jzz hj => hzz jzz (by omega))
    have vzz := hzz n (by omega)
    have ezz : M * ((n + 1 : Nat) : Int) = M * (n : Int) + M := by rw [Int.natCast_succ, Int.mul_add, Int.mul_one]
    show 0 ≤ smf fzz n + fzz n ∧ smf fzz n + fzz n ≤ _
    rw [ezz]
    omega
set_option maxHeartbeats 200000 in
theorem sumOf_lp {o : Ob} {pzz qzz yzz : Int32} {azz n : Nat} (ea : pzz.toInt = (azz : Int)) (hazz : azz ≤ 22) (eq : qzz.toInt = (n : Int)) (hn : n ≤ 7) (hr : ∀ jzz, jzz < n → 0 ≤ (gA o 3 (azz + jzz)).toInt ∧ (gA o 3 (azz + jzz)).toInt ≤ 999) :
    ∀ (Nzz : Nat) (v3 v4zz : Int32) (izz : Nat), v4zz.toInt = (izz : Int) → izz ≤ n → v3.toInt = smf (fun jzz => (gA o 3 (azz + jzz)).toInt) izz → lp_X9_sumOf_5 o Nzz (pzz, qzz, v3, v4zz) = some yzz → yzz.toInt = smf (fun jzz => (gA o 3 (azz + jzz)).toInt) n := by
  intro Nzz
  induction Nzz with
  | zero => intro v3 v4zz izz _ _ _ hzz; cases hzz
  | succ Nzz ihzz =>
    intro v3 v4zz izz e4zz hizz e3zz hzz
    have hzz : lb_X9_sumOf_5 o (lp_X9_sumOf_5 o Nzz) pzz qzz v3 v4zz = some yzz := hzz
    unfold lb_X9_sumOf_5 at hzz
    rcases z_if hzz with ⟨czz, hzz⟩ | ⟨czz, hzz⟩
    · have czz := cv_le (a := (n : Int)) (b := (izz : Int)) eq e4zz czz
      have ei : izz = n := by omega
      rw [← Option.some.inj hzz, e3zz, ei]
    · have czz := cv_nle (a := (n : Int)) (b := (izz : Int)) eq e4zz czz
      have ix : (pzz + v4zz).toNatClampNeg = azz + izz := tnc_eq (by rw [i32_add ea e4zz (by omega) (by omega)]; omega)
      rw [ix] at hzz
      have hzz := (z_gd hzz).2
      obtain ⟨x2zz, g2, hzz⟩ := z_lt hzz
      obtain ⟨x3, g3zz, hzz⟩ := z_lt hzz
      have rg := smf_rg (fzz := fun jzz => (gA o 3 (azz + jzz)).toInt) (M := 999) izz (fun jzz hj => hr jzz (by omega))
      have ri := hr izz (by omega)
      refine ihzz x2zz x3 (izz + 1) (by rw [g3zz]; exact Eq.trans (i32_add e4zz (by decide : (1 : Int32).toInt = 1) (by omega) (by omega)) (by omega)) (by omega) ?_ hzz
      rw [g2]
      show (v3 + gA o 3 (azz + izz)).toInt = smf (fun jzz => (gA o 3 (azz + jzz)).toInt) izz + (gA o 3 (azz + izz)).toInt
      exact i32_add e3zz rfl (by omega) (by omega)
def pop7 (ezz : Nat) : Nat := ezz % 2 + (ezz / 2) % 2 + (ezz / 4) % 2 + (ezz / 8) % 2 + (ezz / 16) % 2 + (ezz / 32) % 2 + (ezz / 64) % 2
set_option maxHeartbeats 200000 in
theorem bc_all : ∀ ezz, ezz < 128 → f_J6_bitCount_0f7a4 (Int32.ofNat ezz) = some (Int32.ofNat (pop7 ezz)) := by decide +kernel
set_option maxHeartbeats 200000 in
theorem bit_all : ∀ ezz, ezz < 128 → ∀ jzz, jzz < 7 → (((Int32.ofNat ezz) >>> ((Int32.ofNat jzz) &&& 31)) &&& (1 : Int32)).toInt = (((ezz / 2 ^ jzz) % 2 : Nat) : Int) := by decide +kernel
set_option maxHeartbeats 200000 in
theorem ent_bit {mv : Ob} {Gzz : Nat → Int32} {ezz jzz : Nat} (hE : EnT mv Gzz) (ee : (gI mv 2).toInt = (ezz : Int)) (he : ezz < 128) (hj : jzz < 7) : (Gzz (22 + jzz)).toInt = (((ezz / 2 ^ jzz) % 2 : Nat) : Int) := by
  have ej : (Int32.ofNat jzz).toInt = (jzz : Int) := Int32.toInt_ofNat_of_lt (by omega)
  have wzz := hE (Int32.ofNat jzz) (by rw [ej]; omega) (by rw [ej]; omega)
  have ij : (Int32.ofNat jzz).toNatClampNeg = jzz := tnc_eq ej
  rw [ij] at wzz
  rw [wzz, i32_of ee (by omega)]
  exact bit_all ezz he jzz hj
set_option maxHeartbeats 200000 in
theorem ones_eq {mv o : Ob} {n : Nat} {zzz wzz : Int32} (hMzz : TzM mv (gA o 3)) (hn : n ≤ 7) (en : (gA o 3 0).toInt = (n : Int)) (hZ : ∀ jzz, ((15 + n ≤ jzz ∧ jzz < 22) ∨ (22 + n ≤ jzz ∧ jzz < 29)) → gA o 3 jzz = 0) (h1 : f_J6_bitCount_0f7a4 (gI mv 2) = some zzz) (h2 : f_X9_enteredOnes o = some wzz) : zzz = wzz := by
  have hbzz := hMzz.2.2.2.2.2
  obtain ⟨ezz, ee⟩ : ∃ ezz : Nat, (gI mv 2).toInt = (ezz : Int) := ⟨(gI mv 2).toInt.toNat, by omega⟩
  have n0zz : (0 : Int32).toNatClampNeg = 0 := by decide
  rw [i32_of ee (by omega), bc_all ezz (by omega)] at h1
  have h1 := Option.some.inj h1
  unfold f_X9_enteredOnes at h2
  rw [n0zz] at h2
  obtain ⟨z1, e1zz, h2⟩ := z_bd h2
  have h2 := Option.some.inj h2
  unfold f_X9_sumOf at e1zz
  have btzz : ∀ jzz, jzz < 7 → (gA o 3 (22 + jzz)).toInt = (((ezz / 2 ^ jzz) % 2 : Nat) : Int) := fun jzz hj => ent_bit hMzz.2.2.2.2.1 ee (by omega) hj
  have s := sumOf_lp (azz := 22) (by decide) (by decide) en hn (fun jzz hj => by rw [btzz jzz (by omega)]; omega) zfu 0 0 0 (by decide) (Nat.zero_le _) rfl e1zz
  rw [smf_z hn (fun jzz h1 h2 => by show (gA o 3 (22 + jzz)).toInt = 0; rw [hZ (22 + jzz) (by omega)]; decide)] at s
  have s7 : smf (fun jzz => (gA o 3 (22 + jzz)).toInt) 7 = ((pop7 ezz : Nat) : Int) := by
    show 0 + (gA o 3 (22 + 0)).toInt + (gA o 3 (22 + 1)).toInt + (gA o 3 (22 + 2)).toInt + (gA o 3 (22 + 3)).toInt + (gA o 3 (22 + 4)).toInt + (gA o 3 (22 + 5)).toInt + (gA o 3 (22 + 6)).toInt = _
    rw [btzz 0 (by omega), btzz 1 (by omega), btzz 2 (by omega), btzz 3 (by omega), btzz 4 (by omega), btzz 5 (by omega), btzz 6 (by omega)]
    unfold pop7
    simp only [Nat.reducePow, Nat.div_one]
    omega
  have lp : pop7 ezz ≤ 7 := by unfold pop7; omega
  rw [← h1, ← h2]
  exact Int32.toInt_inj.mp (by rw [s, s7]; exact Int32.toInt_ofNat_of_lt (by omega))
set_option maxHeartbeats 200000 in
theorem ow_lp {isl mv zzz : Ob} : ∀ (Nzz : Nat) (vzz : Int32) (o : Ob) (izz : Nat), vzz.toInt = (izz : Int) → izz ≤ 7 → lp_X3_setOrderWords_O_59 isl mv Nzz (vzz, o) = some zzz → (∀ kzz, kzz < 5 → gA zzz 0 kzz = gA o 0 kzz) ∧ (∀ pzz, pzz < izz → gA zzz 0 (5 + pzz) = gA o 0 (5 + pzz) ∧ gA zzz 0 (12 + pzz) = gA o 0 (12 + pzz)) ∧ ∀ pzz : Nat, izz ≤ pzz → pzz < 7 → (((pzz : Int) < (gI isl 7).toInt ∧ gA zzz 0 (5 + pzz) = gA mv 1 pzz ∧ gA zzz 0 (12 + pzz) = gA mv 0 pzz) ∨ ((gI isl 7).toInt ≤ (pzz : Int) ∧ gA zzz 0 (5 + pzz) = -1 ∧ gA zzz 0 (12 + pzz) = -1)) := by
  intro Nzz
  induction Nzz with
  | zero => intro vzz o izz _ _ hzz; cases hzz
  | succ Nzz ihzz =>
    intro vzz o izz evzz hizz hzz
    have hzz : lb_X3_setOrderWords_O_59 isl mv (lp_X3_setOrderWords_O_59 isl mv Nzz) vzz o = some zzz := hzz
    unfold lb_X3_setOrderWords_O_59 at hzz
    rcases z_if hzz with ⟨czz, hzz⟩ | ⟨czz, hzz⟩
    · have czz := cv_le (a := 7) (b := (izz : Int)) (by decide) evzz czz
      have hzz := Option.some.inj hzz
      subst hzz
      exact ⟨fun _ _ => rfl, fun _ _ => ⟨rfl, rfl⟩, fun pzz h1 h2 => absurd h1 (by omega)⟩
    · have czz := cv_nle (a := 7) (b := (izz : Int)) (by decide) evzz czz
      have i5zz : ((5 : Int32) + vzz).toNatClampNeg = 5 + izz := tnc_eq (by rw [i32_add (by decide : (5 : Int32).toInt = 5) evzz (by omega) (by omega)]; omega)
      have i12zz : ((12 : Int32) + vzz).toNatClampNeg = 12 + izz := tnc_eq (by rw [i32_add (by decide : (12 : Int32).toInt = 12) evzz (by omega) (by omega)]; omega)
      have ivzz : vzz.toNatClampNeg = izz := tnc_eq evzz
      have gozz : ∀ (s0zz s1zz : Int32), ((((izz : Nat) : Int) < (gI isl 7).toInt ∧ s0zz = gA mv 1 izz ∧ s1zz = gA mv 0 izz) ∨ ((gI isl 7).toInt ≤ (izz : Int) ∧ s0zz = -1 ∧ s1zz = -1)) → ∀ o9, o9 = tA o 0 (5 + izz) s0zz → bk_X3_setOrderWords_O_130 isl mv (lp_X3_setOrderWords_O_59 isl mv Nzz) vzz s1zz ((12 : Int32) + vzz) o9 = some zzz → (∀ kzz, kzz < 5 → gA zzz 0 kzz = gA o 0 kzz) ∧ (∀ pzz, pzz < izz → gA zzz 0 (5 + pzz) = gA o 0 (5 + pzz) ∧ gA zzz 0 (12 + pzz) = gA o 0 (12 + pzz)) ∧ ∀ pzz : Nat, izz ≤ pzz → pzz < 7 → (((pzz : Int) < (gI isl 7).toInt ∧ gA zzz 0 (5 + pzz) = gA mv 1 pzz ∧ gA zzz 0 (12 + pzz) = gA mv 0 pzz) ∨ ((gI isl 7).toInt ≤ (pzz : Int) ∧ gA zzz 0 (5 + pzz) = -1 ∧ gA zzz 0 (12 + pzz) = -1)) := by
        intro s0zz s1zz hs o9 g9 hbzz
        unfold bk_X3_setOrderWords_O_130 at hbzz
        rw [i12zz] at hbzz
        have hbzz := (z_gd hbzz).2
        obtain ⟨o12, g12, hbzz⟩ := z_lt hbzz
        obtain ⟨x13, g13, hbzz⟩ := z_lt hbzz
        have at12zz : ∀ jzz, gA o12 0 jzz = if jzz = 12 + izz then s1zz else if jzz = 5 + izz then s0zz else gA o 0 jzz := fun jzz => by rw [g12, g9]; rfl
        obtain ⟨r1zz, r2, r3⟩ := ihzz x13 o12 (izz + 1) (by rw [g13]; exact Eq.trans (i32_add evzz (by decide : (1 : Int32).toInt = 1) (by omega) (by omega)) (by omega)) (by omega) hbzz
        refine ⟨fun kzz hk => ?_, fun pzz hp => ⟨?_, ?_⟩, fun pzz h1 h2 => ?_⟩
        · rw [r1zz kzz hk, at12zz, if_neg (by omega), if_neg (by omega)]
        · rw [(r2 pzz (by omega)).1, at12zz, if_neg (by omega), if_neg (by omega)]
        · rw [(r2 pzz (by omega)).2, at12zz, if_neg (by omega), if_neg (by omega)]
        · by_cases qzz : pzz = izz
          · subst qzz
            have wzz := r2 pzz (by omega)
            rw [wzz.1, wzz.2, at12zz, at12zz, if_neg (by omega), if_pos rfl, if_pos rfl]
            exact hs
          · exact r3 pzz (by omega) h2
      obtain ⟨z7, e7zz, hzz⟩ := z_bd hzz
      have p7zz := isP2 e7zz
      rcases z_if hzz with ⟨c1zz, hzz⟩ | ⟨c1zz, hzz⟩
      · have q7zz : (gI isl 7).toInt ≤ (izz : Int) := by
          rcases p7zz with ⟨-, qzz⟩ | ⟨qzz, -⟩
          · omega
          · exact absurd c1zz qzz
        unfold bk_X3_setOrderWords_O_97 at hzz
        rw [i5zz] at hzz
        have hzz := (z_gd hzz).2
        obtain ⟨o9, g9, hzz⟩ := z_lt hzz
        obtain ⟨z10, e10zz, hzz⟩ := z_bd hzz
        rcases isP2 e10zz with ⟨uzz, -⟩ | ⟨-, uzz⟩
        · exact gozz (-1) (-1) (Or.inr ⟨q7zz, rfl, rfl⟩) o9 g9 (z_t hzz uzz)
        · omega
      · have q7zz : ((izz : Nat) : Int) < (gI isl 7).toInt := by
          rcases p7zz with ⟨qzz, -⟩ | ⟨-, qzz⟩
          · exact absurd qzz c1zz
          · omega
        have hzz := (z_gd hzz).2
        rw [ivzz] at hzz
        unfold bk_X3_setOrderWords_O_97 at hzz
        rw [i5zz, ivzz] at hzz
        have hzz := (z_gd hzz).2
        obtain ⟨o9, g9, hzz⟩ := z_lt hzz
        obtain ⟨z10, e10zz, hzz⟩ := z_bd hzz
        rcases isP2 e10zz with ⟨-, uzz⟩ | ⟨uzz, -⟩
        · omega
        · exact gozz _ _ (Or.inl ⟨q7zz, rfl, rfl⟩) o9 g9 (z_gd (z_f hzz uzz)).2
set_option maxHeartbeats 200000 in
theorem oWords {mezz isl mv zzz o o6 : Ob} {n : Nat} {d l : Int32} {w5 : Int32} (hI : WiL isl (gA o 3)) (hMzz : TzM mv (gA o 3)) (en : (gA o 3 0).toInt = (n : Int)) (hZ : ∀ jzz, ((15 + n ≤ jzz ∧ jzz < 22) ∨ (22 + n ≤ jzz ∧ jzz < 29)) → gA o 3 jzz = 0) (h1 : f_X3_setOrderWords_O mezz isl mv d l = some zzz) (h5 : f_X9_enteredOnes o = some w5) (e3zz : gA o6 3 = gA o 3) (m1zz : gM o6 36 1 = (gA o 3 4).toInt64) (m2zz : gM o6 36 2 = d.toInt64) (m3zz : gM o6 36 3 = l.toInt64) (m4zz : gM o6 36 4 = (gA o 3 7).toInt64) (m5zz : gM o6 36 5 = w5.toInt64) (h20 : ¬ gI o6 20 = 0) : EWo true zzz o6 := by
  have hn7 : n ≤ 7 := by have := hI.1.2.2; omega
  have n0zz : (0 : Int32).toNatClampNeg = 0 := by decide
  have n1zz : (1 : Int32).toNatClampNeg = 1 := by decide
  have n2zz : (2 : Int32).toNatClampNeg = 2 := by decide
  have n3zz : (3 : Int32).toNatClampNeg = 3 := by decide
  have n4zz : (4 : Int32).toNatClampNeg = 4 := by decide
  unfold f_X3_setOrderWords_O at h1
  rw [n0zz, n1zz, n2zz, n3zz, n4zz] at h1
  obtain ⟨o1, g1, h1⟩ := z_lt h1
  obtain ⟨o2, g2, h1⟩ := z_lt h1
  obtain ⟨o3zz, g3zz, h1⟩ := z_lt h1
  obtain ⟨o4zz, g4, h1⟩ := z_lt h1
  obtain ⟨z5, k5zz, h1⟩ := z_bd h1
  obtain ⟨o7, g7, h1⟩ := z_lt h1
  have e5zz := ones_eq hMzz hn7 en hZ k5zz h5
  obtain ⟨r1zz, -, r3⟩ := ow_lp zfu 0 o7 0 (by decide) (Nat.zero_le _) h1
  have a0zz : gA o7 0 0 = gI mv 4 := by rw [g7, g4, g3zz, g2, g1]; rfl
  have a1zz : gA o7 0 1 = d := by rw [g7, g4, g3zz, g2, g1]; rfl
  have a2 : gA o7 0 2 = l := by rw [g7, g4, g3zz, g2, g1]; rfl
  have a3 : gA o7 0 3 = gI mv 3 := by rw [g7, g4, g3zz, g2, g1]; rfl
  have a4 : gA o7 0 4 = z5 := by rw [g7, g4, g3zz, g2, g1]; rfl
  refine ⟨by rw [e3zz]; exact hI.1.2, (fun qzz => by cases qzz), fun _ => ⟨h20, fun kzz hk => ?_, fun pzz hp => ?_⟩⟩
  · rcases (by omega : kzz = 0 ∨ kzz = 1 ∨ kzz = 2 ∨ kzz = 3 ∨ kzz = 4) with uzz | uzz | uzz | uzz | uzz <;> subst uzz
    · rw [r1zz 0 (by omega), a0zz, hMzz.2.2.2.1.1]; exact m1zz.symm
    · rw [r1zz 1 (by omega), a1zz]; exact m2zz.symm
    · rw [r1zz 2 (by omega), a2]; exact m3zz.symm
    · rw [r1zz 3 (by omega), a3, hMzz.2.2.1.1]; exact m4zz.symm
    · rw [r1zz 4 (by omega), a4, e5zz]; exact m5zz.symm
  · rw [e3zz]
    have wzz := r3 pzz (Nat.zero_le _) hp
    rw [hI.1.1] at wzz
    rcases wzz with ⟨u1zz, u2zz, u3⟩ | wzz
    · exact Or.inl ⟨u1zz, u2zz.trans (hMzz.2.1 pzz hp).1, u3.trans (hMzz.1 pzz hp).1⟩
    · exact Or.inr wzz
set_option maxHeartbeats 200000 in
theorem osum {o : Ob} {p0zz : Int32} {zzz : Int32 × Ob} {Pzz : Nat} (ep : p0zz.toInt = (Pzz : Int)) (hP : Pzz ≤ 94) (h59 : gI o 59 = 0) (hzz : f_X9_orderSum o p0zz = some zzz) : (gA o 55 Pzz = gA o 55 (Pzz + 1) ∧ zzz = (-1, o)) ∨ (¬ gA o 55 Pzz = gA o 55 (Pzz + 1) ∧ ∃ wzz, f_X9_reckonAll (sI o 20 1) (gA o 55 Pzz) (gA o 55 (Pzz + 1)) = some wzz ∧ zzz.2 = sI (sI wzz 20 0) 59 (gI wzz 38) ∧ zzz.1 = (gL wzz 39).toInt32) := by
  have i0zz : p0zz.toNatClampNeg = Pzz := tnc_eq ep
  have i1zz : (p0zz + (1 : Int32)).toNatClampNeg = Pzz + 1 := tnc_eq (by rw [i32_add ep (by decide : (1 : Int32).toInt = 1) (by omega) (by omega)]; omega)
  unfold f_X9_orderSum at hzz
  rw [i0zz, i1zz] at hzz
  have hzz := (z_gd (z_gd (z_t hzz h59)).2).2
  rcases z_if hzz with ⟨czz, hzz⟩ | ⟨czz, hzz⟩
  · exact Or.inl ⟨czz, (Option.some.inj hzz).symm⟩
  · obtain ⟨o3zz, e3zz, hzz⟩ := z_lt hzz
    have hzz := (z_gd (z_gd hzz).2).2
    obtain ⟨wzz, ew, hzz⟩ := z_bd hzz
    obtain ⟨o7, e7zz, hzz⟩ := z_lt hzz
    have hzz := (z_gd hzz).2
    obtain ⟨o9, e9zz, hzz⟩ := z_lt hzz
    have hzz := Option.some.inj hzz
    subst e3zz e7zz e9zz
    refine Or.inr ⟨czz, wzz, ew, ?_, ?_⟩
    · rw [← hzz]; rfl
    · rw [← hzz]; rfl
set_option maxHeartbeats 200000 in
theorem EWo.tr1 {mezz me' o o' : Ob} (hzz : EWo true mezz o) (e0zz : gA me' 0 = gA mezz 0) (e3zz : gA o' 3 = gA o 3) (e36 : gM o' 36 = gM o 36) (h20 : ¬ gI o' 20 = 0) : EWo true me' o' := by
  refine ⟨by rw [e3zz]; exact hzz.1, (fun qzz => by cases qzz), fun _ => ⟨h20, ?_, ?_⟩⟩
  · rw [e0zz, e36]; exact (hzz.2.2 rfl).2.1
  · rw [e0zz, e3zz]; exact (hzz.2.2 rfl).2.2
def RunR (pl : List CR) (isl o : Ob) (n : Nat) (yzz : Int32 × Ob × Ob × Ob × Ob × Ob) (y' : Int32 × Ob) : Prop := RwC n (gA o 3) (gA y'.2 3) ∧ (∀ jzz, 400 ≤ jzz → gA y'.2 6 jzz = gA o 6 jzz) ∧ ((yzz.1 = 0 ∧ y'.1 = -3) ∨ (yzz.1 = 1 ∧ y'.1 = 0 ∧ TzS pl isl yzz.2.2.2.1 yzz.2.2.2.2.2 y'.2 n ∧ gI yzz.2.1 15 = gI y'.2 56 ∧ gI yzz.2.1 16 = gI y'.2 57 ∧ (gI y'.2 56 = gI o 56 ∨ gI y'.2 56 = gI o 56 + 1)))
set_option maxHeartbeats 200000 in
theorem RunR.of {pl : List CR} {isl o o' : Ob} {n : Nat} {yzz : Int32 × Ob × Ob × Ob × Ob × Ob} {y' : Int32 × Ob} (hzz : RunR pl isl o' n yzz y') (e3zz : gA o' 3 = gA o 3) (e6zz : gA o' 6 = gA o 6) (e56 : gI o' 56 = gI o 56) : RunR pl isl o n yzz y' := by
  refine ⟨by rw [← e3zz]; exact hzz.1, fun jzz hj => by rw [← e6zz]; exact hzz.2.1 jzz hj, by rw [← e56]; exact hzz.2.2⟩
set_option maxHeartbeats 200000 in
theorem run_act {pl : List CR} {isl mv pa czz o8zz oc mezz o : Ob} {nc ns mzz n K1 K2 : Nat} {p1zz xzz : Int32} {yzz : Int32 × Ob × Ob × Ob × Ob × Ob} {y' : Int32 × Ob} (hSzz : TzS pl isl mv pa o n) (hdzz : gI o8zz 15 = gI o 56) (hl : gI o8zz 16 = gI o 57) (h59 : gI o 59 = 0) (hE : EWo true mezz (sI o 20 1)) (hK8 : (gI oc 8).toInt = (K1 : Int)) (hK1 : K1 ≤ 400) (hK2 : K2 ≤ 400) (hmzz : mzz < 12) (hczz : ClE true oc (gA o 55) (gA o 24) (gA o 25) mzz K1 K2) (ep : p1zz.toInt = (mzz : Int)) (exzz : xzz.toInt = 8 * (mzz : Int))
    (h1 : (zgd (zin p1zz nc) <| zgd (zin p1zz nc) <| (f_X3_worth_O nc ns mezz oc (gA oc 2 p1zz.toNatClampNeg) (gA oc 3 p1zz.toNatClampNeg)).bind fun z7 => if (lg_cmp z7.1 (-9000000000000000000 : Int64)) = (0 : Int32) then (some ((0 : Int32), o8zz, z7.2, mv, czz, pa)) else (zgd (zin p1zz nc) <| zlt (gA oc 0 p1zz.toNatClampNeg) fun x9 => (f_X1_moved_O czz isl mv z7.2 pl pa x9 z7.1.toInt32).bind fun z10 => if (0 : Int32) ≤ z10.1 then (zlt (sI o8zz 15 ((gI o8zz 15) + (1 : Int32))) fun o11 => if x9 = (0 : Int32) then (zlt (sI o11 16 z10.1) fun o12 => some ((1 : Int32), o12, z10.2.2.2.1, z10.2.2.1, z10.2.1, z10.2.2.2.2)) else (some ((1 : Int32), o11, z10.2.2.2.1, z10.2.2.1, z10.2.1, z10.2.2.2.2))) else (some ((0 : Int32), o8zz, z10.2.2.2.1, z10.2.2.1, z10.2.1, z10.2.2.2.2)))) = some yzz)
    (h2 : bk_X9_run_106 xzz o = some y') : RunR pl isl o n yzz y' := by
  have im : p1zz.toNatClampNeg = mzz := tnc_eq ep
  have ix : xzz.toNatClampNeg = 8 * mzz := tnc_eq (by rw [exzz]; omega)
  have tx1 : (xzz + (1 : Int32)).toInt = ((8 * mzz + 1 : Nat) : Int) := by rw [i32_add exzz (by decide : (1 : Int32).toInt = 1) (by omega) (by omega)]; omega
  rw [im] at h1
  unfold bk_X9_run_106 at h2
  rw [ix] at h2
  obtain ⟨z10r, e10r, h2⟩ := z_bd h2
  have fo := fr_f_X9_orderSum e10r
  have os := osum tx1 (by omega) h59 e10r
  have h1 := (z_gd (z_gd h1).2).2
  obtain ⟨z7, e7zz, h1⟩ := z_bd h1
  obtain ⟨a1zz, b1, c1zz, a2, b2, c2zz, d2zz, k0zz, kr, ea1, eb1, ec1, ea2, eb2, ec2, ed2, ⟨l1, l2, l3, l4, l5⟩, hsum, -, -⟩ := hczz
  have sf : sfo true = 1 := rfl
  rw [sf] at ea2 eb2
  have eb2' : (gA o 55 (8 * mzz + 2)).toInt = (b2 : Int) := eb2
  have G0zz : gA z10r.2 3 = gA o 3 := fo.A 3 rfl
  have G6 : gA z10r.2 6 = gA o 6 := fo.A 6 rfl
  have hS0 : gI z10r.2 59 = 0 → TzS pl isl mv pa z10r.2 n := fun _ => hSzz.sc G0zz (fo.I 8 rfl) G6 (fo.A 7 rfl) (by
    rcases os with ⟨-, qzz⟩ | ⟨-, wzz, -, qzz, -⟩
    · rw [qzz]
    · rw [qzz]; exact hSzz.2.2.2.2.1.symm)
  have e55 : gA z10r.2 55 (8 * mzz) = gA oc 0 mzz := by rw [fo.A 55 rfl]; exact k0zz.symm
  rw [e55] at h2
  have mvd : ∀ (z10 : Int32 × Ob × Ob × Ob × Ob) (w12 : Int32 × Ob), gI z10r.2 59 = 0 → MvE pl isl mv z10r.2 n z10.1 w12.1 z10.2.2.1 z10.2.2.2.2 w12.2 → FrX d_X9_act_me z10r.2 w12.2 → (if (0 : Int32) ≤ z10.1 then (zlt (sI o8zz 15 ((gI o8zz 15) + (1 : Int32))) fun o11 => if gA oc 0 mzz = (0 : Int32) then (zlt (sI o11 16 z10.1) fun o12 => some ((1 : Int32), o12, z10.2.2.2.1, z10.2.2.1, z10.2.1, z10.2.2.2.2)) else (some ((1 : Int32), o11, z10.2.2.2.1, z10.2.2.1, z10.2.1, z10.2.2.2.2))) else (some ((0 : Int32), o8zz, z10.2.2.2.1, z10.2.2.1, z10.2.1, z10.2.2.2.2))) = some yzz → (if (0 : Int32) ≤ w12.1 then (zgd (zin xzz 96) <| if (gA w12.2 55 (8 * mzz)) = (0 : Int32) then (bk_X9_run_161 w12.1 w12.2) else (bk_X9_run_161 (gI w12.2 57) w12.2)) else (some ((-3 : Int32), w12.2))) = some y' → RunR pl isl o n yzz y' := by
    intro z10 w12 q59 ⟨u1zz, u2zz, u3, u4zz, u5⟩ fa h1 h2
    rw [u1zz] at h1
    rw [G0zz] at u3
    have k56 : gI w12.2 56 = gI o 56 := (fa.I 56 rfl).trans (fo.I 56 rfl)
    have k57 : gI w12.2 57 = gI o 57 := (fa.I 57 rfl).trans (fo.I 57 rfl)
    have w55 : gA w12.2 55 (8 * mzz) = gA oc 0 mzz := by rw [fa.A 55 rfl]; exact e55
    by_cases c0zz : (0 : Int32) ≤ w12.1
    · have h1 := z_t h1 c0zz
      have h2 := (z_gd (z_t h2 c0zz)).2
      rw [w55] at h2
      obtain ⟨o11, g11, h1⟩ := z_lt h1
      have finzz : ∀ (s : Int32) (o12 : Ob), bk_X9_run_161 s w12.2 = some y' → yzz = ((1 : Int32), o12, z10.2.2.2.1, z10.2.2.1, z10.2.1, z10.2.2.2.2) → gI o12 15 = gI o8zz 15 + 1 → gI o12 16 = s → RunR pl isl o n yzz y' := by
        intro s o12 hbzz ey q15zz q16zz
        unfold bk_X9_run_161 at hbzz
        obtain ⟨o14, g14, hbzz⟩ := z_lt hbzz
        obtain ⟨o15, g15, hbzz⟩ := z_lt hbzz
        have hbzz := Option.some.inj hbzz
        rw [← hbzz, ey]
        refine ⟨?_, fun jzz hj => ?_, Or.inr ⟨rfl, rfl, u2zz.sc ?_ ?_ ?_ ?_ ?_, ?_, ?_, Or.inr ?_⟩⟩
        · rw [g15, g14]; exact u3
        · rw [g15, g14]
          show gA w12.2 6 jzz = _
          rw [u5 jzz hj, G6]
        · rw [g15, g14]; rfl
        · rw [g15, g14]; rfl
        · rw [g15, g14]; rfl
        · rw [g15, g14]; rfl
        · rw [g15, g14]; rfl
        · rw [g15, g14]
          show gI o12 15 = gI w12.2 56 + 1
          rw [q15zz, k56, hdzz]
        · rw [g15, g14]
          show gI o12 16 = s
          exact q16zz
        · rw [g15, g14]
          show gI w12.2 56 + 1 = gI o 56 + 1
          rw [k56]
      by_cases c1zz : gA oc 0 mzz = 0
      · obtain ⟨o12, g12, h1⟩ := z_lt (z_t h1 c1zz)
        have h1 := Option.some.inj h1
        exact finzz w12.1 o12 (z_t h2 c1zz) h1.symm (by rw [g12, g11]; rfl) (by rw [g12]; rfl)
      · have h1 := Option.some.inj (z_f h1 c1zz)
        exact finzz (gI w12.2 57) o11 (z_f h2 c1zz) h1.symm (by rw [g11]; rfl) (by rw [g11, k57]; exact hl)
    · have h1 := Option.some.inj (z_f h1 c0zz)
      have h2 := Option.some.inj (z_f h2 c0zz)
      rw [← h1, ← h2]
      exact ⟨u3, fun jzz hj => by rw [← G6]; exact u5 jzz hj, Or.inl ⟨rfl, rfl⟩⟩
  rcases hsum with ⟨s1zz, s2zz, s3zz⟩ | ⟨s1zz, sn, hn, hb2, hx⟩
  ·
    have uzz := worth_nil e7zz (by omega)
    have h1 := z_f h1 (fun qzz => by have qzz := (lg_cmp_eq _ _).mp qzz; have q' : (1 : Int64) = -9000000000000000000 := (by rw [uzz] at qzz; exact qzz); exact absurd q' (by decide))
    have h1 := (z_gd h1).2
    obtain ⟨x9, g9, h1⟩ := z_lt h1
    obtain ⟨z10, e10zz, h1⟩ := z_bd h1
    have q0 : z10r = (-1, o) := by
      rcases os with ⟨-, qzz⟩ | ⟨qzz, -⟩
      · exact qzz
      · exact absurd (Int32.toInt_inj.mp (by rw [ea2, eb2']; omega)) qzz
    have q59 : gI z10r.2 59 = 0 := by rw [q0]; exact h59
    have h2 := (z_gd (z_t h2 q59)).2
    obtain ⟨w12, e12zz, h2⟩ := z_bd h2
    have fa := fr_f_X9_act e12zz
    rw [s1zz] at e12zz
    rw [g9, s1zz] at e10zz
    unfold f_X9_act at e12zz
    obtain ⟨w5, e5zz, e12zz⟩ := z_bd (z_f (z_f (z_f e12zz (by decide)) (by decide)) (by decide))
    have e12zz := Option.some.inj e12zz
    have mm := pass_move (hS0 q59) e10zz e5zz
    rw [g9] at h1
    exact mvd z10 w12 q59 (by rw [← e12zz]; exact mm) fa h1 h2
  · rcases os with ⟨qzz, -⟩ | ⟨-, wzz, ew, ez2, ez1⟩
    · have ezz := congrArg Int32.toInt qzz
      rw [ea2, eb2'] at ezz
      have := hx.lt
      omega
    · have hR : RD (gA o 24) (gA o 25) (sI o 20 1) := Or.inr ⟨by show ¬ (1 : Int32) = 0; decide, fun kzz => ⟨rfl, rfl⟩⟩
      have k59 : gI z10r.2 59 = gI wzz 38 := by rw [ez2]; rfl
      rcases ev_all hx hn (by omega) (by omega) (by omega) ea1 eb1 ea2 eb2' hE hR e7zz ew with ⟨v1zz, v2⟩ | ⟨v1zz, v2, -, -⟩
      · have h1 := Option.some.inj (z_t h1 ((lg_cmp_eq _ _).mpr v1zz))
        have h2 := Option.some.inj (z_f h2 (by rw [k59, v2]; decide))
        rw [← h1, ← h2]
        exact ⟨by rw [G0zz]; exact RwC.rf, fun jzz _ => by rw [G6], Or.inl ⟨rfl, rfl⟩⟩
      · have q59 : gI z10r.2 59 = 0 := by rw [k59]; exact v1zz
        have nb : ¬ z7.1 = -9000000000000000000 := by
          intro qzz
          rcases ev_all hx hn (by omega) (by omega) (by omega) ea1 eb1 ea2 eb2' hE hR e7zz ew with ⟨_, vzz⟩ | ⟨_, _, vzz, _⟩
          · rw [v1zz] at vzz; exact absurd vzz (by decide)
          · rw [qzz] at vzz; exact absurd vzz (by decide)
        have h1 := (z_gd (z_f h1 (fun qzz => nb ((lg_cmp_eq _ _).mp qzz)))).2
        obtain ⟨x9, g9, h1⟩ := z_lt h1
        obtain ⟨z10, e10zz, h1⟩ := z_bd h1
        have h2 := (z_gd (z_t h2 q59)).2
        obtain ⟨w12, e12zz, h2⟩ := z_bd h2
        have fa := fr_f_X9_act e12zz
        rw [g9] at e10zz h1
        rw [ez1, ← v2] at e12zz
        have hKzz : gA oc 0 mzz = 0 ∨ gA oc 0 mzz = 1 ∨ gA oc 0 mzz = 2 ∨ gA oc 0 mzz = 3 := by
          rcases i32_cases8 kr.1 (by omega) with qzz | qzz | qzz | qzz | qzz | qzz | qzz | qzz
          · exact Or.inl qzz
          · exact Or.inr (Or.inl qzz)
          · exact Or.inr (Or.inr (Or.inl qzz))
          · exact Or.inr (Or.inr (Or.inr qzz))
          all_goals (rw [qzz] at kr; exact absurd kr.2 (by decide))
        exact mvd z10 w12 q59 (act_move (hS0 q59) hKzz e10zz e12zz) fa h1 h2
set_option maxHeartbeats 200000 in
theorem run_eq {pl : List CR} {isl mv pa czz o8zz oc mezz o : Ob} {nc ns mzz n K1 K2 : Nat} {p1zz xzz : Int32} {yzz : Int32 × Ob × Ob × Ob × Ob × Ob} {y' : Int32 × Ob} (hSzz : TzS pl isl mv pa o n) (hdzz : gI o8zz 15 = gI o 56) (hl : gI o8zz 16 = gI o 57) (hK8 : (gI oc 8).toInt = (K1 : Int)) (hK1 : K1 ≤ 400) (hK2 : K2 ≤ 400) (hmzz : mzz < 12) (hczz : ClE true oc (gA o 55) (gA o 24) (gA o 25) mzz K1 K2) (ep : p1zz.toInt = (mzz : Int)) (exzz : xzz.toInt = 8 * (mzz : Int)) (h1 : f_X8_obey_O nc ns o8zz mezz isl mv czz pa pl oc p1zz = some yzz) (h2 : f_X9_run o xzz = some y') : RunR pl isl o n yzz y' := by
  obtain ⟨hI, hMzz, hP, hL, h20, en, hZ⟩ := id hSzz
  have n1zz : (1 : Int32).toNatClampNeg = 1 := by decide
  have n2zz : (2 : Int32).toNatClampNeg = 2 := by decide
  have n3zz : (3 : Int32).toNatClampNeg = 3 := by decide
  have n4zz : (4 : Int32).toNatClampNeg = 4 := by decide
  have n5zz : (5 : Int32).toNatClampNeg = 5 := by decide
  have n7 : (7 : Int32).toNatClampNeg = 7 := by decide
  have im : p1zz.toNatClampNeg = mzz := tnc_eq ep
  have t5zz : (xzz + (5 : Int32)).toInt = ((8 * mzz + 5 : Nat) : Int) := by rw [i32_add exzz (by decide : (5 : Int32).toInt = 5) (by omega) (by omega)]; omega
  have i5zz : (xzz + (5 : Int32)).toNatClampNeg = 8 * mzz + 5 := tnc_eq t5zz
  have i6zz : (xzz + (6 : Int32)).toNatClampNeg = 8 * mzz + 6 := tnc_eq (by rw [i32_add exzz (by decide : (6 : Int32).toInt = 6) (by omega) (by omega)]; omega)
  unfold f_X8_obey_O at h1
  obtain ⟨z1, e1zz, h1⟩ := z_bd h1
  have h1 := (z_gd (z_gd h1).2).2
  obtain ⟨z4, e4zz, h1⟩ := z_bd h1
  rw [im] at e4zz
  unfold f_X9_run at h2
  rw [n1zz, n2zz, n3zz, n4zz, n5zz, n7, i5zz, i6zz] at h2
  obtain ⟨o1, g1, h2⟩ := z_lt h2
  obtain ⟨o2, g2, h2⟩ := z_lt h2
  obtain ⟨o3zz, g3zz, h2⟩ := z_lt h2
  obtain ⟨o4zz, g4, h2⟩ := z_lt h2
  obtain ⟨w5, e5zz, h2⟩ := z_bd h2
  obtain ⟨o6, g6, h2⟩ := z_lt h2
  obtain ⟨o7, g7, h2⟩ := z_lt h2
  have h2 := (z_gd (z_gd h2).2).2
  have A : ∀ izz, gA o7 izz = gA o izz := fun izz => by rw [g7, g6, g4, g3zz, g2, g1]; rfl
  have I : ∀ izz, izz ≠ 59 → gI o7 izz = gI o izz := fun izz hizz => by rw [g7, g6, g4, g3zz, g2, g1]; exact fset_ne hizz
  have k59 : gI o7 59 = 0 := by rw [g7]; rfl
  have A4 : gA o4zz 3 = gA o 3 := by rw [g4, g3zz, g2, g1]; rfl
  have hE : EWo true z1 (sI o7 20 1) := by
    refine oWords (o := o4zz) (n := n) (w5 := w5) (by rw [A4]; exact hI) (by rw [A4]; exact hMzz) (by rw [A4]; exact en) (by rw [A4]; exact hZ) e1zz e5zz ?_ ?_ ?_ ?_ ?_ ?_ ?_
    · rw [A4]; exact A 3
    · rw [A4, g7, g6, g4, g3zz, g2, g1]; rfl
    · rw [hdzz, g7, g6, g4, g3zz, g2, g1]; rfl
    · rw [hl, g7, g6, g4, g3zz, g2, g1]; rfl
    · rw [A4, g7, g6, g4, g3zz, g2, g1]; rfl
    · rw [g7, g6]; rfl
    · show ¬ (1 : Int32) = 0; decide
  have hS7 : TzS pl isl mv pa o7 n := hSzz.sc (A 3) (I 8 (by decide)) (A 6) (A 7) (I 20 (by decide))
  have hd7 : gI o8zz 15 = gI o7 56 := hdzz.trans (I 56 (by decide)).symm
  have hl7 : gI o8zz 16 = gI o7 57 := hl.trans (I 57 (by decide)).symm
  have hc7 : ClE true oc (gA o7 55) (gA o7 24) (gA o7 25) mzz K1 K2 := by rw [A, A, A]; exact hczz
  rw [A 55] at h2
  refine RunR.of (o' := o7) ?_ (A 3) (A 6) (I 56 (by decide))
  obtain ⟨a1zz, b1, c1zz, a2, b2, c2zz, d2zz, k0zz, kr, ea1, eb1, ec1, ea2, eb2, ec2, ed2, ⟨l1, l2, l3, l4, l5⟩, hsum, htst, -⟩ := id hczz
  rcases z_if h2 with ⟨qzz, h2⟩ | ⟨qzz, h2⟩
  ·
    have qzz := cv_le (a := (d2zz : Int)) (b := (c2zz : Int)) ed2 ec2 qzz
    rcases htst with ⟨t1zz, t2zz⟩ | ⟨tnzz, hn, hx⟩
    · have uzz := worth_nil e4zz (by omega)
      have h1 := z_t h1 ((lg_cmp_eq _ _).mpr (by rw [uzz]))
      have hE4 : EWo true z4.2 (sI o7 20 1) := by rw [uzz]; exact hE
      exact run_act hS7 hd7 hl7 k59 hE4 hK8 hK1 hK2 hmzz hc7 ep exzz h1 h2
    · have := hx.lt; omega
  · have qzz := cv_nle (a := (d2zz : Int)) (b := (c2zz : Int)) ed2 ec2 qzz
    rcases htst with ⟨t1zz, t2zz⟩ | ⟨tnzz, hn, hx⟩
    · omega
    · obtain ⟨z16, e16zz, h2⟩ := z_bd h2
      have fo := fr_f_X9_orderSum e16zz
      have G16 : gA z16.2 3 = gA o7 3 := fo.A 3 rfl
      have G166 : gA z16.2 6 = gA o7 6 := fo.A 6 rfl
      rcases osum t5zz (by omega) k59 e16zz with ⟨qq, -⟩ | ⟨-, wzz, ew, ez2, ez1⟩
      · rw [A 55] at qq
        have ezz := congrArg Int32.toInt qq
        have ed2' : (gA o 55 (8 * mzz + 5 + 1)).toInt = (d2zz : Int) := ed2
        rw [ec2, ed2'] at ezz
        omega
      · have hR : RD (gA o 24) (gA o 25) (sI o7 20 1) := Or.inr ⟨by show ¬ (1 : Int32) = 0; decide, fun kzz => ⟨congrFun (A 24).symm kzz, congrFun (A 25).symm kzz⟩⟩
        have f1zz : (gA o7 55 (8 * mzz + 5)).toInt = (c2zz : Int) := by rw [A]; exact ec2
        have f2zz : (gA o7 55 (8 * mzz + 5 + 1)).toInt = (d2zz : Int) := by rw [A]; exact ed2
        have q59 : gI z16.2 59 = gI wzz 38 := by rw [ez2]; rfl
        rcases ev_all hx hn (by omega) (by omega) (by omega) eb1 ec1 f1zz f2zz hE hR e4zz ew with ⟨v1zz, v2⟩ | ⟨v1zz, v2, v3, v4zz⟩
        · have h1 := Option.some.inj (z_f h1 (fun zzz => by have zzz := (lg_cmp_eq _ _).mp zzz; rw [v1zz] at zzz; exact absurd zzz (by decide)))
          have h2 := Option.some.inj (z_f h2 (by rw [q59, v2]; decide))
          rw [← h1, ← h2]
          exact ⟨by rw [G16]; exact RwC.rf, fun jzz _ => by rw [G166], Or.inr ⟨rfl, rfl, hS7.sc G16 (fo.I 8 rfl) G166 (fo.A 7 rfl) (by rw [ez2]; exact hS7.2.2.2.2.1.symm), hd7.trans (fo.I 56 rfl).symm, hl7.trans (fo.I 57 rfl).symm, Or.inl (fo.I 56 rfl)⟩⟩
        · have q59' : gI z16.2 59 = 0 := by rw [q59]; exact v1zz
          have h2 := z_t h2 q59'
          rw [ez1, ← v2] at h2
          rcases v4zz rfl with uzz | uzz
          · have h1 := Option.some.inj (z_f h1 (fun zzz => by have zzz := (lg_cmp_eq _ _).mp zzz; rw [uzz] at zzz; exact absurd zzz (by decide)))
            have h2 := Option.some.inj (z_t h2 (by rw [uzz]; decide))
            rw [← h1, ← h2]
            exact ⟨by rw [G16]; exact RwC.rf, fun jzz _ => by rw [G166], Or.inr ⟨rfl, rfl, hS7.sc G16 (fo.I 8 rfl) G166 (fo.A 7 rfl) (by rw [ez2]; exact hS7.2.2.2.2.1.symm), hd7.trans (fo.I 56 rfl).symm, hl7.trans (fo.I 57 rfl).symm, Or.inl (fo.I 56 rfl)⟩⟩
          · have h1 := z_t h1 ((lg_cmp_eq _ _).mpr uzz)
            have h2 := z_f h2 (by rw [uzz]; decide)
            have hS16 : TzS pl isl mv pa z16.2 n := hS7.sc G16 (fo.I 8 rfl) G166 (fo.A 7 rfl) (by rw [ez2]; exact hS7.2.2.2.2.1.symm)
            have hE16 : EWo true z4.2 (sI z16.2 20 1) := hE.tr1 ((fr_f_X3_worth_O e4zz).A 0 rfl) G16 (fo.M 36 rfl) (by show ¬ (1 : Int32) = 0; decide)
            have hc16 : ClE true oc (gA z16.2 55) (gA z16.2 24) (gA z16.2 25) mzz K1 K2 := by rw [fo.A 55 rfl, fo.A 24 rfl, fo.A 25 rfl]; exact hc7
            exact RunR.of (run_act hS16 (hd7.trans (fo.I 56 rfl).symm) (hl7.trans (fo.I 57 rfl).symm) q59' hE16 hK8 hK1 hK2 hmzz hc16 ep exzz h1 h2) G16 G166 (fo.I 56 rfl)
set_option maxHeartbeats 200000 in
theorem setM {mv azz mv' : Ob} (hzz : f_X4_set_O mv azz = some mv') : (∀ jzz, jzz < 7 → gA mv' 0 jzz = gA azz 0 jzz) ∧ (∀ jzz, jzz < 7 → gA mv' 1 jzz = gA azz 1 jzz) ∧ gI mv' 2 = gI azz 2 ∧ gI mv' 3 = gI azz 3 ∧ gI mv' 4 = gI azz 4 := by
  have n0zz : (0 : Int32).toNatClampNeg = 0 := by decide
  have n7 : (7 : Int32).toNatClampNeg = 7 := by decide
  unfold f_X4_set_O at hzz
  have hzz := (z_gd hzz).2
  obtain ⟨o2, e2zz, hzz⟩ := z_lt hzz
  have hzz := (z_gd hzz).2
  obtain ⟨o4zz, e4zz, hzz⟩ := z_lt hzz
  obtain ⟨o5zz, e5zz, hzz⟩ := z_lt hzz
  obtain ⟨o6, e6zz, hzz⟩ := z_lt hzz
  obtain ⟨o7, e7zz, hzz⟩ := z_lt hzz
  have hzz := Option.some.inj hzz
  unfold cA at e2zz e4zz
  rw [n0zz, n7] at e2zz e4zz
  subst e2zz e4zz e5zz e6zz e7zz hzz
  refine ⟨fun jzz hj => ?_, fun jzz hj => ?_, rfl, rfl, rfl⟩
  · show (if 0 ≤ jzz ∧ jzz < 0 + 7 then gA azz 0 (0 + (jzz - 0)) else gA mv 0 jzz) = _
    rw [if_pos (by omega), Nat.zero_add, Nat.sub_zero]
  · show (if 0 ≤ jzz ∧ jzz < 0 + 7 then gA azz 1 (0 + (jzz - 0)) else _) = _
    rw [if_pos (by omega), Nat.zero_add, Nat.sub_zero]
set_option maxHeartbeats 200000 in
theorem setP {pa azz pa' : Ob} (hzz : f_X5_set_O pa azz = some pa') : gI pa' 2 = gI azz 2 ∧ gI pa' 3 = gI azz 3 ∧ (∀ jzz, jzz < 16 → gA pa' 0 jzz = gA azz 0 jzz) ∧ (∀ jzz, jzz < 272 → gA pa' 1 jzz = gA azz 1 jzz) := by
  have n0zz : (0 : Int32).toNatClampNeg = 0 := by decide
  have n16 : (16 : Int32).toNatClampNeg = 16 := by decide
  have n272 : (272 : Int32).toNatClampNeg = 272 := by decide
  unfold f_X5_set_O at hzz
  obtain ⟨o1, e1zz, hzz⟩ := z_lt hzz
  obtain ⟨o2, e2zz, hzz⟩ := z_lt hzz
  have hzz := (z_gd hzz).2
  obtain ⟨o4zz, e4zz, hzz⟩ := z_lt hzz
  have hzz := (z_gd hzz).2
  obtain ⟨o6, e6zz, hzz⟩ := z_lt hzz
  have hzz := Option.some.inj hzz
  unfold cA at e4zz e6zz
  rw [n0zz, n16] at e4zz
  rw [n0zz, n272] at e6zz
  subst e1zz e2zz e4zz e6zz hzz
  refine ⟨rfl, rfl, fun jzz hj => ?_, fun jzz hj => ?_⟩
  · show (if 0 ≤ jzz ∧ jzz < 0 + 16 then gA azz 0 (0 + (jzz - 0)) else _) = _
    rw [if_pos (by omega), Nat.zero_add, Nat.sub_zero]
  · show (if 0 ≤ jzz ∧ jzz < 0 + 272 then gA azz 1 (0 + (jzz - 0)) else _) = _
    rw [if_pos (by omega), Nat.zero_add, Nat.sub_zero]
set_option maxHeartbeats 200000 in
theorem gb35 {o' : Ob} {qzz : Int32} : ∀ (Nzz : Nat) (vzz : Int32) (o : Ob) (izz : Nat), vzz.toInt = (izz : Int) → izz ≤ 16 → lp_X9_giveBack_35 Nzz (qzz, vzz, o) = some o' → (∀ jzz, gA o' 7 jzz = if izz ≤ jzz ∧ jzz < 16 then gA o 10 jzz else gA o 7 jzz) ∧ gI o' 8 = qzz ∧ gA o' 3 = gA o 3 ∧ gA o' 6 = gA o 6 ∧ gI o' 20 = gI o 20 := by
  intro Nzz
  induction Nzz with
  | zero => intro vzz o izz _ _ hzz; cases hzz
  | succ Nzz ihzz =>
    intro vzz o izz evzz hizz hzz
    have hzz : lb_X9_giveBack_35 (lp_X9_giveBack_35 Nzz) qzz vzz o = some o' := hzz
    unfold lb_X9_giveBack_35 at hzz
    rcases z_if hzz with ⟨czz, hzz⟩ | ⟨czz, hzz⟩
    · have czz := cv_le (a := 16) (b := (izz : Int)) (by decide) evzz czz
      obtain ⟨o2, e2zz, hzz⟩ := z_lt hzz
      rw [← Option.some.inj hzz, e2zz]
      exact ⟨fun jzz => by rw [if_neg (by omega)]; rfl, rfl, rfl, rfl, rfl⟩
    · have czz := cv_nle (a := 16) (b := (izz : Int)) (by decide) evzz czz
      have ivzz : vzz.toNatClampNeg = izz := tnc_eq evzz
      rw [ivzz] at hzz
      have hzz := (z_gd (z_gd hzz).2).2
      obtain ⟨o5zz, e5zz, hzz⟩ := z_lt hzz
      obtain ⟨x6, e6zz, hzz⟩ := z_lt hzz
      obtain ⟨r1zz, r2, r3, r4, r5zz⟩ := ihzz x6 o5zz (izz + 1) (by rw [e6zz]; exact Eq.trans (i32_add evzz (by decide : (1 : Int32).toInt = 1) (by omega) (by omega)) (by omega)) (by omega) hzz
      have a7 : ∀ jzz, gA o5zz 7 jzz = if jzz = izz then gA o 10 izz else gA o 7 jzz := fun jzz => by rw [e5zz]; rfl
      have a10 : gA o5zz 10 = gA o 10 := by rw [e5zz]; rfl
      refine ⟨fun jzz => ?_, r2, r3.trans (by rw [e5zz]; rfl), r4.trans (by rw [e5zz]; rfl), r5zz.trans (by rw [e5zz]; rfl)⟩
      rw [r1zz, a10, a7]
      by_cases d : jzz = izz
      · rw [if_neg (by omega), if_pos d, if_pos (by omega), d]
      · by_cases d2zz : izz ≤ jzz ∧ jzz < 16
        · rw [if_pos (by omega), if_pos d2zz]
        · rw [if_neg (by omega), if_neg d, if_neg d2zz]
set_option maxHeartbeats 200000 in
theorem gb8 {o' : Ob} {qzz : Int32} : ∀ (Nzz : Nat) (vzz : Int32) (o : Ob) (izz : Nat), vzz.toInt = (izz : Int) → izz ≤ 400 → lp_X9_giveBack_8 Nzz (qzz, vzz, o) = some o' → ∃ o1, lp_X9_giveBack_35 zfu (qzz, 0, o1) = some o' ∧ (∀ jzz, gA o1 6 jzz = if izz ≤ jzz ∧ jzz < 400 then gA o 9 jzz else gA o 6 jzz) ∧ gA o1 7 = gA o 7 ∧ gA o1 10 = gA o 10 ∧ gA o1 3 = gA o 3 ∧ gI o1 20 = gI o 20 := by
  intro Nzz
  induction Nzz with
  | zero => intro vzz o izz _ _ hzz; cases hzz
  | succ Nzz ihzz =>
    intro vzz o izz evzz hizz hzz
    have hzz : lb_X9_giveBack_8 (lp_X9_giveBack_8 Nzz) qzz vzz o = some o' := hzz
    unfold lb_X9_giveBack_8 at hzz
    rcases z_if hzz with ⟨czz, hzz⟩ | ⟨czz, hzz⟩
    · have czz := cv_le (a := 400) (b := (izz : Int)) (by decide) evzz czz
      exact ⟨o, hzz, fun jzz => by rw [if_neg (by omega)], rfl, rfl, rfl, rfl⟩
    · have czz := cv_nle (a := 400) (b := (izz : Int)) (by decide) evzz czz
      have ivzz : vzz.toNatClampNeg = izz := tnc_eq evzz
      rw [ivzz] at hzz
      have hzz := (z_gd (z_gd hzz).2).2
      obtain ⟨o5zz, e5zz, hzz⟩ := z_lt hzz
      obtain ⟨x6, e6zz, hzz⟩ := z_lt hzz
      obtain ⟨o1, r0, r1zz, r2, r3, r4, r5zz⟩ := ihzz x6 o5zz (izz + 1) (by rw [e6zz]; exact Eq.trans (i32_add evzz (by decide : (1 : Int32).toInt = 1) (by omega) (by omega)) (by omega)) (by omega) hzz
      have a6 : ∀ jzz, gA o5zz 6 jzz = if jzz = izz then gA o 9 izz else gA o 6 jzz := fun jzz => by rw [e5zz]; rfl
      have a9 : gA o5zz 9 = gA o 9 := by rw [e5zz]; rfl
      refine ⟨o1, r0, fun jzz => ?_, r2.trans (by rw [e5zz]; rfl), r3.trans (by rw [e5zz]; rfl), r4.trans (by rw [e5zz]; rfl), r5zz.trans (by rw [e5zz]; rfl)⟩
      rw [r1zz, a9, a6]
      by_cases d : jzz = izz
      · rw [if_neg (by omega), if_pos d, if_pos (by omega), d]
      · by_cases d2zz : izz ≤ jzz ∧ jzz < 400
        · rw [if_pos (by omega), if_pos d2zz]
        · rw [if_neg (by omega), if_neg d, if_neg d2zz]
def BfR (o0zz o : Ob) : Prop := (∀ jzz, jzz < 400 → gA o 9 jzz = gA o0zz 6 jzz) ∧ (∀ jzz, jzz < 16 → gA o 10 jzz = gA o0zz 7 jzz) ∧ (∀ t, t < 25 → gA o 6 (425 + t) = gA o0zz 3 (4 + t))
def BfC (mv0 pa0 mvAzz paA : Ob) : Prop := ((∀ jzz, jzz < 7 → gA mvAzz 0 jzz = gA mv0 0 jzz) ∧ (∀ jzz, jzz < 7 → gA mvAzz 1 jzz = gA mv0 1 jzz) ∧ gI mvAzz 2 = gI mv0 2 ∧ gI mvAzz 3 = gI mv0 3 ∧ gI mvAzz 4 = gI mv0 4) ∧ gI paA 2 = gI pa0 2 ∧ gI paA 3 = gI pa0 3 ∧ (∀ jzz, jzz < 16 → gA paA 0 jzz = gA pa0 0 jzz) ∧ (∀ jzz, jzz < 272 → gA paA 1 jzz = gA pa0 1 jzz)
set_option maxHeartbeats 200000 in
theorem give_eq {pl : List CR} {isl mv0 pa0 mvAzz paA o0zz o o' mv mv' pa pa' : Ob} {n : Nat} (hSzz : TzS pl isl mv0 pa0 o0zz n) (hR : BfR o0zz o) (hC : BfC mv0 pa0 mvAzz paA) (hw : RwC n (gA o0zz 3) (gA o 3)) (h20 : gI o 20 = 0) (h1 : f_X4_set_O mv mvAzz = some mv') (h2 : f_X5_set_O pa paA = some pa') (h3 : f_X9_giveBack o (gI o0zz 8) = some o') : TzS pl isl mv' pa' o' n ∧ gA o' 3 = gA o0zz 3 := by
  obtain ⟨s1zz, s2zz, s3zz, s4zz, s5⟩ := setM h1
  obtain ⟨p1zz, p2zz, p3zz, p4zz⟩ := setP h2
  unfold f_X9_giveBack at h3
  obtain ⟨z1, e1zz, h3⟩ := z_bd h3
  have f1zz := fr_f_X9_putBack e1zz
  unfold f_X9_putBack at e1zz
  have d1zz := putBack_lp (mzz := 17) (by decide) (by decide) zfu 0 o 0 (by decide) (Nat.zero_le _) e1zz
  obtain ⟨o1, h3, a1zz, a2, a3, a4, a5⟩ := gb8 zfu 0 z1 0 (by decide) (Nat.zero_le _) h3
  obtain ⟨b1, b2, b3, b4, b5⟩ := gb35 zfu 0 o1 0 (by decide) (Nat.zero_le _) h3
  have eG : gA o' 3 = gA o0zz 3 := by
    rw [b3, a4]
    funext jzz
    rw [d1zz]
    by_cases czz : 4 + 0 ≤ jzz ∧ jzz < 29
    · have ej : 25 * 17 + (jzz - 4) = 425 + (jzz - 4) := by omega
      have e4zz : 4 + (jzz - 4) = jzz := by omega
      rw [if_pos czz, ej, hR.2.2 (jzz - 4) (by omega), e4zz]
    · rw [if_neg czz]
      exact hw jzz (by omega)
  have e7zz : ∀ jzz, jzz < 16 → gA o' 7 jzz = gA o0zz 7 jzz := fun jzz hj => by rw [b1, if_pos (by omega), a3, f1zz.A 10 rfl]; exact hR.2.1 jzz hj
  have e6zz : ∀ jzz, jzz < 400 → gA o' 6 jzz = gA o0zz 6 jzz := fun jzz hj => by rw [b4, a1zz, if_pos (by omega), f1zz.A 9 rfl]; exact hR.1 jzz hj
  refine ⟨?_, eG⟩
  refine hSzz.mv (by rw [eG]; exact RwC.rf) ?_ ?_ ?_
  · rw [eG]
    exact hSzz.2.1.ext (fun jzz hj => (s1zz jzz hj).trans (hC.1.1 jzz hj)) (fun jzz hj => (s2zz jzz hj).trans (hC.1.2.1 jzz hj)) (s3zz.trans hC.1.2.2.1) (s4zz.trans hC.1.2.2.2.1) (s5.trans hC.1.2.2.2.2) (fun _ _ _ => rfl)
  · rw [eG]
    obtain ⟨q0, sz, fi, q1zz, q2zz, q3zz, q4zz, q5zz⟩ := hSzz.2.2.1
    have k3zz : gI pa' 3 = gI pa0 3 := p2zz.trans hC.2.2.1
    have k2zz : gI pa' 2 = gI pa0 2 := p1zz.trans hC.2.1
    refine ⟨by rw [k3zz, b2]; exact q0, sz, fi, by rw [k3zz]; exact q1zz, q2zz, by rw [k2zz]; exact q3zz, q4zz, fun izz hizz => ?_⟩
    refine (q5zz izz hizz).mv ((p3zz _ (by omega)).trans (hC.2.2.2.1 _ (by omega))) (fun t ht => (p4zz _ (by omega)).trans (hC.2.2.2.2 _ (by omega))) (e7zz izz (by omega)) (fun t ht => e6zz _ (by omega)) (fun _ _ => rfl)
  · rw [b5, a5, f1zz.I 20 rfl, h20]; exact hSzz.2.2.2.2.1.symm
def StT (o8zz o : Ob) : Prop := gI o8zz 12 = gI o 1 ∧ ∀ jzz, jzz < 7 → gA o8zz 11 jzz = gA o 2 jzz
set_option maxHeartbeats 200000 in
theorem StT.eq {o8zz o o8' o' : Ob} (hzz : StT o8zz o) (azz : gI o8' 12 = gI o8zz 12) (bzz : gA o8' 11 = gA o8zz 11) (czz : gI o' 1 = gI o 1) (d : gA o' 2 = gA o 2) : StT o8' o' := ⟨by rw [azz, czz]; exact hzz.1, by rw [bzz, d]; exact hzz.2⟩
set_option maxHeartbeats 200000 in
theorem st_grant {o8zz o : Ob} {vzz : Int32} {zzz wzz : Int32 × Ob} (hzz : StT o8zz o) (hv : 0 ≤ vzz.toInt) (h1 : f_X8_grant o8zz vzz = some zzz) (h2 : f_X9_tell o vzz = some wzz) : zzz.1 = vzz ∧ wzz.1 = vzz ∧ StT zzz.2 wzz.2 := by
  unfold f_X8_grant at h1
  obtain ⟨o1, g1, h1⟩ := z_lt h1
  have h1 := Option.some.inj h1
  have hv' : (0 : Int32) ≤ vzz := Int32.le_iff_toInt_le.mpr (by rw [(by decide : (0 : Int32).toInt = 0)]; exact hv)
  unfold f_X9_tell at h2
  have h2 := z_t h2 hv'
  unfold bk_X9_tell_10 at h2
  obtain ⟨p1zz, k1zz, h2⟩ := z_lt h2
  have h2 := Option.some.inj (z_t h2 hv')
  rw [← h1, ← h2]
  refine ⟨rfl, rfl, ?_, fun jzz hj => ?_⟩
  · rw [g1, k1zz]; rfl
  · rw [g1, k1zz]; exact hzz.2 jzz hj
set_option maxHeartbeats 200000 in
theorem st_refuse {o8zz o : Ob} {vzz : Int32} {zzz wzz : Int32 × Ob} (hzz : StT o8zz o) (hv : vzz = -1 ∨ vzz = -2 ∨ vzz = -3 ∨ vzz = -5 ∨ vzz = -6) (h1 : f_X8_refuse o8zz vzz = some zzz) (h2 : f_X9_tell o vzz = some wzz) : zzz.1 = vzz ∧ wzz.1 = vzz ∧ StT zzz.2 wzz.2 := by
  have r0 : ¬ (0 : Int32) ≤ vzz := by rcases hv with qzz | qzz | qzz | qzz | qzz <;> subst qzz <;> decide
  have r6 : ¬ vzz < (-6 : Int32) := by rcases hv with qzz | qzz | qzz | qzz | qzz <;> subst qzz <;> decide
  obtain ⟨xzz, hx, ix⟩ : ∃ xzz : Nat, xzz < 7 ∧ (-vzz).toNatClampNeg = xzz := by
    rcases hv with qzz | qzz | qzz | qzz | qzz <;> subst qzz
    · exact ⟨1, by decide, by decide⟩
    · exact ⟨2, by decide, by decide⟩
    · exact ⟨3, by decide, by decide⟩
    · exact ⟨5, by decide, by decide⟩
    · exact ⟨6, by decide, by decide⟩
  unfold f_X8_refuse at h1
  obtain ⟨o1, g1, h1⟩ := z_lt h1
  have h1 := z_f (z_f h1 r0) r6
  obtain ⟨x2zz, q2zz, h1⟩ := z_lt h1
  have h1 := (z_gd (z_gd h1).2).2
  rw [q2zz, ix] at h1
  obtain ⟨o5zz, g5zz, h1⟩ := z_lt h1
  have h1 := Option.some.inj h1
  unfold f_X9_tell at h2
  have h2 := z_f h2 r0
  unfold bk_X9_tell_10 at h2
  obtain ⟨p1zz, k1zz, h2⟩ := z_lt h2
  have h2 := z_f h2 r0
  obtain ⟨y2, l2, h2⟩ := z_lt h2
  have h2 := (z_gd (z_gd h2).2).2
  rw [l2, ix] at h2
  obtain ⟨p5zz, k5zz, h2⟩ := z_lt h2
  have h2 := Option.some.inj h2
  rw [← h1, ← h2]
  refine ⟨rfl, rfl, ?_, fun jzz hj => ?_⟩
  · rw [g5zz, k5zz, g1, k1zz]; rfl
  · rw [g5zz, k5zz, g1, k1zz]
    show (if jzz = xzz then gA o8zz 11 xzz + 1 else gA o8zz 11 jzz) = (if jzz = xzz then gA o 2 xzz + 1 else gA o 2 jzz)
    by_cases czz : jzz = xzz
    · rw [if_pos czz, if_pos czz, hzz.2 xzz hx]
    · rw [if_neg czz, if_neg czz]; exact hzz.2 jzz hj
set_option maxHeartbeats 200000 in
theorem osum_20 {o : Ob} {pzz : Int32} {zzz : Int32 × Ob} (h0 : gI o 20 = 0) (hzz : f_X9_orderSum o pzz = some zzz) : gI zzz.2 20 = 0 := by
  unfold f_X9_orderSum at hzz
  rcases z_if hzz with ⟨-, hzz⟩ | ⟨-, hzz⟩
  · have hzz := (z_gd (z_gd hzz).2).2
    rcases z_if hzz with ⟨-, hzz⟩ | ⟨-, hzz⟩
    · rw [← Option.some.inj hzz]; exact h0
    · obtain ⟨o3zz, e3zz, hzz⟩ := z_lt hzz
      have hzz := (z_gd (z_gd hzz).2).2
      obtain ⟨wzz, ew, hzz⟩ := z_bd hzz
      obtain ⟨o7, e7zz, hzz⟩ := z_lt hzz
      have hzz := (z_gd hzz).2
      obtain ⟨o9, e9zz, hzz⟩ := z_lt hzz
      rw [← Option.some.inj hzz, e9zz, e7zz]; rfl
  · rw [← Option.some.inj hzz]; exact h0
set_option maxHeartbeats 200000 in
theorem run106_20 {o : Ob} {xzz : Int32} {yzz : Int32 × Ob} (h0 : gI o 20 = 0) (hzz : bk_X9_run_106 xzz o = some yzz) : gI yzz.2 20 = 0 := by
  unfold bk_X9_run_106 at hzz
  obtain ⟨zzz, ezz, hzz⟩ := z_bd hzz
  have kzz := osum_20 h0 ezz
  rcases z_if hzz with ⟨-, hzz⟩ | ⟨-, hzz⟩
  · have hzz := (z_gd hzz).2
    obtain ⟨wzz, e2zz, hzz⟩ := z_bd hzz
    have k2zz : gI wzz.2 20 = 0 := ((fr_f_X9_act e2zz).I 20 rfl).trans kzz
    rcases z_if hzz with ⟨-, hzz⟩ | ⟨-, hzz⟩
    · have hzz := (z_gd hzz).2
      rcases z_if hzz with ⟨-, hzz⟩ | ⟨-, hzz⟩
      · unfold bk_X9_run_161 at hzz
        obtain ⟨o14, g14, hzz⟩ := z_lt hzz
        obtain ⟨o15, g15, hzz⟩ := z_lt hzz
        rw [← Option.some.inj hzz, g15, g14]; exact k2zz
      · unfold bk_X9_run_161 at hzz
        obtain ⟨o14, g14, hzz⟩ := z_lt hzz
        obtain ⟨o15, g15, hzz⟩ := z_lt hzz
        rw [← Option.some.inj hzz, g15, g14]; exact k2zz
    · rw [← Option.some.inj hzz]; exact k2zz
  · rw [← Option.some.inj hzz]; exact kzz
set_option maxHeartbeats 200000 in
theorem run_20 {o : Ob} {xzz : Int32} {yzz : Int32 × Ob} (h0 : gI o 20 = 0) (hzz : f_X9_run o xzz = some yzz) : gI yzz.2 20 = 0 := by
  unfold f_X9_run at hzz
  obtain ⟨o1, g1, hzz⟩ := z_lt hzz
  obtain ⟨o2, g2, hzz⟩ := z_lt hzz
  obtain ⟨o3zz, g3zz, hzz⟩ := z_lt hzz
  obtain ⟨o4zz, g4, hzz⟩ := z_lt hzz
  obtain ⟨w5, e5zz, hzz⟩ := z_bd hzz
  obtain ⟨o6, g6, hzz⟩ := z_lt hzz
  obtain ⟨o7, g7, hzz⟩ := z_lt hzz
  have k7zz : gI o7 20 = 0 := by rw [g7, g6, g4, g3zz, g2, g1]; exact h0
  have hzz := (z_gd (z_gd hzz).2).2
  rcases z_if hzz with ⟨-, hzz⟩ | ⟨-, hzz⟩
  · exact run106_20 k7zz hzz
  · obtain ⟨zzz, ezz, hzz⟩ := z_bd hzz
    have kzz := osum_20 k7zz ezz
    rcases z_if hzz with ⟨-, hzz⟩ | ⟨-, hzz⟩
    · rcases z_if hzz with ⟨-, hzz⟩ | ⟨-, hzz⟩
      · rw [← Option.some.inj hzz]; exact kzz
      · exact run106_20 kzz hzz
    · rw [← Option.some.inj hzz]; exact kzz
set_option maxHeartbeats 200000 in
theorem end_20 {o zzz : Ob} (hzz : f_X9_endText o = some zzz) : gI zzz 20 = 0 := by
  have ezz : ∀ wzz : Ob, bk_X9_endText_19 wzz = some zzz → gI zzz 20 = 0 := by
    intro wzz hzz
    unfold bk_X9_endText_19 at hzz
    obtain ⟨q1zz, gq1, hzz⟩ := z_lt hzz
    obtain ⟨q2zz, gq2, hzz⟩ := z_lt hzz
    rw [← Option.some.inj hzz, gq2, gq1]; rfl
  unfold f_X9_endText at hzz
  rcases z_if hzz with ⟨-, hzz⟩ | ⟨-, hzz⟩
  · rcases z_if hzz with ⟨-, hzz⟩ | ⟨-, hzz⟩
    · exact ezz _ hzz
    · obtain ⟨wzz, -, hzz⟩ := z_bd hzz
      exact ezz _ hzz
  · exact ezz _ hzz
def OJ (pl : List CR) (isl : Ob) (n : Nat) (oc : Ob) (qzz K1 K2 : Nat) (o0zz o8zz mv pa o : Ob) (Dzz : Nat) : Prop :=
  TzS pl isl mv pa o n ∧ (gI o8zz 15 = gI o 56 ∧ gI o8zz 16 = gI o 57) ∧ (StT o8zz o ∧ gI o8zz 14 = gI o 58) ∧ BfR o0zz o ∧ RwC n (gA o0zz 3) (gA o 3) ∧ (gI o 21).toInt = (qzz : Int) ∧ (∀ mzz, mzz < qzz → ClE true oc (gA o 55) (gA o 24) (gA o 25) mzz K1 K2) ∧ (∃ d : Nat, (gI o 56).toInt = (d : Int) ∧ d ≤ Dzz)
def OrdO (pl : List CR) (isl : Ob) (n : Nat) (o0zz : Ob) (yzz : Int32 × Ob × Ob × Ob × Ob × Ob × Ob × Ob × Ob × Ob) (y' : Int32 × Ob) : Prop := yzz.1 = y'.1 ∧ TzS pl isl yzz.2.2.2.2.2.1 yzz.2.2.2.2.2.2.2.1 y'.2 n ∧ RwC n (gA o0zz 3) (gA y'.2 3) ∧ StT yzz.2.1 y'.2 ∧ gI yzz.2.1 14 = gI y'.2 58
set_option maxHeartbeats 200000 in
theorem ord_in {pl : List CR} {isl oc o0zz mv0 pa0 mvAzz paA rd : Ob} {n qzz K1 K2 nc ns mzz : Nat} {v3 : Int32} {rec78 : Int32 × Ob × Ob × Ob × Ob × Ob × Ob × Ob × Ob × Ob → Option (Int32 × Ob × Ob × Ob × Ob × Ob × Ob × Ob × Ob × Ob)} {rec140 : Int32 × Int32 × Ob → Option (Int32 × Ob)} {yzz : Int32 × Ob × Ob × Ob × Ob × Ob × Ob × Ob × Ob × Ob} {y' : Int32 × Ob}
    (hS0 : TzS pl isl mv0 pa0 o0zz n) (hC : BfC mv0 pa0 mvAzz paA) (hK8 : (gI oc 8).toInt = (K1 : Int)) (hK1 : K1 ≤ 400) (hK2 : K2 ≤ 400) (hq : qzz ≤ 12) (hmzz : mzz < qzz) (e3zz : v3.toInt = (mzz : Int))
    (hrec : ∀ (xzz : Int32) (o8zz mezz mv czz pa o : Ob), xzz.toInt = ((mzz + 1 : Nat) : Int) → OJ pl isl n oc qzz K1 K2 o0zz o8zz mv pa o (20 * (mzz + 1)) → rec78 (xzz, o8zz, rd, oc, mezz, mv, czz, pa, paA, mvAzz) = some yzz → rec140 (gI o0zz 8, xzz, o) = some y' → OrdO pl isl n o0zz yzz y') :
    ∀ (Nzz N' : Nat) (v4zz : Int32) (o8zz mezz mv czz pa o : Ob) (t : Nat), v4zz.toInt = (t : Int) → t ≤ 20 → OJ pl isl n oc qzz K1 K2 o0zz o8zz mv pa o (20 * mzz + t) → lp_X8_orders_89 nc ns isl pl rec78 Nzz (v3, v4zz, o8zz, rd, oc, mezz, mv, czz, pa, paA, mvAzz) = some yzz → lp_X9_orders_150 rec140 N' (gI o0zz 8, v3, v4zz, o) = some y' → OrdO pl isl n o0zz yzz y' := by
  intro Nzz
  induction Nzz with
  | zero => intro N' v4zz o8zz mezz mv czz pa o t _ _ _ h1; cases h1
  | succ Nzz ihzz =>
    intro N' v4zz o8zz mezz mv czz pa o t e4zz ht hJ h1 h2
    cases N' with
    | zero => cases h2
    | succ N' =>
    obtain ⟨hSzz, ⟨hdzz, hl⟩, ⟨hst, h14⟩, hBzz, hw, h21, hcl, d, ed, hdD⟩ := hJ
    have h1 : lb_X8_orders_89 nc ns isl pl rec78 (lp_X8_orders_89 nc ns isl pl rec78 Nzz) v3 v4zz o8zz rd oc mezz mv czz pa paA mvAzz = some yzz := h1
    have h2 : lb_X9_orders_150 rec140 (lp_X9_orders_150 rec140 N') (gI o0zz 8) v3 v4zz o = some y' := h2
    unfold lb_X8_orders_89 at h1
    unfold lb_X9_orders_150 at h2
    have i3zz : v3.toNatClampNeg = mzz := tnc_eq e3zz
    have t8 : ((8 : Int32) * v3).toInt = 8 * (mzz : Int) := i32_mul (by decide : (8 : Int32).toInt = 8) e3zz (by omega) (by omega)
    have i7zz : (((8 : Int32) * v3) + (7 : Int32)).toNatClampNeg = 8 * mzz + 7 := tnc_eq (by rw [i32_add t8 (by decide : (7 : Int32).toInt = 7) (by omega) (by omega)]; omega)
    rw [i3zz] at h1
    rw [i7zz] at h2
    have h1 := (z_gd h1).2
    have h2 := (z_gd h2).2
    have hcm := hcl mzz hmzz
    obtain ⟨_, _, _, _, _, _, _, _, _, _, _, _, _, _, _, _, _, _, _, htm⟩ := id hcm
    obtain ⟨m1zz, m2zz, m3zz⟩ := htm rfl
    rw [← m1zz] at h2
    by_cases c0zz : gA oc 1 mzz ≤ v4zz
    · have h1 := z_t h1 c0zz
      have h2 := z_t h2 c0zz
      obtain ⟨x10, g10, h1⟩ := z_lt h1
      obtain ⟨x12, g12, h2⟩ := z_lt h2
      have qx : x12 = x10 := g12.trans g10.symm
      rw [qx] at h2
      have tx : x10.toInt = ((mzz + 1 : Nat) : Int) := by rw [g10]; exact Eq.trans (i32_add e3zz (by decide : (1 : Int32).toInt = 1) (by omega) (by omega)) (by omega)
      exact hrec x10 o8zz mezz mv czz pa o tx ⟨hSzz, ⟨hdzz, hl⟩, ⟨hst, h14⟩, hBzz, hw, h21, hcl, d, ed, by omega⟩ h1 h2
    · have c0' := cv_nle (a := (gA oc 1 mzz).toInt) (b := (t : Int)) rfl e4zz c0zz
      have h1 := z_f h1 c0zz
      have h2 := z_f h2 c0zz
      obtain ⟨z11, k11, h1⟩ := z_bd h1
      obtain ⟨w13zz, k13, h2⟩ := z_bd h2
      have f8zz := (fr_f_X8_obey_O k11).1
      have f9zz := fr_f_X9_run k13
      obtain ⟨r1zz, r2, r3⟩ := run_eq hSzz hdzz hl hK8 hK1 hK2 (by omega) hcm e3zz t8 k11 k13
      have hw' : RwC n (gA o0zz 3) (gA w13zz.2 3) := hw.tr r1zz
      have hB' : BfR o0zz w13zz.2 := ⟨fun jzz hj => by rw [f9zz.A 9 rfl]; exact hBzz.1 jzz hj, fun jzz hj => by rw [f9zz.A 10 rfl]; exact hBzz.2.1 jzz hj, fun t' ht' => by rw [r2 (425 + t') (by omega)]; exact hBzz.2.2 t' ht'⟩
      have hst' : StT z11.2.1 w13zz.2 := hst.eq (f8zz.I 12 rfl) (f8zz.A 11 rfl) (f9zz.I 1 rfl) (f9zz.A 2 rfl)
      rcases r3 with ⟨u1zz, u2zz⟩ | ⟨u1zz, u2zz, u3, u4zz, u5, u6⟩
      · have h1 := z_t h1 u1zz
        have h2 := z_f h2 (by rw [u2zz]; decide)
        obtain ⟨o13, g13, h1⟩ := z_lt h1
        obtain ⟨z14zz, k14, h1⟩ := z_bd h1
        obtain ⟨z15, k15, h1⟩ := z_bd h1
        obtain ⟨z16, k16, h1⟩ := z_bd h1
        have h1 := Option.some.inj h1
        obtain ⟨w15, l15, h2⟩ := z_bd h2
        obtain ⟨o16, l16, h2⟩ := z_lt h2
        obtain ⟨w17, l17, h2⟩ := z_bd h2
        have h2 := Option.some.inj h2
        have fg := fr_f_X9_giveBack l15
        have ft := fr_f_X9_tell l17
        have fr := fr_f_X8_refuse k16
        have k20 : gI w13zz.2 20 = 0 := run_20 hSzz.2.2.2.2.1 k13
        obtain ⟨v1zz, v2⟩ := give_eq hS0 hB' hC hw' k20 k14 k15 l15
        have hs16 : StT o13 o16 := hst'.eq (by rw [g13]; rfl) (by rw [g13]; rfl) (by rw [l16]; exact fg.I 1 rfl) (by rw [l16]; exact fg.A 2 rfl)
        obtain ⟨s1zz, s2zz, s3zz⟩ := st_refuse hs16 (Or.inr (Or.inr (Or.inl rfl))) k16 l17
        have e3' : gA w17.2 3 = gA w15 3 := (ft.A 3 rfl).trans (by rw [l16]; rfl)
        rw [← h1, ← h2]
        refine ⟨s1zz.trans s2zz.symm, ?_, ?_, s3zz, ?_⟩
        · exact v1zz.sc e3' ((ft.I 8 rfl).trans (by rw [l16]; rfl)) ((ft.A 6 rfl).trans (by rw [l16]; rfl)) ((ft.A 7 rfl).trans (by rw [l16]; rfl)) ((ft.I 20 rfl).trans (by rw [l16]; rfl))
        · show RwC n (gA o0zz 3) (gA w17.2 3)
          rw [e3', v2]; exact RwC.rf
        · show gI z16.2 14 = gI w17.2 58
          rw [fr.I 14 rfl, ft.I 58 rfl, g13, l16]; rfl
      · have h1 := z_f h1 (by rw [u1zz]; decide)
        have h2 := z_t h2 (by rw [u2zz]; decide)
        obtain ⟨x12, g12, h1⟩ := z_lt h1
        obtain ⟨x14, l14, h2⟩ := z_lt h2
        have qx : x14 = x12 := l14.trans g12.symm
        rw [qx] at h2
        have tx : x12.toInt = ((t + 1 : Nat) : Int) := by rw [g12]; exact Eq.trans (i32_add e4zz (by decide : (1 : Int32).toInt = 1) (by omega) (by omega)) (by omega)
        have hdn : ∃ d' : Nat, (gI w13zz.2 56).toInt = (d' : Int) ∧ d' ≤ 20 * mzz + (t + 1) := by
          rcases u6 with uzz | uzz
          · exact ⟨d, by rw [uzz]; exact ed, by omega⟩
          · exact ⟨d + 1, by rw [uzz]; exact Eq.trans (i32_add ed (by decide : (1 : Int32).toInt = 1) (by omega) (by omega)) (by omega), by omega⟩
        exact ihzz N' x12 z11.2.1 z11.2.2.1 z11.2.2.2.1 z11.2.2.2.2.1 z11.2.2.2.2.2 w13zz.2 (t + 1) tx (by omega) ⟨u3, ⟨u4zz, u5⟩, ⟨hst', by rw [f8zz.I 14 rfl, f9zz.I 58 rfl]; exact h14⟩, hB', hw', by rw [f9zz.I 21 rfl]; exact h21, fun m' hm' => by rw [f9zz.A 55 rfl, f9zz.A 24 rfl, f9zz.A 25 rfl]; exact hcl m' hm', hdn⟩ h1 h2
set_option maxHeartbeats 200000 in
theorem ord_out {pl : List CR} {isl oc o0zz mv0 pa0 mvAzz paA rd : Ob} {n qzz K1 K2 nc ns : Nat} {yzz : Int32 × Ob × Ob × Ob × Ob × Ob × Ob × Ob × Ob × Ob} {y' : Int32 × Ob}
    (hS0 : TzS pl isl mv0 pa0 o0zz n) (hC : BfC mv0 pa0 mvAzz paA) (hK8 : (gI oc 8).toInt = (K1 : Int)) (hK1 : K1 ≤ 400) (hK2 : K2 ≤ 400) (hq : qzz ≤ 12) (h7 : (gI oc 7).toInt = (qzz : Int)) :
    ∀ (Nzz N' : Nat) (v3 : Int32) (o8zz mezz mv czz pa o : Ob) (mzz : Nat), v3.toInt = (mzz : Int) → mzz ≤ qzz → OJ pl isl n oc qzz K1 K2 o0zz o8zz mv pa o (20 * mzz) → lp_X8_orders_78 nc ns isl pl Nzz (v3, o8zz, rd, oc, mezz, mv, czz, pa, paA, mvAzz) = some yzz → lp_X9_orders_140 N' (gI o0zz 8, v3, o) = some y' → OrdO pl isl n o0zz yzz y' := by
  intro Nzz
  induction Nzz with
  | zero => intro N' v3 o8zz mezz mv czz pa o mzz _ _ _ h1; cases h1
  | succ Nzz ihzz =>
    intro N' v3 o8zz mezz mv czz pa o mzz e3zz hmzz hJ h1 h2
    cases N' with
    | zero => cases h2
    | succ N' =>
    have h1 : lb_X8_orders_78 nc ns isl pl (lp_X8_orders_78 nc ns isl pl Nzz) v3 o8zz rd oc mezz mv czz pa paA mvAzz = some yzz := h1
    have h2 : lb_X9_orders_140 (lp_X9_orders_140 N') (gI o0zz 8) v3 o = some y' := h2
    unfold lb_X8_orders_78 at h1
    unfold lb_X9_orders_140 at h2
    have e21zz : gI o 21 = gI oc 7 := Int32.toInt_inj.mp (by rw [hJ.2.2.2.2.2.1, h7])
    rw [e21zz] at h2
    by_cases c0zz : gI oc 7 ≤ v3
    · obtain ⟨hSzz, ⟨hdzz, hl⟩, ⟨hst, h14⟩, hBzz, hw, h21, hcl, d, ed, hdD⟩ := hJ
      have h1 := z_t h1 c0zz
      have h2 := z_t h2 c0zz
      obtain ⟨z8, k8zz, h1⟩ := z_bd h1
      obtain ⟨w10zz, k10, h2⟩ := z_bd h2
      have h1 := Option.some.inj h1
      have h2 := Option.some.inj h2
      rw [hdzz] at k8zz
      obtain ⟨s1zz, s2zz, s3zz⟩ := st_grant hst (by omega) k8zz k10
      have ft := fr_f_X9_tell k10
      have fg := fr_f_X8_grant k8zz
      rw [← h1, ← h2]
      refine ⟨s1zz.trans s2zz.symm, hSzz.sc (ft.A 3 rfl) (ft.I 8 rfl) (ft.A 6 rfl) (ft.A 7 rfl) (ft.I 20 rfl), ?_, s3zz, ?_⟩
      · show RwC n (gA o0zz 3) (gA w10zz.2 3)
        rw [ft.A 3 rfl]; exact hw
      · show gI z8.2 14 = gI w10zz.2 58
        rw [fg.I 14 rfl, ft.I 58 rfl]; exact h14
    · have h1 := z_f h1 c0zz
      have h2 := z_f h2 c0zz
      have c0' := cv_nle (a := (qzz : Int)) (b := (mzz : Int)) h7 e3zz c0zz
      exact ord_in hS0 hC hK8 hK1 hK2 hq (by omega) e3zz (fun xzz o8' me' mv' c' pa' o' exzz hJ' g1 g2 => ihzz N' xzz o8' me' mv' c' pa' o' (mzz + 1) exzz (by omega) hJ' g1 g2) zfu zfu 0 o8zz mezz mv czz pa o 0 (by decide) (by omega) hJ h1 h2
def dB9 : DD := ([], [], [9, 10], [], [])
set_option maxHeartbeats 200000 in
theorem ord77 {yzz : Int32 × Ob} {qzz : Int32} : ∀ (Nzz : Nat) (vzz : Int32) (o : Ob) (izz : Nat), vzz.toInt = (izz : Int) → izz ≤ 400 → lp_X9_orders_77 Nzz (qzz, vzz, o) = some yzz → ∃ o1, lp_X9_orders_104 zfu (qzz, 0, o1) = some yzz ∧ (∀ jzz, gA o1 9 jzz = if izz ≤ jzz ∧ jzz < 400 then gA o 6 jzz else gA o 9 jzz) ∧ FrX dB9 o o1 := by
  intro Nzz
  induction Nzz with
  | zero => intro vzz o izz _ _ hzz; cases hzz
  | succ Nzz ihzz =>
    intro vzz o izz evzz hizz hzz
    have hzz : lb_X9_orders_77 (lp_X9_orders_77 Nzz) qzz vzz o = some yzz := hzz
    unfold lb_X9_orders_77 at hzz
    rcases z_if hzz with ⟨czz, hzz⟩ | ⟨czz, hzz⟩
    · have czz := cv_le (a := 400) (b := (izz : Int)) (by decide) evzz czz
      exact ⟨o, hzz, fun jzz => by rw [if_neg (by omega)], FrX.rf⟩
    · have czz := cv_nle (a := 400) (b := (izz : Int)) (by decide) evzz czz
      have ivzz : vzz.toNatClampNeg = izz := tnc_eq evzz
      rw [ivzz] at hzz
      have hzz := (z_gd (z_gd hzz).2).2
      obtain ⟨o5zz, e5zz, hzz⟩ := z_lt hzz
      obtain ⟨x6, e6zz, hzz⟩ := z_lt hzz
      obtain ⟨o1, r0, r1zz, r2⟩ := ihzz x6 o5zz (izz + 1) (by rw [e6zz]; exact Eq.trans (i32_add evzz (by decide : (1 : Int32).toInt = 1) (by omega) (by omega)) (by omega)) (by omega) hzz
      have a9 : ∀ jzz, gA o5zz 9 jzz = if jzz = izz then gA o 6 izz else gA o 9 jzz := fun jzz => by rw [e5zz]; rfl
      have a6 : gA o5zz 6 = gA o 6 := by rw [e5zz]; rfl
      refine ⟨o1, r0, fun jzz => ?_, FrX.tr (by rw [e5zz]; exact FrX.tA FrX.rf rfl) r2⟩
      rw [r1zz, a6, a9]
      by_cases d : jzz = izz
      · rw [if_neg (by omega), if_pos d, if_pos (by omega), d]
      · by_cases d2zz : izz ≤ jzz ∧ jzz < 400
        · rw [if_pos (by omega), if_pos d2zz]
        · rw [if_neg (by omega), if_neg d, if_neg d2zz]
set_option maxHeartbeats 200000 in
theorem ord104 {yzz : Int32 × Ob} {qzz : Int32} : ∀ (Nzz : Nat) (vzz : Int32) (o : Ob) (izz : Nat), vzz.toInt = (izz : Int) → izz ≤ 16 → lp_X9_orders_104 Nzz (qzz, vzz, o) = some yzz → ∃ o1, lp_X9_orders_140 zfu (qzz, 0, sI (sI o1 56 0) 57 (-1)) = some yzz ∧ (∀ jzz, gA o1 10 jzz = if izz ≤ jzz ∧ jzz < 16 then gA o 7 jzz else gA o 10 jzz) ∧ gA o1 9 = gA o 9 ∧ FrX dB9 o o1 := by
  intro Nzz
  induction Nzz with
  | zero => intro vzz o izz _ _ hzz; cases hzz
  | succ Nzz ihzz =>
    intro vzz o izz evzz hizz hzz
    have hzz : lb_X9_orders_104 (lp_X9_orders_104 Nzz) qzz vzz o = some yzz := hzz
    unfold lb_X9_orders_104 at hzz
    rcases z_if hzz with ⟨czz, hzz⟩ | ⟨czz, hzz⟩
    · have czz := cv_le (a := 16) (b := (izz : Int)) (by decide) evzz czz
      obtain ⟨o8zz, e8, hzz⟩ := z_lt hzz
      obtain ⟨o9, e9zz, hzz⟩ := z_lt hzz
      rw [e9zz, e8] at hzz
      exact ⟨o, hzz, fun jzz => by rw [if_neg (by omega)], rfl, FrX.rf⟩
    · have czz := cv_nle (a := 16) (b := (izz : Int)) (by decide) evzz czz
      have ivzz : vzz.toNatClampNeg = izz := tnc_eq evzz
      rw [ivzz] at hzz
      have hzz := (z_gd (z_gd hzz).2).2
      obtain ⟨o5zz, e5zz, hzz⟩ := z_lt hzz
      obtain ⟨x6, e6zz, hzz⟩ := z_lt hzz
      obtain ⟨o1, r0, r1zz, r9, r2⟩ := ihzz x6 o5zz (izz + 1) (by rw [e6zz]; exact Eq.trans (i32_add evzz (by decide : (1 : Int32).toInt = 1) (by omega) (by omega)) (by omega)) (by omega) hzz
      have a9 : ∀ jzz, gA o5zz 10 jzz = if jzz = izz then gA o 7 izz else gA o 10 jzz := fun jzz => by rw [e5zz]; rfl
      have a6 : gA o5zz 7 = gA o 7 := by rw [e5zz]; rfl
      refine ⟨o1, r0, fun jzz => ?_, r9.trans (by rw [e5zz]; rfl), FrX.tr (by rw [e5zz]; exact FrX.tA FrX.rf rfl) r2⟩
      rw [r1zz, a6, a9]
      by_cases d : jzz = izz
      · rw [if_neg (by omega), if_pos d, if_pos (by omega), d]
      · by_cases d2zz : izz ≤ jzz ∧ jzz < 16
        · rw [if_pos (by omega), if_pos d2zz]
        · rw [if_neg (by omega), if_neg d, if_neg d2zz]
set_option maxHeartbeats 200000 in
theorem orders_eq {pl : List CR} {isl mv pa czz mezz o8zz rd oc paA mvAzz o : Ob} {n : Nat} {yzz : Int32 × Ob × Ob × Ob × Ob × Ob × Ob × Ob × Ob × Ob} {y' : Int32 × Ob} (hSzz : TzS pl isl mv pa o n) (hst : StT o8zz o) (hz : TZ rd o) (ht : TbW o) (hH : HDs o) (h1 : f_X8_orders 12 400 o8zz rd oc mezz isl mv czz pa paA mvAzz pl = some yzz) (h2 : f_X9_orders o = some y') : OrdO pl isl n o yzz y' := by
  unfold f_X8_orders at h1
  obtain ⟨p1zz, g1, h1⟩ := z_lt h1
  obtain ⟨z2, k2zz, h1⟩ := z_bd h1
  obtain ⟨p3zz, g3zz, h1⟩ := z_lt h1
  unfold f_X9_orders at h2
  obtain ⟨o1, l1, h2⟩ := z_lt h2
  obtain ⟨o2, l2, h2⟩ := z_lt h2
  obtain ⟨z3, l3, h2⟩ := z_bd h2
  obtain ⟨z4, l4, h2⟩ := z_bd h2
  have A2 : ∀ izz, gA o2 izz = gA o izz := fun izz => by rw [l2, l1]; rfl
  have M2zz : ∀ izz, gM o2 izz = gM o izz := fun izz => by rw [l2, l1]; rfl
  have k13 : gI o2 13 = gI o 13 := by rw [l2, l1]; rfl
  have hz2 : TZ rd o2 := ⟨by rw [k13]; exact hz.1, by rw [A2]; exact hz.2.1, by rw [k13]; exact hz.2.2.1, by rw [k13]; exact hz.2.2.2⟩
  have ht2 : TbW o2 := ⟨fun kzz hk => by rw [M2zz]; exact ht.1 kzz hk, fun kzz hk => by rw [M2zz]; exact ht.2 kzz hk⟩
  have hH2 : HDs o2 := ⟨fun kzz hk => by rw [M2zz]; exact hH.1 kzz hk, fun kzz hk => by rw [M2zz]; exact hH.2 kzz hk⟩
  obtain ⟨wzz, hw, ⟨w3zz, wF⟩, hx⟩ := parse_O hz2 ht2 hH2 k2zz l3 l4 h2
  rw [A2] at w3zz
  unfold bk_X9_orders_46 at hw
  obtain ⟨z5, k5zz, hw⟩ := z_bd hw
  have f5zz := fr_f_X9_endText k5zz
  have hst1 : StT p1zz z5 := hst.eq (by rw [g1]; rfl) (by rw [g1]; rfl) ((f5zz.I 1 rfl).trans ((wF.I 1 rfl).trans (by rw [l2, l1]; rfl))) ((f5zz.A 2 rfl).trans ((wF.A 2 rfl).trans (A2 2)))
  have e53 : gA z5 3 = gA o 3 := (f5zz.A 3 rfl).trans w3zz
  have k20 : gI z5 20 = 0 := end_20 k5zz
  have e58 : gI z5 58 = -1 := (f5zz.I 58 rfl).trans ((wF.I 58 rfl).trans (by rw [l2]; rfl))
  have hS5 : TzS pl isl mv pa z5 n := hSzz.sc e53 ((f5zz.I 8 rfl).trans ((wF.I 8 rfl).trans (by rw [l2, l1]; rfl))) ((f5zz.A 6 rfl).trans ((wF.A 6 rfl).trans (A2 6))) ((f5zz.A 7 rfl).trans ((wF.A 7 rfl).trans (A2 7))) (k20.trans hSzz.2.2.2.2.1.symm)
  have e14zz : gI p1zz 14 = gI z5 58 := by rw [e58, g1]; rfl
  rcases hx with ⟨a1zz, hbzz⟩ | ⟨a1zz, a2, a3, k1zz, k2', qzz, hq1, hq2, hC⟩
  ·
    have h1 := z_t h1 a1zz
    have e19zz : ¬ gI z5 19 = 0 := by
      unfold f_X9_endText at k5zz
      rcases hbzz with ⟨b1, b2⟩ | ⟨b1, b2, b3⟩
      · have k5zz := z_f k5zz (by rw [b1]; decide)
        unfold bk_X9_endText_19 at k5zz
        obtain ⟨q1zz, gq1, k5zz⟩ := z_lt k5zz
        obtain ⟨q2zz, gq2, k5zz⟩ := z_lt k5zz
        rw [← Option.some.inj k5zz, gq2, gq1]
        show ¬ gI wzz 19 = 0
        rw [b1]; decide
      · obtain ⟨zm, ezm, k5zz⟩ := z_bd (z_f (z_t k5zz b1) b2)
        have em := mu_no b1 ezm
        unfold bk_X9_endText_19 at k5zz
        obtain ⟨q1zz, gq1, k5zz⟩ := z_lt k5zz
        obtain ⟨q2zz, gq2, k5zz⟩ := z_lt k5zz
        rw [← Option.some.inj k5zz, gq2, gq1, em]
        show ¬ (1 : Int32) = 0
        decide
    obtain ⟨z17, k17, h1⟩ := z_bd h1
    have h1 := Option.some.inj h1
    obtain ⟨w26, k26, hw⟩ := z_bd (z_f hw e19zz)
    have hw := Option.some.inj hw
    obtain ⟨s1zz, s2zz, s3zz⟩ := st_refuse hst1 (Or.inr (Or.inr (Or.inr (Or.inr rfl)))) k17 k26
    have ft := fr_f_X9_tell k26
    have fr := fr_f_X8_refuse k17
    rw [← h1, ← hw]
    refine ⟨s1zz.trans s2zz.symm, hS5.sc (ft.A 3 rfl) (ft.I 8 rfl) (ft.A 6 rfl) (ft.A 7 rfl) (ft.I 20 rfl), ?_, s3zz, ?_⟩
    · show RwC n (gA o 3) (gA w26.2 3)
      rw [ft.A 3 rfl, e53]; exact RwC.rf
    · show gI z17.2 14 = gI w26.2 58
      rw [fr.I 14 rfl, ft.I 58 rfl]; exact e14zz
  · have h1 := z_f h1 (by rw [a1zz]; decide)
    have e19zz : gI z5 19 = 0 := by
      unfold f_X9_endText at k5zz
      have k5zz := z_t (z_t k5zz a2) a3
      unfold bk_X9_endText_19 at k5zz
      obtain ⟨q1zz, gq1, k5zz⟩ := z_lt k5zz
      obtain ⟨q2zz, gq2, k5zz⟩ := z_lt k5zz
      rw [← Option.some.inj k5zz, gq2, gq1]; exact a2
    obtain ⟨zA, kAzz, h1⟩ := z_bd h1
    obtain ⟨zP, kPzz, h1⟩ := z_bd h1
    obtain ⟨p6zz, g6, h1⟩ := z_lt h1
    obtain ⟨p7zz, g7, h1⟩ := z_lt h1
    obtain ⟨z6, k6zz, hw⟩ := z_bd (z_t hw e19zz)
    obtain ⟨x7, q7zz, hw⟩ := z_lt hw
    have f6zz := fr_f_X9_keepAll k6zz
    unfold f_X9_keepAll at k6zz
    have d6zz := keepAll_lp (mzz := 17) (by decide) (by decide) zfu 0 z5 0 (by decide) (Nat.zero_le _) k6zz
    obtain ⟨u1zz, hw, v9, F1zz⟩ := ord77 zfu 0 z6 0 (by decide) (Nat.zero_le _) hw
    obtain ⟨u2zz, hw, v10, v99, F2⟩ := ord104 zfu 0 u1zz 0 (by decide) (Nat.zero_le _) hw
    have e8 : x7 = gI o 8 := by
      rw [q7zz, f6zz.I 8 rfl]
      exact (f5zz.I 8 rfl).trans ((wF.I 8 rfl).trans (by rw [l2, l1]; rfl))
    rw [e8] at hw
    have e6o : ∀ jzz, jzz < 400 → gA z6 6 jzz = gA o 6 jzz := by
      intro jzz hj
      rw [d6zz, if_neg (by omega), f5zz.A 6 rfl, wF.A 6 rfl, A2]
    have e7o : gA u1zz 7 = gA o 7 := (F1zz.A 7 rfl).trans ((f6zz.A 7 rfl).trans ((f5zz.A 7 rfl).trans ((wF.A 7 rfl).trans (A2 7))))
    have e3u : gA u2zz 3 = gA o 3 := (F2.A 3 rfl).trans ((F1zz.A 3 rfl).trans ((f6zz.A 3 rfl).trans e53))
    have e6u : gA u2zz 6 = gA z6 6 := (F2.A 6 rfl).trans (F1zz.A 6 rfl)
    obtain ⟨s1zz, s2zz, s3zz, s4zz, s5⟩ := setM kAzz
    obtain ⟨t1zz, t2zz, t3zz, t4zz⟩ := setP kPzz
    have hBC : BfC mv pa zA zP := ⟨⟨s1zz, s2zz, s3zz, s4zz, s5⟩, t1zz, t2zz, t3zz, t4zz⟩
    obtain ⟨c1zz, c2zz, c3zz, c4zz, c5zz, c6zz⟩ := hC
    have K8 := c1zz.2.2.2.2.1
    have K2' := c1zz.2.2.2.2.2.2.2.1
    have hk1 : k1zz ≤ 400 := by
      have azz := c1zz.2.2.2.2.2.2.1
      obtain ⟨aa, bb, ea, eb, lab, lb, -⟩ := c1zz.1.2.2.2.2
      have bzz := c1zz.1.1.2.2.2
      omega
    refine ord_out (K1 := k1zz) (K2 := k2') (qzz := qzz) hSzz hBC K8 hk1 K2' hq2 c3zz zfu zfu 0 p7zz mezz mv czz pa _ 0 (by decide) (Nat.zero_le _) ?_ h1 hw
    refine ⟨?_, ⟨by rw [g7, g6]; rfl, by rw [g7]; rfl⟩, ⟨?_, ?_⟩, ⟨fun jzz hj => ?_, fun jzz hj => ?_, fun t ht => ?_⟩, ?_, ?_, fun mzz hmzz => ?_, 0, by show (0 : Int32).toInt = _; decide, Nat.le_refl _⟩
    · refine hSzz.mv (o' := sI (sI u2zz 56 0) 57 (-1)) (by show RwC n (gA o 3) (gA u2zz 3); rw [e3u]; exact RwC.rf) (by show TzM mv (gA u2zz 3); rw [e3u]; exact hSzz.2.1) ?_ ?_
      · show PaT pa (sI (sI u2zz 56 0) 57 (-1)) n (gA u2zz 3)
        rw [e3u]
        obtain ⟨q0, sz, fi, q1zz, q2zz, q3zz, q4zz, q5zz⟩ := hSzz.2.2.1
        refine ⟨?_, sz, fi, q1zz, q2zz, q3zz, q4zz, fun izz hizz => (q5zz izz hizz).mv rfl (fun _ _ => rfl) ?_ (fun t ht => ?_) (fun _ _ => rfl)⟩
        · show gI pa 3 = gI u2zz 8
          rw [F2.I 8 rfl, F1zz.I 8 rfl, ← q7zz, e8]; exact q0
        · show gA u2zz 7 izz = gA o 7 izz
          rw [F2.A 7 rfl, e7o]
        · show gA u2zz 6 (25 * izz + t) = gA o 6 (25 * izz + t)
          rw [e6u, e6o _ (by omega)]
      · show gI u2zz 20 = gI o 20
        rw [F2.I 20 rfl, F1zz.I 20 rfl, f6zz.I 20 rfl, k20]; exact hSzz.2.2.2.2.1.symm
    · refine hst1.eq (by rw [g7, g6]; rfl) (by rw [g7, g6]; rfl) ?_ ?_
      · show gI u2zz 1 = gI z5 1
        rw [F2.I 1 rfl, F1zz.I 1 rfl, f6zz.I 1 rfl]
      · show gA u2zz 2 = gA z5 2
        rw [F2.A 2 rfl, F1zz.A 2 rfl, f6zz.A 2 rfl]
    · show gI p7zz 14 = gI u2zz 58
      rw [F2.I 58 rfl, F1zz.I 58 rfl, f6zz.I 58 rfl, ← e14zz, g7, g6]; rfl
    · show gA u2zz 9 jzz = gA o 6 jzz
      rw [v99, v9, if_pos (by omega), e6o jzz hj]
    · show gA u2zz 10 jzz = gA o 7 jzz
      rw [v10, if_pos (by omega), e7o]
    · show gA u2zz 6 (425 + t) = gA o 3 (4 + t)
      have et : 425 + t - 25 * 17 = t := by omega
      rw [e6u, d6zz, if_pos (by omega), et, e53]
    · show RwC n (gA o 3) (gA u2zz 3)
      rw [e3u]; exact RwC.rf
    · show (gI u2zz 21).toInt = (qzz : Int)
      rw [F2.I 21 rfl, F1zz.I 21 rfl, f6zz.I 21 rfl, f5zz.I 21 rfl]; exact c2zz
    · show ClE true z2.2.2 (gA u2zz 55) (gA u2zz 24) (gA u2zz 25) mzz k1zz k2'
      rw [F2.A 55 rfl, F1zz.A 55 rfl, f6zz.A 55 rfl, f5zz.A 55 rfl, F2.A 24 rfl, F1zz.A 24 rfl, f6zz.A 24 rfl, f5zz.A 24 rfl, F2.A 25 rfl, F1zz.A 25 rfl, f6zz.A 25 rfl, f5zz.A 25 rfl]
      exact c6zz mzz hmzz
set_option maxHeartbeats 200000 in
theorem i32_remE {xzz yzz : Int32} {mzz : Int} (hy : yzz.toInt = mzz) (hmzz : 0 < mzz) (hx : 0 ≤ xzz.toInt) : (xzz - xzz / yzz * yzz).toInt = xzz.toInt % mzz := by
  have hr := i32_rg xzz
  have hr2 := i32_rg yzz
  have h1 : 0 ≤ xzz.toInt / mzz := Int.ediv_nonneg hx (by omega)
  have h2 : xzz.toInt / mzz * mzz ≤ xzz.toInt := Int.ediv_mul_le _ (by omega)
  have h2b : xzz.toInt / mzz ≤ xzz.toInt := Int.ediv_le_self _ hx
  have h3 : (xzz / yzz).toInt = xzz.toInt / mzz := by
    rw [Int32.toInt_div, hy, Int.tdiv_eq_ediv_of_nonneg hx]
    exact Int.bmod_eq_of_le (by omega) (by omega)
  have h0 : 0 ≤ xzz.toInt / mzz * mzz := Int.mul_nonneg h1 (by omega)
  have h4 : (xzz / yzz * yzz).toInt = xzz.toInt / mzz * mzz := i32_mul h3 hy (by omega) (by omega)
  have h5 : (xzz - xzz / yzz * yzz).toInt = xzz.toInt - xzz.toInt / mzz * mzz := i32_sub rfl h4 (by omega) (by omega)
  have h8 : xzz.toInt % mzz = xzz.toInt - mzz * (xzz.toInt / mzz) := Int.emod_def _ _
  have h9 : mzz * (xzz.toInt / mzz) = xzz.toInt / mzz * mzz := Int.mul_comm _ _
  rw [h5, h8, h9]
set_option maxHeartbeats 200000 in
theorem i64_remE {xzz yzz : Int64} {mzz : Int} (hy : yzz.toInt = mzz) (hmzz : 0 < mzz) (hx : 0 ≤ xzz.toInt) : (xzz - xzz / yzz * yzz).toInt = xzz.toInt % mzz := by
  have hr := i64_rg xzz
  have hr2 := i64_rg yzz
  have h1 : 0 ≤ xzz.toInt / mzz := Int.ediv_nonneg hx (by omega)
  have h2 : xzz.toInt / mzz * mzz ≤ xzz.toInt := Int.ediv_mul_le _ (by omega)
  have h2b : xzz.toInt / mzz ≤ xzz.toInt := Int.ediv_le_self _ hx
  have h3 : (xzz / yzz).toInt = xzz.toInt / mzz := by
    rw [Int64.toInt_div, hy, Int.tdiv_eq_ediv_of_nonneg hx]
    exact Int.bmod_eq_of_le (by omega) (by omega)
  have h0 : 0 ≤ xzz.toInt / mzz * mzz := Int.mul_nonneg h1 (by omega)
  have h4 : (xzz / yzz * yzz).toInt = xzz.toInt / mzz * mzz := i64_mul h3 hy (by omega) (by omega)
  have h5 : (xzz - xzz / yzz * yzz).toInt = xzz.toInt - xzz.toInt / mzz * mzz := i64_sub rfl h4 (by omega) (by omega)
  have h8 : xzz.toInt % mzz = xzz.toInt - mzz * (xzz.toInt / mzz) := Int.emod_def _ _
  have h9 : mzz * (xzz.toInt / mzz) = xzz.toInt / mzz * mzz := Int.mul_comm _ _
  rw [h5, h8, h9]
def DrT (s : Int32) (o : Ob) : Prop := s.toInt64 = gL o 60 ∧ 0 ≤ s.toInt ∧ s.toInt ≤ 1000002
set_option maxHeartbeats 200000 in
theorem draw_eq {o : Ob} {s zzz pzz : Int32} {wzz : Int32 × Ob} {Pzz : Int} (hzz : DrT s o) (ep : pzz.toInt = Pzz) (hp : 1 ≤ Pzz ∧ Pzz ≤ 7) (h1 : f_X8_nextDraw s = some zzz) (h2 : f_X9_draw o pzz = some wzz) : DrT zzz wzz.2 ∧ wzz.1 = zzz - zzz / pzz * pzz ∧ 0 ≤ wzz.1.toInt ∧ wzz.1.toInt < Pzz ∧ gA wzz.2 = gA o ∧ gI wzz.2 = gI o := by
  have hdzz := hzz.2
  unfold f_X8_nextDraw at h1
  have h1 := Option.some.inj h1
  unfold f_X9_draw at h2
  obtain ⟨o1, e1zz, h2⟩ := z_lt h2
  have h2 := Option.some.inj (z_gd h2).2
  rw [hzz.1] at h1
  have eg : (gL o 60).toInt = s.toInt := by rw [← hzz.1]; exact Int32.toInt_toInt64 s
  have m1zz : ((gL o 60) * (1103 : Int64)).toInt = s.toInt * 1103 := i64_mul eg (by decide) (by omega) (by omega)
  have m2zz : (((gL o 60) * (1103 : Int64)) + (12345 : Int64)).toInt = s.toInt * 1103 + 12345 := i64_add m1zz (by decide) (by omega) (by omega)
  have m3zz := i64_remE (xzz := ((gL o 60) * (1103 : Int64)) + (12345 : Int64)) (yzz := 1000003) (mzz := 1000003) (by decide) (by decide) (by omega)
  have r1zz := Int.emod_nonneg (((gL o 60) * (1103 : Int64)) + (12345 : Int64)).toInt (show (1000003 : Int) ≠ 0 by decide)
  have r2 := Int.emod_lt_of_pos (((gL o 60) * (1103 : Int64)) + (12345 : Int64)).toInt (show (0 : Int) < 1000003 by decide)
  rw [← m3zz] at r1zz r2
  have k60 : gL o1 60 = ((gL o 60) * (1103 : Int64)) + (12345 : Int64) - (((gL o 60) * (1103 : Int64)) + (12345 : Int64)) / (1000003 : Int64) * (1000003 : Int64) := by rw [e1zz]; rfl
  rw [← k60] at r1zz r2 h1
  have zt : zzz.toInt = (gL o1 60).toInt := by rw [← h1]; exact l2i_eq (by omega) (by omega)
  have z64zz : zzz.toInt64 = gL o1 60 := Int64.toInt_inj.mp (by rw [Int32.toInt_toInt64]; exact zt)
  have ep64 : (pzz.toInt64).toInt = Pzz := by rw [Int32.toInt_toInt64]; exact ep
  have q1zz := i64_remE (xzz := gL o1 60) (yzz := pzz.toInt64) (mzz := Pzz) ep64 (by omega) r1zz
  have q2zz := i32_remE (xzz := zzz) (yzz := pzz) (mzz := Pzz) ep (by omega) (by rw [zt]; exact r1zz)
  have s1zz := Int.emod_nonneg (gL o1 60).toInt (show Pzz ≠ 0 by omega)
  have s2zz := Int.emod_lt_of_pos (gL o1 60).toInt (show 0 < Pzz by omega)
  have wt : ((gL o1 60) - (gL o1 60) / pzz.toInt64 * pzz.toInt64).toInt32.toInt = (gL o1 60).toInt % Pzz := by rw [l2i_eq (by omega) (by omega)]; exact q1zz
  rw [← h2]
  refine ⟨⟨z64zz, by rw [zt]; exact r1zz, by rw [zt]; omega⟩, ?_, ?_, ?_, by rw [e1zz]; rfl, by rw [e1zz]; rfl⟩
  · exact Int32.toInt_inj.mp (by rw [wt, q2zz, zt])
  · show 0 ≤ ((gL o1 60) - (gL o1 60) / pzz.toInt64 * pzz.toInt64).toInt32.toInt
    rw [wt]; exact s1zz
  · show ((gL o1 60) - (gL o1 60) / pzz.toInt64 * pzz.toInt64).toInt32.toInt < Pzz
    rw [wt]; exact s2zz
def TzN (pl : List CR) (isl mv o : Ob) (n : Nat) : Prop := WiL isl (gA o 3) ∧ TzM mv (gA o 3) ∧ (∀ zzz, f_X2_lawInForce isl = some zzz → LwP pl zzz (gA o 3) (gA o 3 3)) ∧ gI o 20 = 0 ∧ (gA o 3 0).toInt = (n : Int)
set_option maxHeartbeats 200000 in
theorem TzN.mv {pl : List CR} {isl mv o mv' o' : Ob} {n : Nat} (hzz : TzN pl isl mv o n) (wzz : RwC n (gA o 3) (gA o' 3)) (hMzz : TzM mv' (gA o' 3)) (e20 : gI o' 20 = gI o 20) : TzN pl isl mv' o' n := ⟨hzz.1.rw' wzz, hMzz, fun zzz ez => (hzz.2.2.1 zzz ez).rw' wzz, e20.trans hzz.2.2.2.1, by rw [wzz 0 (by omega)]; exact hzz.2.2.2.2⟩
set_option maxHeartbeats 200000 in
theorem TzN.sc {pl : List CR} {isl mv o o' : Ob} {n : Nat} (hzz : TzN pl isl mv o n) (e3zz : gA o' 3 = gA o 3) (e20 : gI o' 20 = gI o 20) : TzN pl isl mv o' n := hzz.mv (by rw [e3zz]; exact RwC.rf) (by rw [e3zz]; exact hzz.2.1) e20
def dCe : DD := ([34, 38, 43], [39, 40, 60], [3, 41, 42], [35, 37], [])
set_option maxHeartbeats 200000 in
theorem pap_pass {pl : List CR} {isl mv czz mezz o : Ob} {n : Nat} {yzz : Int32 × Ob × Ob × Ob} {y' : Int32 × Ob} (hSzz : TzN pl isl mv o n) (hy : (gA o 3 4).toInt < 999) (h1 : f_X1_moved_N czz isl mv mezz pl 3 0 = some yzz) (h2 : f_X9_passIt o = some y') : TzN pl isl yzz.2.2.1 y'.2 n ∧ RwC n (gA o 3) (gA y'.2 3) := by
  obtain ⟨hI, hMzz, hL, h20, en⟩ := id hSzz
  unfold f_X1_moved_N at h1
  have h1 := z_t (z_f h1 (by decide)) rfl
  rw [hMzz.2.2.2.1.1] at h1
  have h1 := z_t h1 (Int32.lt_iff_toInt_lt.mpr (by rw [(by decide : (999 : Int32).toInt = 999)]; exact hy))
  unfold bk_X1_moved_N_71 bk_X1_moved_N_118 at h1
  have h1 := z_t h1 rfl
  unfold bk_X1_moved_N_142 at h1
  have h1 := z_f (z_f (z_f h1 (by decide)) (by decide)) (by decide)
  obtain ⟨z6, e6zz, h1⟩ := z_bd h1
  have h1 := Option.some.inj h1
  obtain ⟨r1zz, r2, r3, r4⟩ := pass_eq hL hI hMzz h20 en hy e6zz h2
  rw [← h1]
  exact ⟨hSzz.mv r4 r3 ((fr_f_X9_passIt h2).I 20 rfl), r4⟩
set_option maxHeartbeats 200000 in
theorem pap_take {pl : List CR} {isl mv czz mezz o o' : Ob} {n Pzz : Nat} {xzz : Int32} {yzz : Int32 × Ob × Ob × Ob} (hSzz : TzN pl isl mv o n) (eP : xzz.toInt = (Pzz : Int)) (hP : Pzz < n) (h1 : f_X1_moved_N czz isl mv mezz pl 2 xzz = some yzz) (h2 : f_X9_takeIt o xzz = some o') : TzN pl isl yzz.2.2.1 o' n ∧ RwC n (gA o 3) (gA o' 3) ∧ gI yzz.2.2.1 4 = gI mv 4 := by
  obtain ⟨hI, hMzz, hL, h20, en⟩ := id hSzz
  have hn7 : n ≤ 7 := by have := hI.1.2.2; omega
  have f2zz := fr_f_X9_takeIt h2
  unfold f_X1_moved_N at h1
  have h1 := z_f (z_f h1 (by decide)) (by decide)
  obtain ⟨z1, e1zz, h1⟩ := z_bd h1
  have q1zz : ¬ z1 = 0 := by
    rcases isP2 e1zz with ⟨-, uzz⟩ | ⟨uzz, -⟩
    · exact absurd ⟨by omega, by rw [hI.1.1]; omega⟩ uzz
    · exact uzz
  have h1 := z_t (z_f h1 q1zz) rfl
  rw [hMzz.2.2.1.1] at h1
  by_cases c0zz : gA o 3 7 = 0
  · have h1 := z_t h1 c0zz
    unfold bk_X1_moved_N_116 bk_X1_moved_N_118 at h1
    have h1 := Option.some.inj (z_f h1 (by decide))
    have n7 : (7 : Int32).toNatClampNeg = 7 := by decide
    have i15 : ((15 : Int32) + xzz).toNatClampNeg = 15 + Pzz := tnc_eq (by rw [i32_add (by decide : (15 : Int32).toInt = 15) eP (by omega) (by omega)]; omega)
    unfold f_X9_takeIt at h2
    rw [n7, i15] at h2
    have h2 := (z_gd h2).2
    obtain ⟨w2zz, k2zz, h2⟩ := z_bd h2
    have h2 := (z_gd h2).2
    obtain ⟨o4zz, k4zz, h2⟩ := z_lt h2
    obtain ⟨o5zz, k5zz, h2⟩ := z_lt h2
    have h2 := Option.some.inj h2
    have hp := hMzz.2.1 Pzz (by omega)
    have ea : gA o 3 (15 + Pzz) + gA o 3 7 = gA o 3 (15 + Pzz) := by
      rw [c0zz]; exact Int32.toInt_inj.mp (by rw [i32_add rfl (by decide : (0 : Int32).toInt = 0) (by omega) (by omega)]; omega)
    rw [ea] at k2zz
    have ew := with_id (M := 999) (by decide) ⟨hp.2.1, hp.2.2⟩ k2zz
    have eG : gA o' 3 = gA o 3 := by
      rw [← h2, k5zz, k4zz]
      show upd (upd (gA o 3) (15 + Pzz) w2zz) 7 0 = gA o 3
      rw [upd_own (azz := 15 + Pzz) ew]
      exact upd_own c0zz.symm
    rw [← h1]
    exact ⟨hSzz.sc eG (f2zz.I 20 rfl), by rw [eG]; exact RwC.rf, rfl⟩
  · have h1 := z_f h1 c0zz
    unfold bk_X1_moved_N_115 bk_X1_moved_N_116 bk_X1_moved_N_118 at h1
    have h1 := z_t h1 rfl
    unfold bk_X1_moved_N_142 at h1
    have h1 := z_t (z_f (z_f h1 (by decide)) (by decide)) rfl
    obtain ⟨z5, e5zz, h1⟩ := z_bd h1
    have h1 := Option.some.inj h1
    obtain ⟨r1zz, r2, r3, r4⟩ := take_eq hMzz eP hP hn7 e5zz h2
    rw [← h1]
    exact ⟨hSzz.mv r4 r3 (f2zz.I 20 rfl), r4, (fr_f_X1_takenGap e5zz).I 4 rfl⟩
set_option maxHeartbeats 200000 in
theorem pap_enter {pl : List CR} {isl mv czz mezz o o5zz : Ob} {n Pzz : Nat} {xzz : Int32} {yzz : Int32 × Ob × Ob × Ob} (hSzz : TzN pl isl mv o n) (eP : xzz.toInt = (Pzz : Int)) (hP : Pzz < n) (h1 : f_X1_moved_N czz isl mv mezz pl 1 xzz = some yzz) (e5zz : gA o5zz 3 = upd (gA o 3) (22 + Pzz) ((1 : Int32) - gA o 3 (22 + Pzz))) (e20 : gI o5zz 20 = gI o 20) : TzN pl isl yzz.2.2.1 o5zz n ∧ RwC n (gA o 3) (gA o5zz 3) ∧ gI yzz.2.2.1 4 = gI mv 4 := by
  obtain ⟨hI, hMzz, hL, h20, en⟩ := id hSzz
  have hn7 : n ≤ 7 := by have := hI.1.2.2; omega
  unfold f_X1_moved_N at h1
  have h1 := z_f (z_f h1 (by decide)) (by decide)
  obtain ⟨z1, e1zz, h1⟩ := z_bd h1
  have q1zz : ¬ z1 = 0 := by
    rcases isP2 e1zz with ⟨-, uzz⟩ | ⟨uzz, -⟩
    · exact absurd ⟨by omega, by rw [hI.1.1]; omega⟩ uzz
    · exact uzz
  have h1 := z_f (z_f h1 q1zz) (by decide)
  unfold bk_X1_moved_N_115 bk_X1_moved_N_116 bk_X1_moved_N_118 at h1
  have h1 := z_t h1 rfl
  unfold bk_X1_moved_N_142 at h1
  have h1 := z_t (z_f h1 (by decide)) rfl
  obtain ⟨z4, e4zz, h1⟩ := z_bd h1
  have h1 := Option.some.inj h1
  obtain ⟨r1zz, r2, r3, r4⟩ := entr_eq hMzz eP hP hn7 e4zz e5zz
  rw [← h1]
  exact ⟨hSzz.mv r4 r3 e20, r4, (fr_f_X1_changedEntry e4zz).I 4 rfl⟩
set_option maxHeartbeats 200000 in
theorem held_lp {czz isl : Ob} {pl : List CR} {fzz : Int32} {yzz : Int32 × Ob × Ob} : ∀ (Nzz : Nat) (vzz : Int32) (mv mezz : Ob), lp_X1_heldRace_186 czz isl pl Nzz (fzz, vzz, mv, mezz) = some yzz → yzz.1 = fzz := by
  intro Nzz
  induction Nzz with
  | zero => intro vzz mv mezz hzz; cases hzz
  | succ Nzz ihzz =>
    intro vzz mv mezz hzz
    have hzz : lb_X1_heldRace_186 czz isl pl (lp_X1_heldRace_186 czz isl pl Nzz) fzz vzz mv mezz = some yzz := hzz
    unfold lb_X1_heldRace_186 at hzz
    rcases z_if hzz with ⟨-, hzz⟩ | ⟨-, hzz⟩
    · rw [← Option.some.inj hzz]
    · have hzz := (z_gd hzz).2
      obtain ⟨m9zz, -, hzz⟩ := z_lt hzz
      obtain ⟨x10, -, hzz⟩ := z_lt hzz
      exact ihzz _ _ _ hzz
set_option maxHeartbeats 200000 in
theorem held163 {czz isl mv mezz : Ob} {pl : List CR} {fzz t wzz : Int32} {yzz : Int32 × Ob × Ob} (hzz : bk_X1_heldRace_163 czz isl pl fzz t wzz mv mezz = some yzz) : yzz.1 = fzz := by
  unfold bk_X1_heldRace_163 at hzz
  rcases z_if hzz with ⟨-, hzz⟩ | ⟨-, hzz⟩
  · unfold bk_X1_heldRace_183 at hzz; exact held_lp _ _ _ _ hzz
  · obtain ⟨zzz, -, hzz⟩ := z_bd hzz
    unfold bk_X1_heldRace_183 at hzz; exact held_lp _ _ _ _ hzz
set_option maxHeartbeats 200000 in
theorem held145 {czz isl mv mezz : Ob} {pl : List CR} {fzz t wzz w3zz : Int32} {yzz : Int32 × Ob × Ob} (hzz : bk_X1_heldRace_145 czz isl pl fzz t wzz w3zz mv mezz = some yzz) : yzz.1 = fzz := by
  unfold bk_X1_heldRace_145 at hzz
  rcases z_if hzz with ⟨-, hzz⟩ | ⟨-, hzz⟩
  · exact held163 hzz
  · obtain ⟨zzz, -, hzz⟩ := z_bd hzz
    exact held163 hzz
set_option maxHeartbeats 200000 in
theorem held87 {czz isl mv mezz : Ob} {pl : List CR} {lz : Option Nat} {rc fzz s t w1zz w2zz w3zz : Int32} {yzz : Int32 × Ob × Ob} (hzz : bk_X1_heldRace_87 czz isl pl rc lz fzz s t w1zz w2zz w3zz mv mezz = some yzz) : yzz.1 = fzz := by
  unfold bk_X1_heldRace_87 at hzz
  rcases z_if hzz with ⟨-, hzz⟩ | ⟨-, hzz⟩
  · exact held145 hzz
  · obtain ⟨zzz, -, hzz⟩ := z_bd hzz
    have hzz := (z_gd hzz).2
    obtain ⟨m1zz, -, hzz⟩ := z_lt hzz
    obtain ⟨m2zz, -, hzz⟩ := z_lt hzz
    exact held145 hzz
set_option maxHeartbeats 200000 in
theorem held66 {czz isl mv mezz : Ob} {pl : List CR} {lz : Option Nat} {rc fzz s t w1zz w2zz : Int32} {yzz : Int32 × Ob × Ob} (hzz : bk_X1_heldRace_66 czz isl pl rc lz fzz s t w1zz w2zz mv mezz = some yzz) : yzz.1 = fzz := by
  unfold bk_X1_heldRace_66 at hzz
  rcases z_if hzz with ⟨-, hzz⟩ | ⟨-, hzz⟩
  · exact held87 hzz
  · obtain ⟨zzz, -, hzz⟩ := z_bd hzz
    exact held87 hzz
set_option maxHeartbeats 200000 in
theorem held45 {czz isl mv mezz : Ob} {pl : List CR} {lz : Option Nat} {rc fzz s t w1zz : Int32} {yzz : Int32 × Ob × Ob} (hzz : bk_X1_heldRace_45 czz isl pl rc lz fzz s t w1zz mv mezz = some yzz) : yzz.1 = fzz := by
  unfold bk_X1_heldRace_45 at hzz
  rcases z_if hzz with ⟨-, hzz⟩ | ⟨-, hzz⟩
  · exact held66 hzz
  · obtain ⟨zzz, -, hzz⟩ := z_bd hzz
    exact held66 hzz
set_option maxHeartbeats 200000 in
theorem held_nn {czz isl mv mezz o : Ob} {pl : List CR} {rc : Int32} {n kzz : Nat} {yzz : Int32 × Ob × Ob} (hTzz : Lne czz o n kzz) (hk : 1 ≤ kzz) (hzz : f_X1_heldRace czz isl mv mezz pl rc = some yzz) : ¬ yzz.1 < (0 : Int32) := by
  unfold f_X1_heldRace at hzz
  obtain ⟨lz, el, hzz⟩ := z_bd hzz
  obtain ⟨fzz, ef, hzz⟩ := z_bd hzz
  obtain ⟨s, es, hzz⟩ := z_bd hzz
  obtain ⟨t, et, hzz⟩ := z_bd hzz
  have hf : fzz = gA czz 2 0 := by
    rcases at_eq (izz := 0) hTzz.2.1 (by decide) (by decide) ef with ⟨-, qzz⟩ | ⟨qzz, -⟩
    · exact qzz
    · omega
  have ey : yzz.1 = fzz := by
    rcases z_if hzz with ⟨-, hzz⟩ | ⟨-, hzz⟩
    · exact held45 hzz
    · obtain ⟨zzz, -, hzz⟩ := z_bd hzz
      exact held45 hzz
  rw [ey, hf]
  intro qzz
  have qzz := cv_lt (a := (gA czz 2 0).toInt) (b := 0) rfl (by decide) qzz
  have := (hTzz.2.2 0 (by omega)).2.1
  omega
set_option maxHeartbeats 200000 in
theorem pap_race {pl : List CR} {isl mv czz mezz o w2zz : Ob} {n R : Nat} {xzz : Int32} {yzz : Int32 × Ob × Ob × Ob} (hSzz : TzN pl isl mv o n) (eR : xzz.toInt = (R : Int)) (hR : R < 4) (h1 : f_X1_moved_N czz isl mv mezz pl 0 xzz = some yzz) (k2zz : f_X9_layPlaces o xzz = some w2zz) :
    (yzz.1 < (0 : Int32) ∧ gI w2zz 43 ≤ (0 : Int32) ∧ TzN pl isl yzz.2.2.1 w2zz n ∧ gI yzz.2.2.1 4 = gI mv 4) ∨ (¬ yzz.1 < (0 : Int32) ∧ ¬ gI w2zz 43 ≤ (0 : Int32) ∧ ∀ w4zz, f_X9_raceIt w2zz xzz = some w4zz → TzN pl isl yzz.2.2.1 w4zz.2 n ∧ RwC n (gA o 3) (gA w4zz.2 3) ∧ gI yzz.2.2.1 4 = gI mv 4) := by
  obtain ⟨hI, hMzz, hL, h20, en⟩ := id hSzz
  unfold f_X1_moved_N at h1
  have h1 := z_t h1 rfl
  obtain ⟨z8, e8, h1⟩ := z_bd h1
  have q8zz : ¬ z8 = 0 := by
    rcases isR8 e8 with ⟨-, uzz⟩ | ⟨uzz, -⟩
    · exact absurd ⟨by omega, by omega⟩ uzz
    · exact uzz
  have h1 := z_f h1 q8zz
  obtain ⟨z9, e9zz, h1⟩ := z_bd h1
  obtain ⟨z10, e10zz, h1⟩ := z_bd h1
  have f2zz := fr_f_X9_layPlaces k2zz
  have eG : gA w2zz 3 = gA o 3 := f2zz.A 3 rfl
  obtain ⟨kzz, hkn, hTzz, hz⟩ := line_eq (hL z9 e9zz) (WtL.of hI hMzz) hMzz.2.2.2.2.1 h20 en eR hR e10zz k2zz
  rw [hz, hTzz.1] at h1
  have tk := hTzz.2.1
  rw [hTzz.1] at tk
  by_cases c0zz : gI w2zz 43 = 0
  · have h1 := z_t h1 c0zz
    unfold bk_X1_moved_N_39 bk_X1_moved_N_118 at h1
    have h1 := Option.some.inj (z_f h1 (by decide))
    rw [← h1]
    exact Or.inl ⟨by show (-3 : Int32) < 0; decide, by rw [c0zz]; decide, hSzz.sc eG (f2zz.I 20 rfl), rfl⟩
  · have h1 := z_f h1 c0zz
    have c1zz := cv_ne (a := (kzz : Int)) (b := 0) tk (by decide) c0zz
    unfold bk_X1_moved_N_39 bk_X1_moved_N_118 at h1
    have h1 := z_t h1 rfl
    unfold bk_X1_moved_N_142 at h1
    have h1 := z_t h1 rfl
    obtain ⟨z3, e3zz, h1⟩ := z_bd h1
    have h1 := Option.some.inj h1
    have nlezz : ¬ gI w2zz 43 ≤ (0 : Int32) := fun qzz => by have qzz := cv_le (a := (kzz : Int)) (b := 0) tk (by decide) qzz; omega
    have rr : ∀ w4zz, f_X9_raceIt w2zz xzz = some w4zz → z3.1 = w4zz.1 ∧ 0 ≤ w4zz.1.toInt ∧ TzM z3.2.1 (gA w4zz.2 3) ∧ RwC n (gA w2zz 3) (gA w4zz.2 3) := fun w4zz k4zz => race_eq (o := w2zz) (n := n) (kzz := kzz) (by rw [eG]; exact hL) (by rw [eG]; exact WtL.of hI hMzz) (by rw [eG]; exact hMzz) ((f2zz.I 20 rfl).trans h20) (by rw [eG]; exact en) eR hR hTzz.lne (by omega) hkn e3zz k4zz
    rw [← h1]
    refine Or.inr ⟨?_, nlezz, fun w4zz k4zz => ?_⟩
    ·
      show ¬ z3.1 < (0 : Int32)
      exact held_nn hTzz.lne (by omega) e3zz
    · obtain ⟨-, -, r3, r4⟩ := rr w4zz k4zz
      rw [eG] at r4
      exact ⟨hSzz.mv r4 r3 (((fr_f_X9_raceIt k4zz).I 20 rfl).trans (f2zz.I 20 rfl)), r4, (fr_f_X1_heldRace e3zz).1.I 4 rfl⟩
set_option maxHeartbeats 200000 in
theorem setIsl_lp {pl : List CR} {a0zz a0n : Ob} {yzz : Ob × Ob} : ∀ (Nzz : Nat) (vzz : Int32) (o onzz : Ob) (izz : Nat), vzz.toInt = (izz : Int) → izz ≤ 6 → lp_X2_set_O_88 pl a0zz a0n Nzz (vzz, o, onzz) = some yzz → yzz.2 = onzz ∧ (gI yzz.1 7 = gI a0zz 7 ∧ gI yzz.1 8 = gI a0zz 8 ∧ gI yzz.1 9 = gI a0zz 9 ∧ gI yzz.1 10 = gI a0zz 10 ∧ gI yzz.1 11 = gI a0zz 11 ∧ gI yzz.1 12 = gI a0zz 12) ∧ (∀ kzz, gA yzz.1 kzz = gA o kzz) ∧ (∀ jzz, izz ≤ jzz → jzz < 6 → gR yzz.1 6 jzz = gR a0zz 6 jzz) ∧ (∀ jzz, jzz < izz → gR yzz.1 6 jzz = gR o 6 jzz) := by
  intro Nzz
  induction Nzz with
  | zero => intro vzz o onzz izz _ _ hzz; cases hzz
  | succ Nzz ihzz =>
    intro vzz o onzz izz evzz hizz hzz
    have hzz : lb_X2_set_O_88 pl a0zz a0n (lp_X2_set_O_88 pl a0zz a0n Nzz) vzz o onzz = some yzz := hzz
    unfold lb_X2_set_O_88 at hzz
    rcases z_if hzz with ⟨czz, hzz⟩ | ⟨czz, hzz⟩
    · have czz := cv_le (a := 6) (b := (izz : Int)) (by decide) evzz czz
      obtain ⟨o12, e12zz, hzz⟩ := z_lt hzz
      obtain ⟨o13, e13zz, hzz⟩ := z_lt hzz
      obtain ⟨o14, e14zz, hzz⟩ := z_lt hzz
      obtain ⟨o15, e15zz, hzz⟩ := z_lt hzz
      obtain ⟨o16, e16zz, hzz⟩ := z_lt hzz
      obtain ⟨o17, e17zz, hzz⟩ := z_lt hzz
      have hzz := Option.some.inj hzz
      subst e12zz e13zz e14zz e15zz e16zz e17zz hzz
      exact ⟨rfl, ⟨rfl, rfl, rfl, rfl, rfl, rfl⟩, fun _ => rfl, fun jzz h1 h2 => absurd h1 (by omega), fun jzz _ => rfl⟩
    · have czz := cv_nle (a := 6) (b := (izz : Int)) (by decide) evzz czz
      have ivzz : vzz.toNatClampNeg = izz := tnc_eq evzz
      rw [ivzz] at hzz
      have hzz := (z_gd (z_gd (z_gd hzz).2).2).2
      obtain ⟨o21, e21zz, hzz⟩ := z_lt hzz
      obtain ⟨x22, e22zz, hzz⟩ := z_lt hzz
      obtain ⟨r1zz, r2, r3, r4, r5zz⟩ := ihzz x22 o21 onzz (izz + 1) (by rw [e22zz]; exact Eq.trans (i32_add evzz (by decide : (1 : Int32).toInt = 1) (by omega) (by omega)) (by omega)) (by omega) hzz
      have aR : ∀ jzz, gR o21 6 jzz = if jzz = izz then gR a0zz 6 izz else gR o 6 jzz := fun jzz => by rw [e21zz]; rfl
      refine ⟨r1zz, r2, fun kzz => (r3 kzz).trans (by rw [e21zz]; rfl), fun jzz h1 h2 => ?_, fun jzz hj => ?_⟩
      · by_cases d : jzz = izz
        · rw [r5zz jzz (by omega), aR, if_pos d, d]
        · exact r4 jzz (by omega) h2
      · rw [r5zz jzz (by omega), aR, if_neg (by omega)]
set_option maxHeartbeats 200000 in
theorem cpyZ {fzz gzz : Nat → Int32} {n jzz : Nat} (hj : jzz < n) : va_cpy fzz gzz 0 0 n jzz = fzz jzz := by
  show (if 0 ≤ jzz ∧ jzz < 0 + n then fzz (0 + (jzz - 0)) else gzz jzz) = fzz jzz
  rw [if_pos (by omega), Nat.zero_add, Nat.sub_zero]
set_option maxHeartbeats 200000 in
theorem setIsl {pl : List CR} {o onzz a0zz a0n : Ob} {yzz : Ob × Ob} (hzz : f_X2_set_O o onzz pl a0zz a0n = some yzz) : f_X4_set_O onzz a0n = some yzz.2 ∧ (gI yzz.1 7 = gI a0zz 7 ∧ gI yzz.1 8 = gI a0zz 8 ∧ gI yzz.1 9 = gI a0zz 9 ∧ gI yzz.1 10 = gI a0zz 10 ∧ gI yzz.1 11 = gI a0zz 11 ∧ gI yzz.1 12 = gI a0zz 12) ∧ (∀ jzz, jzz < 7 → gA yzz.1 1 jzz = gA a0zz 1 jzz) ∧ (∀ jzz, jzz < 28 → gA yzz.1 2 jzz = gA a0zz 2 jzz) ∧ (∀ jzz, jzz < 7 → gA yzz.1 3 jzz = gA a0zz 3 jzz) ∧ (∀ jzz, jzz < 6 → gA yzz.1 4 jzz = gA a0zz 4 jzz) ∧ (∀ jzz, jzz < 6 → gA yzz.1 5 jzz = gA a0zz 5 jzz) ∧ (∀ jzz, jzz < 6 → gR yzz.1 6 jzz = gR a0zz 6 jzz) := by
  have n0zz : (0 : Int32).toNatClampNeg = 0 := by decide
  have n6zz : (6 : Int32).toNatClampNeg = 6 := by decide
  have n7 : (7 : Int32).toNatClampNeg = 7 := by decide
  have n28zz : (28 : Int32).toNatClampNeg = 28 := by decide
  unfold f_X2_set_O at hzz
  obtain ⟨z1, e1zz, hzz⟩ := z_bd hzz
  have hzz := (z_gd hzz).2
  obtain ⟨o3zz, e3zz, hzz⟩ := z_lt hzz
  have hzz := (z_gd hzz).2
  obtain ⟨o5zz, e5zz, hzz⟩ := z_lt hzz
  have hzz := (z_gd hzz).2
  obtain ⟨o7, e7zz, hzz⟩ := z_lt hzz
  have hzz := (z_gd hzz).2
  obtain ⟨o9, e9zz, hzz⟩ := z_lt hzz
  have hzz := (z_gd hzz).2
  obtain ⟨o11, e11zz, hzz⟩ := z_lt hzz
  unfold cA at e3zz e5zz e7zz e9zz e11zz
  rw [n0zz, n7] at e3zz e7zz
  rw [n0zz, n28zz] at e5zz
  rw [n0zz, n6zz] at e9zz e11zz
  obtain ⟨r1zz, r2, r3, r4, -⟩ := setIsl_lp zfu 0 o11 z1 0 (by decide) (Nat.zero_le _) hzz
  refine ⟨by rw [r1zz]; exact e1zz, r2, fun jzz hj => ?_, fun jzz hj => ?_, fun jzz hj => ?_, fun jzz hj => ?_, fun jzz hj => ?_, fun jzz hj => r4 jzz (Nat.zero_le _) hj⟩
  · rw [r3, e11zz, e9zz, e7zz, e5zz, e3zz]; exact cpyZ hj
  · rw [r3, e11zz, e9zz, e7zz, e5zz]; exact cpyZ hj
  · rw [r3, e11zz, e9zz, e7zz]; exact cpyZ hj
  · rw [r3, e11zz, e9zz]; exact cpyZ hj
  · rw [r3, e11zz]; exact cpyZ hj
set_option maxHeartbeats 200000 in
theorem lawAt_c {azz bzz : Ob} {pzz : Int32} (e9zz : gI bzz 9 = gI azz 9) (eR : ∀ jzz, jzz < 6 → gR bzz 6 jzz = gR azz 6 jzz) : f_X2_lawAt bzz pzz = f_X2_lawAt azz pzz := by
  unfold f_X2_lawAt f_X2_isLaw
  rw [e9zz]
  by_cases czz : zin pzz 6 = true
  · have hv := z_in czz
    have wzz : gR bzz 6 pzz.toNatClampNeg = gR azz 6 pzz.toNatClampNeg := eR _ (by
      have qzz : 0 ≤ pzz.toInt ∧ pzz.toInt < 6 := of_decide_eq_true czz
      have ezz : pzz.toNatClampNeg = pzz.toInt.toNat := rfl
      omega)
    rw [wzz]
  · have czz : zin pzz 6 = false := by
      cases qzz : zin pzz 6 with
      | false => rfl
      | true => exact absurd qzz czz
    rw [czz]
    rfl
set_option maxHeartbeats 200000 in
theorem lawF_c {azz bzz : Ob} (e9zz : gI bzz 9 = gI azz 9) (e10zz : gI bzz 10 = gI azz 10) (eR : ∀ jzz, jzz < 6 → gR bzz 6 jzz = gR azz 6 jzz) : f_X2_lawInForce bzz = f_X2_lawInForce azz := by
  unfold f_X2_lawInForce
  rw [e10zz, lawAt_c e9zz eR]
def dC61 : DD := ([], [], [61], [], [])
set_option maxHeartbeats 200000 in
theorem cen195 {yzz : Int32 × Ob} {rzz : Int32} : ∀ (Nzz : Nat) (vzz : Int32) (o : Ob) (izz : Nat), vzz.toInt = (izz : Int) → izz ≤ 25 → lp_X9_centuries_195 Nzz (rzz, vzz, o) = some yzz → ∃ o1 z8 z9, f_X9_putBack (sI o1 62 (gA o1 3 0)) 16 = some z8 ∧ f_X9_tell z8 rzz = some z9 ∧ yzz = (z9.1, z9.2) ∧ (∀ jzz, gA o1 61 jzz = if izz ≤ jzz ∧ jzz < 25 then gA o 3 (4 + jzz) else gA o 61 jzz) ∧ FrX dC61 o o1 := by
  intro Nzz
  induction Nzz with
  | zero => intro vzz o izz _ _ hzz; cases hzz
  | succ Nzz ihzz =>
    intro vzz o izz evzz hizz hzz
    have n0zz : (0 : Int32).toNatClampNeg = 0 := by decide
    have hzz : lb_X9_centuries_195 (lp_X9_centuries_195 Nzz) rzz vzz o = some yzz := hzz
    unfold lb_X9_centuries_195 at hzz
    rcases z_if hzz with ⟨czz, hzz⟩ | ⟨czz, hzz⟩
    · have czz := cv_le (a := 25) (b := (izz : Int)) (by decide) evzz czz
      rw [n0zz] at hzz
      obtain ⟨o7, e7zz, hzz⟩ := z_lt hzz
      obtain ⟨z8, e8, hzz⟩ := z_bd hzz
      obtain ⟨z9, e9zz, hzz⟩ := z_bd hzz
      rw [e7zz] at e8
      exact ⟨o, z8, z9, e8, e9zz, (Option.some.inj hzz).symm, fun jzz => by rw [if_neg (by omega)], FrX.rf⟩
    · have czz := cv_nle (a := 25) (b := (izz : Int)) (by decide) evzz czz
      have i1zz : ((4 : Int32) + vzz).toNatClampNeg = 4 + izz := tnc_eq (by rw [i32_add (by decide : (4 : Int32).toInt = 4) evzz (by omega) (by omega)]; omega)
      have ivzz : vzz.toNatClampNeg = izz := tnc_eq evzz
      rw [i1zz, ivzz] at hzz
      have hzz := (z_gd (z_gd hzz).2).2
      obtain ⟨o12, e12zz, hzz⟩ := z_lt hzz
      obtain ⟨x13, e13zz, hzz⟩ := z_lt hzz
      obtain ⟨o1, z8, z9, k8zz, k9, ky, r1zz, r2⟩ := ihzz x13 o12 (izz + 1) (by rw [e13zz]; exact Eq.trans (i32_add evzz (by decide : (1 : Int32).toInt = 1) (by omega) (by omega)) (by omega)) (by omega) hzz
      have a1zz : ∀ jzz, gA o12 61 jzz = if jzz = izz then gA o 3 (4 + izz) else gA o 61 jzz := fun jzz => by rw [e12zz]; rfl
      have a3 : gA o12 3 = gA o 3 := by rw [e12zz]; rfl
      refine ⟨o1, z8, z9, k8zz, k9, ky, fun jzz => ?_, FrX.tr (by rw [e12zz]; exact FrX.tA FrX.rf rfl) r2⟩
      rw [r1zz, a3, a1zz]
      by_cases d : jzz = izz
      · rw [if_neg (by omega), if_pos d, if_pos (by omega), d]
      · by_cases d2zz : izz ≤ jzz ∧ jzz < 25
        · rw [if_pos (by omega), if_pos d2zz]
        · rw [if_neg (by omega), if_neg d, if_neg d2zz]
set_option maxHeartbeats 200000 in
theorem draw_fr {o : Ob} {pzz : Int32} {wzz : Int32 × Ob} (hzz : f_X9_draw o pzz = some wzz) : FrX dCe o wzz.2 := (fr_f_X9_draw hzz).mono rfl
set_option maxHeartbeats 200000 in
theorem cen_lp {pl : List CR} {pp isl mvI : Ob} {n : Nat} {qzz : Int32} {yzz : Int32 × Ob × Ob × Ob × Ob × Ob} {y' : Int32 × Ob} (e7zz : gI isl 7 = gI pp 7) (hn : 1 ≤ n) (hq : qzz.toInt ≤ 60) :
    ∀ (Nzz N' : Nat) (s v4zz v5 : Int32) (o8zz mezz pm czz o : Ob) (izz rzz : Nat), DrT s o → v5.toInt = (izz : Int) → v4zz.toInt = (rzz : Int) → rzz ≤ izz → izz ≤ 60 → TzN pl pp pm o n → lp_X8_centuries_64 isl mvI pl Nzz (qzz, s, v4zz, v5, o8zz, mezz, pp, pm, czz) = some yzz → lp_X9_centuries_68 N' (qzz, v4zz, v5, o) = some y' →
      ∃ (r' : Int32) (pm' o' me' c' : Ob), bk_X8_centuries_194 isl mvI pl r' o8zz me' pp pm' c' = some yzz ∧ bk_X9_centuries_192 r' o' = some y' ∧ TzN pl pp pm' o' n ∧ RwC n (gA o 3) (gA o' 3) ∧ 0 ≤ r'.toInt ∧ FrX dCe o o' := by
  intro Nzz
  induction Nzz with
  | zero => intro N' s v4zz v5 o8zz mezz pm czz o izz rzz _ _ _ _ _ _ h1; cases h1
  | succ Nzz ihzz =>
    intro N' s v4zz v5 o8zz mezz pm czz o izz rzz hD e5zz e4zz hri hi60 hSzz h1 h2
    cases N' with
    | zero => cases h2
    | succ N' =>
    have h1 : lb_X8_centuries_64 isl mvI pl (lp_X8_centuries_64 isl mvI pl Nzz) qzz s v4zz v5 o8zz mezz pp pm czz = some yzz := h1
    have h2 : lb_X9_centuries_68 (lp_X9_centuries_68 N') qzz v4zz v5 o = some y' := h2
    obtain ⟨hI, hMzz, hL, h20, en⟩ := id hSzz
    have hn7 : n ≤ 7 := by have := hI.1.2.2; omega
    have n0zz : (0 : Int32).toNatClampNeg = 0 := by decide
    have n4zz : (4 : Int32).toNatClampNeg = 4 := by decide
    unfold lb_X8_centuries_64 at h1
    unfold lb_X9_centuries_68 at h2
    rw [n0zz, n4zz] at h2
    rw [hMzz.2.2.2.1.1] at h1
    by_cases c0zz : qzz ≤ v5
    · exact ⟨v4zz, pm, o, mezz, czz, z_t h1 c0zz, z_t h2 c0zz, hSzz, RwC.rf, by omega, FrX.rf⟩
    · have h1 := z_f h1 c0zz
      have h2 := z_f h2 c0zz
      have c0' := cv_nle (a := qzz.toInt) (b := (izz : Int)) rfl e5zz c0zz
      by_cases c1zz : (999 : Int32) ≤ gA o 3 4
      · exact ⟨v4zz, pm, o, mezz, czz, z_t h1 c1zz, z_t h2 c1zz, hSzz, RwC.rf, by omega, FrX.rf⟩
      · have h1 := z_f h1 c1zz
        have h2 := z_f h2 c1zz
        have c1' := cv_nle (a := 999) (b := (gA o 3 4).toInt) (by decide) rfl c1zz
        obtain ⟨z4, k4zz, h1⟩ := z_bd h1
        obtain ⟨z5, k5zz, h1⟩ := z_bd h1
        obtain ⟨z6, k6zz, h1⟩ := z_bd h1
        obtain ⟨w14zz, l14, h2⟩ := z_bd h2
        obtain ⟨w15, l15, h2⟩ := z_bd h2
        obtain ⟨w16, l16, h2⟩ := z_bd h2
        obtain ⟨D1, p1zz, p2zz, p3zz, p4zz, p5zz⟩ := draw_eq hD en (by omega) k4zz l14
        obtain ⟨D2, q1zz, q2zz, q3zz, q4zz, q5zz⟩ := draw_eq (Pzz := 4) D1 (by decide) (by decide) k5zz l15
        obtain ⟨D3, t1zz, t2zz, t3zz, t4zz, t5zz⟩ := draw_eq (Pzz := 4) D2 (by decide) (by decide) k6zz l16
        have F16 : FrX dCe o w16.2 := ((draw_fr l14).tr (draw_fr l15)).tr (draw_fr l16)
        have e3zz : gA w16.2 3 = gA o 3 := by rw [t4zz, q4zz, p4zz]
        have e20 : gI w16.2 20 = gI o 20 := by rw [t5zz, q5zz, p5zz]
        have hS16 : TzN pl pp pm w16.2 n := hSzz.sc e3zz e20
        rw [← t1zz] at h1
        obtain ⟨Pzz, eP⟩ : ∃ Pzz : Nat, w14zz.1.toInt = (Pzz : Int) := ⟨w14zz.1.toInt.toNat, by omega⟩
        obtain ⟨R, eR⟩ : ∃ R : Nat, w15.1.toInt = (R : Int) := ⟨w15.1.toInt.toNat, by omega⟩
        have ePe : z4 - z4 / gI isl 7 * gI isl 7 = w14zz.1 := by
          have : gI isl 7 = gA o 3 0 := e7zz.trans hI.1.1
          rw [this]; exact p1zz.symm
        have gozz : ∀ (v4' : Int32) (r' : Nat) (me' pm' c' o' : Ob), v4'.toInt = (r' : Int) → r' ≤ izz + 1 → TzN pl pp pm' o' n → gI pm' 4 = gI pm 4 → RwC n (gA o 3) (gA o' 3) → gL o' 60 = gL w16.2 60 → FrX dCe o o' → bk_X8_centuries_177 isl mvI pl (lp_X8_centuries_64 isl mvI pl Nzz) qzz z6 v4' v5 o8zz me' pp pm' c' = some yzz → bk_X9_centuries_181 (lp_X9_centuries_68 N') qzz v4' v5 o' = some y' →
            ∃ (r'' : Int32) (pm'' o'' me'' c'' : Ob), bk_X8_centuries_194 isl mvI pl r'' o8zz me'' pp pm'' c'' = some yzz ∧ bk_X9_centuries_192 r'' o'' = some y' ∧ TzN pl pp pm'' o'' n ∧ RwC n (gA o 3) (gA o'' 3) ∧ 0 ≤ r''.toInt ∧ FrX dCe o o'' := by
          intro v4' r' me' pm' c' o' er hr hS' ey hw' e60 F' h1 h2
          unfold bk_X8_centuries_177 at h1
          unfold bk_X9_centuries_181 at h2
          obtain ⟨z9, k9, h1⟩ := z_bd h1
          obtain ⟨x10, g10, h1⟩ := z_lt h1
          obtain ⟨w17, l17, h2⟩ := z_bd h2
          obtain ⟨x18, g18, h2⟩ := z_lt h2
          have qx : x18 = x10 := g18.trans g10.symm
          rw [qx] at h2
          have hyy : (gA o' 3 4).toInt < 999 := by
            rw [← hS'.2.1.2.2.2.1.1, ey, hMzz.2.2.2.1.1]; omega
          obtain ⟨u1zz, u2zz⟩ := pap_pass hS' hyy k9 l17
          have f17zz := fr_f_X9_passIt l17
          have D' : DrT z6 w17.2 := ⟨by rw [f17zz.L 60 rfl, e60]; exact D3.1, D3.2⟩
          obtain ⟨r2, pm2, o2, me2, c2zz, a1zz, a2, a3, a4, a5, a6⟩ := ihzz N' z6 v4' x10 o8zz z9.2.2.2 z9.2.2.1 z9.2.1 w17.2 (izz + 1) r' D' (by rw [g10]; exact Eq.trans (i32_add e5zz (by decide : (1 : Int32).toInt = 1) (by omega) (by omega)) (by omega)) er hr (by omega) u1zz h1 h2
          exact ⟨r2, pm2, o2, me2, c2zz, a1zz, a2, a3, (hw'.tr u2zz).tr a4, a5, (F'.tr (f17zz.mono rfl)).tr a6⟩
        by_cases c2zz : (2 : Int32) ≤ w16.1
        · have h1 := z_t h1 c2zz
          have h2 := z_t h2 c2zz
          unfold bk_X9_centuries_140 at h2
          by_cases c3zz : w16.1 = 2
          ·
            have h1 := z_t h1 c3zz
            have h2 := z_t h2 c3zz
            unfold bk_X8_centuries_128 at h1
            have h1 := z_t h1 rfl
            rw [← q1zz] at h1
            unfold bk_X8_centuries_158 at h1
            obtain ⟨z8, k8zz, h1⟩ := z_bd h1
            have h1 := z_t h1 rfl
            obtain ⟨w20, l20, h2⟩ := z_bd h2
            have f20zz := fr_f_X9_layPlaces l20
            have r0 : RwC n (gA o 3) (gA w20 3) := by rw [f20zz.A 3 rfl, e3zz]; exact RwC.rf
            rcases pap_race hS16 eR (by omega) k8zz l20 with ⟨u1zz, u2zz, u3, u4zz⟩ | ⟨u1zz, u2zz, u3⟩
            · have h1 := z_t h1 u1zz
              have h2 := z_t h2 u2zz
              unfold bk_X9_centuries_169 at h2
              have h2 := z_f h2 (by rw [c3zz]; decide)
              exact gozz v4zz rzz _ _ _ _ e4zz (by omega) u3 u4zz r0 (f20zz.L 60 rfl) (F16.tr (f20zz.mono rfl)) h1 h2
            · have h1 := z_f h1 u1zz
              have h2 := z_f h2 u2zz
              obtain ⟨x11, g11, h1⟩ := z_lt h1
              obtain ⟨w21, l21, h2⟩ := z_bd h2
              obtain ⟨x22, g22, h2⟩ := z_lt h2
              have f21 := fr_f_X9_raceIt l21
              have qx : x22 = x11 := g22.trans g11.symm
              rw [qx] at h2
              obtain ⟨a1zz, a2, a3⟩ := u3 w21 l21
              rw [e3zz] at a2
              unfold bk_X9_centuries_169 at h2
              have h2 := z_f h2 (by rw [c3zz]; decide)
              exact gozz x11 (rzz + 1) _ _ _ _ (by rw [g11]; exact Eq.trans (i32_add e4zz (by decide : (1 : Int32).toInt = 1) (by omega) (by omega)) (by omega)) (by omega) a1zz a3 a2 ((f21.L 60 rfl).trans (f20zz.L 60 rfl)) ((F16.tr (f20zz.mono rfl)).tr (f21.mono rfl)) h1 h2
          ·
            have h1 := z_f h1 c3zz
            have h2 := z_f h2 c3zz
            have c4zz : w16.1 = 3 := by
              have azz := cv_le (a := 2) (b := w16.1.toInt) (by decide) rfl c2zz
              have bzz := cv_ne (a := w16.1.toInt) (b := 2) rfl (by decide) c3zz
              exact Int32.toInt_inj.mp (by rw [(by decide : (3 : Int32).toInt = 3)]; omega)
            unfold bk_X9_centuries_169 at h2
            have h2 := z_t h2 c4zz
            obtain ⟨w19, l19, h2⟩ := z_bd h2
            have f19 := fr_f_X9_takeIt l19
            unfold bk_X8_centuries_128 at h1
            have h1 := (z_gd (z_f h1 (by decide))).2
            rw [ePe] at h1
            unfold bk_X8_centuries_158 at h1
            obtain ⟨z8, k8zz, h1⟩ := z_bd h1
            have h1 := z_f h1 (by decide)
            obtain ⟨a1zz, a2, a3⟩ := pap_take hS16 eP (by omega) k8zz l19
            rw [e3zz] at a2
            exact gozz v4zz rzz _ _ _ _ e4zz (by omega) a1zz a3 a2 (f19.L 60 rfl) (F16.tr (f19.mono rfl)) h1 h2
        ·
          have h1 := z_f h1 c2zz
          have h2 := z_f h2 c2zz
          have i22 : ((22 : Int32) + w14zz.1).toNatClampNeg = 22 + Pzz := tnc_eq (by rw [i32_add (by decide : (22 : Int32).toInt = 22) eP (by omega) (by omega)]; omega)
          rw [i22] at h2
          have h2 := (z_gd (z_gd h2).2).2
          obtain ⟨o25, g25, h2⟩ := z_lt h2
          unfold bk_X8_centuries_128 at h1
          have h1 := (z_gd (z_f h1 (by decide))).2
          rw [ePe] at h1
          unfold bk_X8_centuries_158 at h1
          obtain ⟨z8, k8zz, h1⟩ := z_bd h1
          have h1 := z_f h1 (by decide)
          have n2zz : ¬ w16.1 = 2 := fun zzz => c2zz (by rw [zzz]; decide)
          have n3zz : ¬ w16.1 = 3 := fun zzz => c2zz (by rw [zzz]; decide)
          unfold bk_X9_centuries_140 at h2
          have h2 := z_f h2 n2zz
          unfold bk_X9_centuries_169 at h2
          have h2 := z_f h2 n3zz
          obtain ⟨a1zz, a2, a3⟩ := pap_enter (o5zz := o25) hS16 eP (by omega) k8zz (by rw [g25]; rfl) (by rw [g25]; rfl)
          rw [e3zz] at a2
          exact gozz v4zz rzz _ _ _ _ e4zz (by omega) a1zz a3 a2 (by rw [g25]; rfl) (F16.tr (by rw [g25]; exact FrX.tA FrX.rf rfl)) h1 h2
def drA (o : Ob) : Nat → Int32 := fun jzz => gA o 61 (jzz - 4)
def PpT (pp pm o : Ob) : Prop := ((gI o 62 = gI pp 7 ∧ 0 ≤ (gI pp 7).toInt ∧ (gI pp 7).toInt ≤ 7) ∨ (gI o 62 = -1 ∧ gI pp 7 = 0)) ∧ TzM pm (drA o)
set_option maxHeartbeats 200000 in
theorem PpT.eq {pp pm o o' : Ob} (hzz : PpT pp pm o) (ezz : gI o' 62 = gI o 62) (e1zz : gA o' 61 = gA o 61) : PpT pp pm o' := by
  unfold PpT drA
  rw [ezz, e1zz]; exact hzz
set_option maxHeartbeats 200000 in
theorem cent_eq {pl : List CR} {isl mv pa mezz pp pm czz o8zz o : Ob} {n : Nat} {p0zz p1zz : Int32} {yzz : Int32 × Ob × Ob × Ob × Ob × Ob} {y' : Int32 × Ob} (hSzz : TzS pl isl mv pa o n) (hst : StT o8zz o) (hpp : PpT pp pm o) (h1 : f_X8_centuries o8zz mezz isl mv pp pm czz pl p0zz p1zz = some yzz) (h2 : f_X9_centuries o p0zz p1zz = some y') : yzz.1 = y'.1 ∧ TzS pl isl mv pa y'.2 n ∧ gA y'.2 3 = gA o 3 ∧ StT yzz.2.1 y'.2 ∧ PpT yzz.2.2.2.1 yzz.2.2.2.2.1 y'.2 := by
  obtain ⟨hI, hMzz, hP, hL, h20, en, hZ⟩ := id hSzz
  have hn7 : n ≤ 7 := by have := hI.1.2.2; omega
  have n0zz : (0 : Int32).toNatClampNeg = 0 := by decide
  unfold f_X8_centuries at h1
  unfold f_X9_centuries at h2
  rw [n0zz] at h2
  obtain ⟨o1, g1, h2⟩ := z_lt h2
  have A1 : ∀ izz, gA o1 izz = gA o izz := fun izz => by rw [g1]; rfl
  have hS1 : TzS pl isl mv pa o1 n := hSzz.sc (A1 3) (by rw [g1]; rfl) (A1 6) (A1 7) (by rw [g1]; rfl)
  have hst1 : StT o8zz o1 := hst.eq rfl rfl (by rw [g1]; rfl) (A1 2)
  have hpp1 : PpT pp pm o1 := hpp.eq (by rw [g1]; rfl) (A1 61)
  have no1 : bk_X8_centuries_22 isl mv pl o8zz mezz pp pm czz = some yzz → bk_X9_centuries_29 o1 = some y' → yzz.1 = y'.1 ∧ TzS pl isl mv pa y'.2 n ∧ gA y'.2 3 = gA o 3 ∧ StT yzz.2.1 y'.2 ∧ PpT yzz.2.2.2.1 yzz.2.2.2.2.1 y'.2 := by
    intro h1 h2
    unfold bk_X8_centuries_22 at h1
    unfold bk_X9_centuries_29 at h2
    obtain ⟨z1, k1zz, h1⟩ := z_bd h1
    obtain ⟨z3, k3zz, h2⟩ := z_bd h2
    have h1 := Option.some.inj h1
    have h2 := Option.some.inj h2
    obtain ⟨s1zz, s2zz, s3zz⟩ := st_refuse hst1 (Or.inl rfl) k1zz k3zz
    have ft := fr_f_X9_tell k3zz
    rw [← h1, ← h2]
    exact ⟨s1zz.trans s2zz.symm, hS1.sc (ft.A 3 rfl) (ft.I 8 rfl) (ft.A 6 rfl) (ft.A 7 rfl) (ft.I 20 rfl), (ft.A 3 rfl).trans (A1 3), s3zz, hpp1.eq (ft.I 62 rfl) (ft.A 61 rfl)⟩
  obtain ⟨z2, k2zz, h2⟩ := z_bd h2
  have in2 := in9 (m := 0) (n := 1000000) (by decide) (by decide) k2zz
  by_cases c0zz : p0zz < 0
  · have c0' := cv_lt (a := p0zz.toInt) (b := 0) rfl (by decide) c0zz
    rcases in2 with ⟨uzz, -⟩ | ⟨-, uzz⟩
    · exact no1 (z_t h1 c0zz) (z_t h2 uzz)
    · omega
  have h1 := z_f h1 c0zz
  have c0' := cv_nlt (a := p0zz.toInt) (b := 0) rfl (by decide) c0zz
  by_cases c1zz : (1000000 : Int32) < p0zz
  · have c1' := cv_lt (a := 1000000) (b := p0zz.toInt) (by decide) rfl c1zz
    rcases in2 with ⟨uzz, -⟩ | ⟨-, uzz⟩
    · exact no1 (z_t h1 c1zz) (z_t h2 uzz)
    · omega
  have h1 := z_f h1 c1zz
  have c1' := cv_nlt (a := 1000000) (b := p0zz.toInt) (by decide) rfl c1zz
  have u2zz : ¬ z2 = 0 := by
    rcases in2 with ⟨-, uzz⟩ | ⟨uzz, -⟩
    · exact absurd ⟨c0', c1'⟩ uzz
    · exact uzz
  have h2 := z_f h2 u2zz
  obtain ⟨z4, k4zz, h2⟩ := z_bd h2
  have in4 := in9 (m := 1) (n := 60) (by decide) (by decide) k4zz
  by_cases c2zz : p1zz < 1
  · have c2' := cv_lt (a := p1zz.toInt) (b := 1) rfl (by decide) c2zz
    rcases in4 with ⟨uzz, -⟩ | ⟨-, uzz⟩
    · exact no1 (z_t h1 c2zz) (z_t h2 uzz)
    · omega
  have h1 := z_f h1 c2zz
  have c2' := cv_nlt (a := p1zz.toInt) (b := 1) rfl (by decide) c2zz
  by_cases c3zz : p1zz ≤ 60
  · have h1 := z_t h1 c3zz
    have c3' := cv_le (a := p1zz.toInt) (b := 60) rfl (by decide) c3zz
    have u4zz : ¬ z4 = 0 := by
      rcases in4 with ⟨-, uzz⟩ | ⟨uzz, -⟩
      · exact absurd ⟨c2', c3'⟩ uzz
      · exact uzz
    have h2 := z_f h2 u4zz
    rw [A1, ← hI.1.1] at h2
    by_cases c4zz : gI isl 7 = 0
    · have h1 := z_t h1 c4zz
      have h2 := z_t h2 c4zz
      obtain ⟨z12, k12, h1⟩ := z_bd h1
      obtain ⟨z26, k26, h2⟩ := z_bd h2
      have h1 := Option.some.inj h1
      have h2 := Option.some.inj h2
      obtain ⟨s1zz, s2zz, s3zz⟩ := st_refuse hst1 (Or.inr (Or.inr (Or.inl rfl))) k12 k26
      have ft := fr_f_X9_tell k26
      rw [← h1, ← h2]
      exact ⟨s1zz.trans s2zz.symm, hS1.sc (ft.A 3 rfl) (ft.I 8 rfl) (ft.A 6 rfl) (ft.A 7 rfl) (ft.I 20 rfl), (ft.A 3 rfl).trans (A1 3), s3zz, hpp1.eq (ft.I 62 rfl) (ft.A 61 rfl)⟩
    · have h1 := z_f h1 c4zz
      have h2 := z_f h2 c4zz
      have hn1 : 1 ≤ n := by
        have := cv_ne (a := (n : Int)) (b := 0) (by rw [hI.1.1]; exact en) (by decide) c4zz
        omega
      obtain ⟨zs, kszz, h1⟩ := z_bd h1
      obtain ⟨z5, k5zz, h2⟩ := z_bd h2
      obtain ⟨o6, g6, h2⟩ := z_lt h2
      obtain ⟨sm4, ⟨i7zz, i8zz, i9zz, i10zz, i11zz, i12zz⟩, -, a2, -, -, -, aR⟩ := setIsl kszz
      obtain ⟨m0zz, m1zz, m2zz, m3zz, m4zz⟩ := setM sm4
      have f5zz := fr_f_X9_keepAll k5zz
      unfold f_X9_keepAll at k5zz
      have d5zz := keepAll_lp (mzz := 16) (by decide) (by decide) zfu 0 o1 0 (by decide) (Nat.zero_le _) k5zz
      have e63 : gA o6 3 = gA o 3 := by rw [g6]; exact (f5zz.A 3 rfl).trans (A1 3)
      have hSN : TzN pl zs.1 zs.2 o6 n := by
        refine ⟨?_, ?_, ?_, ?_, by rw [e63]; exact en⟩
        · rw [e63]
          exact ⟨by rw [i7zz]; exact hI.1, fun jzz hj => by rw [a2 jzz hj]; exact hI.2.1 jzz hj, by rw [i12zz]; exact hI.2.2⟩
        · rw [e63]
          exact hMzz.ext m0zz m1zz m2zz m3zz m4zz (fun _ _ _ => rfl)
        · rw [e63, lawF_c i9zz i10zz aR]; exact hL
        · rw [g6]; exact (f5zz.I 20 rfl).trans ((by rw [g1]; rfl : gI o1 20 = gI o 20).trans h20)
      have D0 : DrT p0zz o6 := ⟨by rw [g6]; rfl, c0', by omega⟩
      obtain ⟨r', pm', o', me', c', b1, b2, b3, b4, b5, b6⟩ := cen_lp (pl := pl) (pp := zs.1) (isl := isl) (mvI := mv) i7zz.symm hn1 c3' zfu zfu p0zz 0 0 o8zz mezz zs.2 czz o6 0 0 D0 (by decide) (by decide) (Nat.le_refl _) (by decide) hSN h1 h2
      rw [e63] at b4
      unfold bk_X8_centuries_194 at b1
      unfold bk_X9_centuries_192 at b2
      obtain ⟨z3, k3zz, b1⟩ := z_bd b1
      have b1 := Option.some.inj b1
      obtain ⟨q1zz, z8, z9, k8zz, k9, ky, v61, F61⟩ := cen195 zfu 0 o' 0 (by decide) (Nat.zero_le _) b2
      have f8zz := fr_f_X9_putBack k8zz
      have ft := fr_f_X9_tell k9
      unfold f_X9_putBack at k8zz
      have d8zz := putBack_lp (mzz := 16) (by decide) (by decide) zfu 0 (sI q1zz 62 (gA q1zz 3 0)) 0 (by decide) (Nat.zero_le _) k8zz
      have e6zz : ∀ jzz, gA q1zz 6 jzz = if 25 * 16 + 0 ≤ jzz ∧ jzz < 25 * 16 + 25 then gA o 3 (4 + (jzz - 25 * 16)) else gA o 6 jzz := by
        intro jzz
        rw [F61.A 6 rfl, b6.A 6 rfl, g6]
        show gA z5 6 jzz = _
        rw [d5zz, A1, A1]
      have e8 : gA z8 3 = gA o 3 := by
        funext jzz
        rw [d8zz]
        show (if 4 + 0 ≤ jzz ∧ jzz < 29 then gA q1zz 6 (25 * 16 + (jzz - 4)) else gA q1zz 3 jzz) = gA o 3 jzz
        by_cases c5zz : 4 + 0 ≤ jzz ∧ jzz < 29
        · have et : 4 + (25 * 16 + (jzz - 4) - 25 * 16) = jzz := by omega
          rw [if_pos c5zz, e6zz, if_pos (by omega), et]
        · rw [if_neg c5zz, F61.A 3 rfl]
          exact b4 jzz (by omega)
      have st9zz : StT o8zz z8 := hst.eq rfl rfl ((f8zz.I 1 rfl).trans ((F61.I 1 rfl).trans ((b6.I 1 rfl).trans (by rw [g6]; exact (f5zz.I 1 rfl).trans (by rw [g1]; rfl))))) ((f8zz.A 2 rfl).trans ((F61.A 2 rfl).trans ((b6.A 2 rfl).trans (by rw [g6]; exact (f5zz.A 2 rfl).trans (A1 2)))))
      obtain ⟨s1zz, s2zz, s3zz⟩ := st_grant st9zz b5 k3zz k9
      have e67 : gA z9.2 7 = gA o 7 := (ft.A 7 rfl).trans ((f8zz.A 7 rfl).trans ((F61.A 7 rfl).trans ((b6.A 7 rfl).trans (by rw [g6]; exact (f5zz.A 7 rfl).trans (A1 7)))))
      have e68 : gI z9.2 8 = gI o 8 := (ft.I 8 rfl).trans ((f8zz.I 8 rfl).trans ((F61.I 8 rfl).trans ((b6.I 8 rfl).trans (by rw [g6]; exact (f5zz.I 8 rfl).trans (by rw [g1]; rfl)))))
      have e620 : gI z9.2 20 = gI o 20 := (ft.I 20 rfl).trans ((f8zz.I 20 rfl).trans ((F61.I 20 rfl).trans ((b6.I 20 rfl).trans (by rw [g6]; exact (f5zz.I 20 rfl).trans (by rw [g1]; rfl)))))
      have e93zz : gA z9.2 3 = gA o 3 := (ft.A 3 rfl).trans e8
      have e96 : ∀ jzz, jzz < 400 → gA z9.2 6 jzz = gA o 6 jzz := by
        intro jzz hj
        rw [ft.A 6 rfl, f8zz.A 6 rfl]
        show gA q1zz 6 jzz = _
        rw [e6zz, if_neg (by omega)]
      rw [← b1, ky]
      refine ⟨s1zz.trans s2zz.symm, hSzz.mv (by show RwC n (gA o 3) (gA z9.2 3); rw [e93zz]; exact RwC.rf) (by show TzM mv (gA z9.2 3); rw [e93zz]; exact hMzz) ?_ e620, e93zz, s3zz, Or.inl ⟨?_, ?_⟩, ?_⟩
      · show PaT pa z9.2 n (gA z9.2 3)
        rw [e93zz]
        obtain ⟨q0, sz, fi, y1, y2, y3, y4, y5⟩ := hP
        exact ⟨q0.trans e68.symm, sz, fi, y1, y2, y3, y4, fun izz hizz => (y5 izz hizz).mv rfl (fun _ _ => rfl) (by rw [e67]) (fun t ht => e96 _ (by omega)) (fun _ _ => rfl)⟩
      · show gI z9.2 62 = gI zs.1 7
        rw [ft.I 62 rfl, f8zz.I 62 rfl]
        show gA q1zz 3 0 = gI zs.1 7
        rw [F61.A 3 rfl, b4 0 (by omega), i7zz, hI.1.1]
      · show 0 ≤ (gI zs.1 7).toInt ∧ (gI zs.1 7).toInt ≤ 7
        rw [i7zz, hI.1.1]; exact hI.1.2
      · show TzM pm' (drA z9.2)
        refine b3.2.1.ext (fun _ _ => rfl) (fun _ _ => rfl) rfl rfl rfl (fun jzz j1 j2zz => ?_)
        show gA z9.2 61 (jzz - 4) = gA o' 3 jzz
        rw [ft.A 61 rfl, f8zz.A 61 rfl]
        show gA q1zz 61 (jzz - 4) = gA o' 3 jzz
        have et : 4 + (jzz - 4) = jzz := by omega
        rw [v61, if_pos (by omega), et]
  · have h1 := z_f h1 c3zz
    have c3' := cv_nle (a := p1zz.toInt) (b := 60) rfl (by decide) c3zz
    rcases in4 with ⟨uzz, -⟩ | ⟨-, uzz⟩
    · exact no1 h1 (z_t h2 uzz)
    · omega
def TzI (pl : List CR) (isl : Ob) (Gzz : Nat → Int32) : Prop := WiL isl Gzz ∧ (gI isl 9 = Gzz 2 ∧ 0 ≤ (Gzz 2).toInt ∧ (Gzz 2).toInt ≤ 6) ∧ (gI isl 10 = Gzz 3 ∧ -1 ≤ (Gzz 3).toInt ∧ (Gzz 3).toInt < (Gzz 2).toInt) ∧ (gI isl 11 = Gzz 5 ∧ 0 ≤ (Gzz 5).toInt ∧ (Gzz 5).toInt ≤ 10) ∧ (∀ jzz, jzz < 6 → gA isl 4 jzz = Gzz (71 + 2 * jzz) ∧ gA isl 5 jzz = Gzz (72 + 2 * jzz)) ∧ (∀ l : Nat, (l : Int) < (Gzz 2).toInt → ∃ (azz : Nat) (czz : CR), gR isl 6 l = some azz ∧ pfind pl azz = some czz ∧ LwE czz.2.2.2.2.2 Gzz l)
def ZrT (Gzz : Nat → Int32) : Prop := ∀ jzz : Nat, ((15 + (Gzz 0).toInt ≤ (jzz : Int) ∧ jzz < 22) ∨ (22 + (Gzz 0).toInt ≤ (jzz : Int) ∧ jzz < 29)) → Gzz jzz = 0
def Tia (pl : List CR) (isl mv : Ob) (Gzz : Nat → Int32) : Prop := Tis isl Gzz ∧ TzI pl isl Gzz ∧ TzM mv Gzz ∧ ZrT Gzz
set_option maxHeartbeats 200000 in
theorem TzI.at' {pl : List CR} {isl : Ob} {Gzz : Nat → Int32} {pzz : Int32} {zzz : Option Nat} (hzz : TzI pl isl Gzz) (hp : pzz = -1 ∨ (0 ≤ pzz.toInt ∧ pzz.toInt < (Gzz 2).toInt)) (ezz : f_X2_lawAt isl pzz = some zzz) : LwP pl zzz Gzz pzz := by
  unfold f_X2_lawAt at ezz
  obtain ⟨z1, e1zz, ezz⟩ := z_bd ezz
  unfold f_X2_isLaw at e1zz
  rw [hzz.2.1.1] at e1zz
  rcases hp with hp | hp
  · subst hp
    have e1zz := Option.some.inj (z_t e1zz (by decide))
    exact Or.inl ⟨rfl, (Option.some.inj (z_t ezz e1zz.symm)).symm⟩
  · have e1zz := z_f e1zz (fun qzz => by have qzz := cv_lt (a := pzz.toInt) (b := 0) rfl (by decide) qzz; omega)
    have e1zz := Option.some.inj (z_f e1zz (fun qzz => by have qzz := cv_le (a := (Gzz 2).toInt) (b := pzz.toInt) rfl rfl qzz; omega))
    have ezz := Option.some.inj (z_gd (z_f ezz (by rw [← e1zz]; decide))).2
    obtain ⟨l, el⟩ : ∃ l : Nat, pzz.toInt = (l : Int) := ⟨pzz.toInt.toNat, by omega⟩
    have il : pzz.toNatClampNeg = l := tnc_eq el
    rw [il] at ezz
    obtain ⟨azz, czz, r1zz, r2, r3⟩ := hzz.2.2.2.2.2 l (by omega)
    have := hzz.2.1.2.2
    exact Or.inr ⟨l, azz, czz, by omega, el, ezz.symm.trans r1zz, r2, r3⟩
set_option maxHeartbeats 200000 in
theorem TzI.inf {pl : List CR} {isl : Ob} {Gzz : Nat → Int32} {zzz : Option Nat} (hzz : TzI pl isl Gzz) (ezz : f_X2_lawInForce isl = some zzz) : LwP pl zzz Gzz (Gzz 3) := by
  unfold f_X2_lawInForce at ezz
  obtain ⟨z1, e1zz, ezz⟩ := z_bd ezz
  have ezz := Option.some.inj ezz
  rw [← ezz]
  rw [hzz.2.2.1.1] at e1zz
  refine hzz.at' ?_ e1zz
  have qzz := hzz.2.2.1.2
  by_cases czz : (Gzz 3).toInt = -1
  · exact Or.inl (Int32.toInt_inj.mp (by rw [czz]; decide))
  · exact Or.inr ⟨by omega, qzz.2⟩
set_option maxHeartbeats 200000 in
theorem TzI.ext {pl : List CR} {isl isl' : Ob} {Gzz G' : Nat → Int32} (hzz : TzI pl isl Gzz) (i7zz : gI isl' 7 = gI isl 7) (i9zz : gI isl' 9 = gI isl 9) (i10zz : gI isl' 10 = gI isl 10) (i11zz : gI isl' 11 = gI isl 11) (i12zz : gI isl' 12 = gI isl 12) (a2 : ∀ jzz, jzz < 28 → gA isl' 2 jzz = gA isl 2 jzz) (a4 : ∀ jzz, jzz < 6 → gA isl' 4 jzz = gA isl 4 jzz) (a5 : ∀ jzz, jzz < 6 → gA isl' 5 jzz = gA isl 5 jzz) (aR : ∀ jzz, jzz < 6 → gR isl' 6 jzz = gR isl 6 jzz)
    (eg : ∀ jzz, (jzz < 4 ∧ jzz ≠ 1) ∨ jzz = 5 ∨ jzz = 6 ∨ (36 ≤ jzz ∧ jzz < 64) ∨ 71 ≤ jzz → G' jzz = Gzz jzz) : TzI pl isl' G' := by
  have e0zz : G' 0 = Gzz 0 := eg 0 (by omega)
  have e2zz : G' 2 = Gzz 2 := eg 2 (by omega)
  have e3zz : G' 3 = Gzz 3 := eg 3 (by omega)
  have e5zz : G' 5 = Gzz 5 := eg 5 (by omega)
  have e6zz : G' 6 = Gzz 6 := eg 6 (by omega)
  unfold TzI WiL
  rw [e0zz, e2zz, e3zz, e5zz, e6zz, i7zz, i9zz, i10zz, i11zz, i12zz]
  refine ⟨⟨hzz.1.1, fun jzz hj => ?_, hzz.1.2.2⟩, hzz.2.1, hzz.2.2.1, hzz.2.2.2.1, fun jzz hj => ?_, fun l hl => ?_⟩
  · rw [a2 jzz hj, eg (36 + jzz) (by omega)]; exact hzz.1.2.1 jzz hj
  · rw [a4 jzz hj, a5 jzz hj, eg (71 + 2 * jzz) (by omega), eg (72 + 2 * jzz) (by omega)]; exact hzz.2.2.2.2.1 jzz hj
  · obtain ⟨azz, czz, r1zz, r2, r3⟩ := hzz.2.2.2.2.2 l hl
    have := hzz.2.1.2.2
    exact ⟨azz, czz, by rw [aR l (by omega)]; exact r1zz, r2, r3.eq (fun jzz hj => eg jzz (by omega))⟩
set_option maxHeartbeats 200000 in
theorem pfind_app {pl l : List CR} {azz : Nat} {czz : CR} (hzz : pfind pl azz = some czz) : pfind (pl ++ l) azz = some czz := by
  unfold pfind at hzz ⊢
  rw [List.find?_append, hzz]; rfl
set_option maxHeartbeats 200000 in
theorem TzI.app {pl l : List CR} {isl : Ob} {Gzz : Nat → Int32} (hzz : TzI pl isl Gzz) : TzI (pl ++ l) isl Gzz := by
  refine ⟨hzz.1, hzz.2.1, hzz.2.2.1, hzz.2.2.2.1, hzz.2.2.2.2.1, fun izz hizz => ?_⟩
  obtain ⟨azz, czz, r1zz, r2, r3⟩ := hzz.2.2.2.2.2 izz hizz
  exact ⟨azz, czz, r1zz, pfind_app r2, r3⟩
set_option maxHeartbeats 200000 in
theorem Tia.app {pl l : List CR} {isl mv : Ob} {Gzz : Nat → Int32} (hzz : Tia pl isl mv Gzz) : Tia (pl ++ l) isl mv Gzz := ⟨hzz.1, hzz.2.1.app, hzz.2.2⟩
set_option maxHeartbeats 200000 in
theorem Tia.mv {pl : List CR} {isl mv mv' : Ob} {Gzz G' : Nat → Int32} {n : Nat} (hzz : Tia pl isl mv Gzz) (en : (Gzz 0).toInt = (n : Int)) (wzz : RwC n Gzz G') (hMzz : TzM mv' G') : Tia pl isl mv' G' := by
  refine ⟨hzz.1.eq rfl rfl rfl rfl rfl (fun jzz hj => wzz jzz (by omega)), hzz.2.1.ext rfl rfl rfl rfl rfl (fun _ _ => rfl) (fun _ _ => rfl) (fun _ _ => rfl) (fun _ _ => rfl) (fun jzz hj => wzz jzz (by omega)), hMzz, fun jzz hj => ?_⟩
  rw [wzz 0 (by omega), en] at hj
  rw [wzz jzz (by omega)]
  exact hzz.2.2.2 jzz (by rw [en]; exact hj)
def TslF (pl : List CR) (o0zz o9 : Ob) (kzz : Nat) (im : Option IR) : Prop := (im = none → gR o0zz 7 kzz = none ∧ gA o9 5 kzz = 0) ∧ (∀ rzz : IR, im = some rzz → gR o0zz 7 kzz = some rzz.1 ∧ ¬ gA o9 5 kzz = 0 ∧ Tia pl rzz.2.2.2.2.2.2.1 rzz.2.2.2.2.2.2.2 (fun jzz => gA o9 4 (5484 * kzz + jzz)))
set_option maxHeartbeats 200000 in
theorem TslF.eq {pl : List CR} {o0zz o9 o0' o9' : Ob} {kzz : Nat} {im : Option IR} (hzz : TslF pl o0zz o9 kzz im) (e0zz : gR o0' 7 = gR o0zz 7) (e5zz : gA o9' 5 = gA o9 5) (e4zz : gA o9' 4 = gA o9 4) : TslF pl o0' o9' kzz im := by
  unfold TslF
  rw [e0zz, e5zz, e4zz]; exact hzz
set_option maxHeartbeats 200000 in
theorem TslF.app {pl l : List CR} {o0zz o9 : Ob} {kzz : Nat} {im : Option IR} (hzz : TslF pl o0zz o9 kzz im) : TslF (pl ++ l) o0zz o9 kzz im := ⟨hzz.1, fun rzz hr => ⟨(hzz.2 rzz hr).1, (hzz.2 rzz hr).2.1, (hzz.2 rzz hr).2.2.app⟩⟩
def TimF (pl : List CR) (o0zz o9 : Ob) (im0 im1 : Option IR) : Prop := ∃ s : Nat, s < 2 ∧ TslF pl o0zz o9 s im0 ∧ TslF pl o0zz o9 (1 - s) im1
set_option maxHeartbeats 200000 in
theorem TimF.eq {pl : List CR} {o0zz o9 o0' o9' : Ob} {im0 im1 : Option IR} (hzz : TimF pl o0zz o9 im0 im1) (e0zz : gR o0' 7 = gR o0zz 7) (e5zz : gA o9' 5 = gA o9 5) (e4zz : gA o9' 4 = gA o9 4) : TimF pl o0' o9' im0 im1 := by
  obtain ⟨s, h1, h2, h3⟩ := hzz
  exact ⟨s, h1, h2.eq e0zz e5zz e4zz, h3.eq e0zz e5zz e4zz⟩
set_option maxHeartbeats 200000 in
theorem TimF.app {pl l : List CR} {o0zz o9 : Ob} {im0 im1 : Option IR} (hzz : TimF pl o0zz o9 im0 im1) : TimF (pl ++ l) o0zz o9 im0 im1 := by
  obtain ⟨s, h1, h2, h3⟩ := hzz
  exact ⟨s, h1, h2.app, h3.app⟩
def TF (pl : List CR) (o0zz o1 o4zz o5zz o8zz o6 o11 o9 : Ob) (im0 im1 : Option IR) : Prop :=
  (gI o1 2 = gI o9 13 ∧ gA o1 0 = gA o9 12) ∧ gI o0zz 13 = gI o9 11 ∧ (TbW o9 ∧ HDs o9) ∧ StT o0zz o9 ∧ gI o0zz 14 = gI o9 58 ∧ PpT o8zz o6 o9 ∧ Tia pl o4zz o5zz (gA o9 3) ∧ PaT o11 o9 (gA o9 3 0).toInt.toNat (gA o9 3) ∧ TimF pl o0zz o9 im0 im1
set_option maxHeartbeats 200000 in
theorem TbW.eq {o o' : Ob} (hzz : TbW o) (azz : gM o' 31 = gM o 31) (bzz : gM o' 32 = gM o 32) : TbW o' := ⟨by rw [azz]; exact hzz.1, by rw [bzz]; exact hzz.2⟩
set_option maxHeartbeats 200000 in
theorem HDs.eq2 {o o' : Ob} (hzz : HDs o) (azz : gM o' 33 = gM o 33) (bzz : gM o' 54 = gM o 54) : HDs o' := ⟨by rw [azz]; exact hzz.1, by rw [bzz]; exact hzz.2⟩
set_option maxHeartbeats 200000 in
theorem TF.n {pl : List CR} {o0zz o1 o4zz o5zz o8zz o6 o11 o9 : Ob} {im0 im1 : Option IR} (hzz : TF pl o0zz o1 o4zz o5zz o8zz o6 o11 o9 im0 im1) : (gA o9 3 0).toInt = ((gA o9 3 0).toInt.toNat : Int) ∧ (gA o9 3 0).toInt.toNat ≤ 7 := by
  have := hzz.2.2.2.2.2.2.1.2.1.1.1.2
  omega
set_option maxHeartbeats 200000 in
theorem TF.s {pl : List CR} {o0zz o1 o4zz o5zz o8zz o6 o11 o9 : Ob} {im0 im1 : Option IR} (hzz : TF pl o0zz o1 o4zz o5zz o8zz o6 o11 o9 im0 im1) (h20 : gI o9 20 = 0) : TzS pl o4zz o5zz o11 o9 (gA o9 3 0).toInt.toNat := by
  have ht := hzz.2.2.2.2.2.2.1
  have hn := hzz.n
  refine ⟨ht.2.1.1, ht.2.2.1, hzz.2.2.2.2.2.2.2.1, fun zzz ez => ht.2.1.inf ez, h20, hn.1, fun jzz hj => ht.2.2.2 jzz ?_⟩
  omega
def dOK (Dzz : DD) : Bool := [13, 11, 1, 58, 62, 8].all (fun izz => !Dzz.1.elem izz) && [12, 2, 61, 3, 6, 7, 4, 5].all (fun izz => !Dzz.2.2.1.elem izz) && [31, 32, 33, 54].all (fun izz => !Dzz.2.2.2.1.elem izz)
set_option maxHeartbeats 200000 in
theorem nel {l : List Nat} {kszz : List Nat} (hzz : kszz.all (fun izz => !l.elem izz) = true) {izz : Nat} (hizz : izz ∈ kszz) : l.elem izz = false := by
  have wzz := List.all_eq_true.mp hzz izz hizz
  cases ezz : l.elem izz with
  | false => rfl
  | true => rw [ezz] at wzz; cases wzz
set_option maxHeartbeats 200000 in
theorem TF.rd {pl : List CR} {o0zz o1 o4zz o5zz o8zz o6 o11 o9 o9' : Ob} {im0 im1 : Option IR} {Dzz : DD} (hzz : TF pl o0zz o1 o4zz o5zz o8zz o6 o11 o9 im0 im1) (fzz : FrX Dzz o9 o9') (hD : dOK Dzz = true) : TF pl o0zz o1 o4zz o5zz o8zz o6 o11 o9' im0 im1 := by
  unfold dOK at hD
  simp only [Bool.and_eq_true] at hD
  obtain ⟨⟨q1zz, q2zz⟩, q3zz⟩ := hD
  obtain ⟨⟨h1, h2⟩, h3, ⟨h4, h4'⟩, h5, h6, h7, h8, h9, h10⟩ := hzz
  have A : ∀ izz, izz ∈ [12, 2, 61, 3, 6, 7, 4, 5] → gA o9' izz = gA o9 izz := fun izz hizz => fzz.A izz (nel q2zz hizz)
  have I : ∀ izz, izz ∈ [13, 11, 1, 58, 62, 8] → gI o9' izz = gI o9 izz := fun izz hizz => fzz.I izz (nel q1zz hizz)
  have M : ∀ izz, izz ∈ [31, 32, 33, 54] → gM o9' izz = gM o9 izz := fun izz hizz => fzz.M izz (nel q3zz hizz)
  have e3zz := A 3 (by decide)
  refine ⟨⟨by rw [I 13 (by decide)]; exact h1, by rw [A 12 (by decide)]; exact h2⟩, by rw [I 11 (by decide)]; exact h3, ⟨h4.eq (M 31 (by decide)) (M 32 (by decide)), h4'.eq2 (M 33 (by decide)) (M 54 (by decide))⟩, h5.eq rfl rfl (I 1 (by decide)) (A 2 (by decide)), by rw [I 58 (by decide)]; exact h6, h7.eq (I 62 (by decide)) (A 61 (by decide)), by rw [e3zz]; exact h8, ?_, h10.eq rfl (A 5 (by decide)) (A 4 (by decide))⟩
  rw [e3zz]
  exact h9.eq (I 8 (by decide)) (A 6 (by decide)) (A 7 (by decide))
