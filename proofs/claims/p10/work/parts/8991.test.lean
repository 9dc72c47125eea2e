-- words of orders
def smf (fzz : Nat → Int) : Nat → Int
  | 0 => 0
  | n + 1 => smf fzz n + fzz n
set_option maxHeartbeats 200000 in
theorem smf_z {fzz : Nat → Int} {n : Nat} (hn : n ≤ 7) (hz : ∀ jzz, n ≤ jzz → jzz < 7 → fzz jzz = 0) : smf fzz n = smf fzz 7 := by
  have step : ∀ kzz, n + kzz ≤ 7 → smf fzz (n + kzz) = smf fzz n := by
    intro kzz
    induction kzz with
    | zero => intro _; rfl
    | succ kzz ihzz =>
      intro hzz
      show smf fzz (n + kzz) + fzz (n + kzz) = smf fzz n
      rw [ihzz (by omega), hz (n + kzz) (by omega) (by omega)]; omega
  have wzz := step (7 - n) (by omega)
  have ezz : n + (7 - n) = 7 := by omega
  rw [ezz] at wzz
  exact wzz.symm
set_option maxHeartbeats 200000 in
theorem smf_rg {fzz : Nat → Int} {M : Int} : ∀ n, (∀ jzz, jzz < n → 0 ≤ fzz jzz ∧ fzz jzz ≤ M) → 0 ≤ smf fzz n ∧ smf fzz n ≤ M * (n : Int) := by
  intro n
  induction n with
  | zero => intro _; exact ⟨Int.le_refl _, by show (0 : Int) ≤ _; omega⟩
  | succ n ihzz =>
    intro hzz
    have wzz := ihzz (fun jzz hj => hzz jzz (by omega))
    have vzz := hzz n (by omega)
    have ezz : M * ((n + 1 : Nat) : Int) = M * (n : Int) + M := by rw [Int.natCast_succ, Int.mul_add, Int.mul_one]
    show 0 ≤ smf fzz n + fzz n ∧ smf fzz n + fzz n ≤ _
    rw [ezz]
    omega
set_option maxHeartbeats 200000 in
theorem sumOf_lp {o : Ob} {pzz qzz yzz : Int32} {azz n : Nat} (ea : pzz.toInt = (azz : Int)) (hazz : azz ≤ 22) (eq : qzz.toInt = (n : Int)) (hn : n ≤ 7) (hr : ∀ jzz, jzz < n → 0 ≤ (gA o 3 (azz + jzz)).toInt ∧ (gA o 3 (azz + jzz)).toInt ≤ 999) :
    ∀ (Nzz : Nat) (v3 v4zz : Int32) (izz : Nat), v4zz.toInt = (izz : Int) → izz ≤ n → v3.toInt = smf (fun jzz => (gA o 3 (azz + jzz)).toInt) izz → lp_X9_sumOf_5 o Nzz (pzz, qzz, v3, v4zz) = some yzz → yzz.toInt = smf (fun jzz => (gA o 3 (azz + jzz)).toInt) n := by
  intro Nzz
  induction Nzz with
  | zero => intro v3 v4zz izz _ _ _ hzz; cases hzz
  | succ Nzz ihzz =>
    intro v3 v4zz izz e4zz hizz e3zz hzz
    have hzz : lb_X9_sumOf_5 o (lp_X9_sumOf_5 o Nzz) pzz qzz v3 v4zz = some yzz := hzz
    unfold lb_X9_sumOf_5 at hzz
    rcases z_if hzz with ⟨czz, hzz⟩ | ⟨czz, hzz⟩
    · have czz := cv_le (a := (n : Int)) (b := (izz : Int)) eq e4zz czz
      have ei : izz = n := by omega
      rw [← Option.some.inj hzz, e3zz, ei]
    · have czz := cv_nle (a := (n : Int)) (b := (izz : Int)) eq e4zz czz
      have ix : (pzz + v4zz).toNatClampNeg = azz + izz := tnc_eq (by rw [i32_add ea e4zz (by omega) (by omega)]; omega)
      rw [ix] at hzz
      have hzz := (z_gd hzz).2
      obtain ⟨x2zz, g2, hzz⟩ := z_lt hzz
      obtain ⟨x3, g3zz, hzz⟩ := z_lt hzz
      have rg := smf_rg (fzz := fun jzz => (gA o 3 (azz + jzz)).toInt) (M := 999) izz (fun jzz hj => hr jzz (by omega))
      have ri := hr izz (by omega)
      refine ihzz x2zz x3 (izz + 1) (by rw [g3zz]; exact Eq.trans (i32_add e4zz (by decide : (1 : Int32).toInt = 1) (by omega) (by omega)) (by omega)) (by omega) ?_ hzz
      rw [g2]
      show (v3 + gA o 3 (azz + izz)).toInt = smf (fun jzz => (gA o 3 (azz + jzz)).toInt) izz + (gA o 3 (azz + izz)).toInt
      exact i32_add e3zz rfl (by omega) (by omega)
def pop7 (ezz : Nat) : Nat := ezz % 2 + (ezz / 2) % 2 + (ezz / 4) % 2 + (ezz / 8) % 2 + (ezz / 16) % 2 + (ezz / 32) % 2 + (ezz / 64) % 2
set_option maxHeartbeats 200000 in
theorem bc_all : ∀ ezz, ezz < 128 → f_J6_bitCount_0f7a4 (Int32.ofNat ezz) = some (Int32.ofNat (pop7 ezz)) := by decide +kernel
set_option maxHeartbeats 200000 in
theorem bit_all : ∀ ezz, ezz < 128 → ∀ jzz, jzz < 7 → (((Int32.ofNat ezz) >>> ((Int32.ofNat jzz) &&& 31)) &&& (1 : Int32)).toInt = (((ezz / 2 ^ jzz) % 2 : Nat) : Int) := by decide +kernel
set_option maxHeartbeats 200000 in
theorem ent_bit {mv : Ob} {Gzz : Nat → Int32} {ezz jzz : Nat} (hE : EnT mv Gzz) (ee : (gI mv 2).toInt = (ezz : Int)) (he : ezz < 128) (hj : jzz < 7) : (Gzz (22 + jzz)).toInt = (((ezz / 2 ^ jzz) % 2 : Nat) : Int) := by
  have ej : (Int32.ofNat jzz).toInt = (jzz : Int) := Int32.toInt_ofNat_of_lt (by omega)
  have wzz := hE (Int32.ofNat jzz) (by rw [ej]; omega) (by rw [ej]; omega)
  have ij : (Int32.ofNat jzz).toNatClampNeg = jzz := tnc_eq ej
  rw [ij] at wzz
  rw [wzz, i32_of ee (by omega)]
  exact bit_all ezz he jzz hj
set_option maxHeartbeats 200000 in
/-- how many entered -/
theorem ones_eq {mv o : Ob} {n : Nat} {zzz wzz : Int32} (hMzz : TzM mv (gA o 3)) (hn : n ≤ 7) (en : (gA o 3 0).toInt = (n : Int)) (hZ : ∀ jzz, ((15 + n ≤ jzz ∧ jzz < 22) ∨ (22 + n ≤ jzz ∧ jzz < 29)) → gA o 3 jzz = 0) (h1 : f_J6_bitCount_0f7a4 (gI mv 2) = some zzz) (h2 : f_X9_enteredOnes o = some wzz) : zzz = wzz := by
  have hbzz := hMzz.2.2.2.2.2
  obtain ⟨ezz, ee⟩ : ∃ ezz : Nat, (gI mv 2).toInt = (ezz : Int) := ⟨(gI mv 2).toInt.toNat, by omega⟩
  have n0zz : (0 : Int32).toNatClampNeg = 0 := by decide
  rw [i32_of ee (by omega), bc_all ezz (by omega)] at h1
  have h1 := Option.some.inj h1
  unfold f_X9_enteredOnes at h2
  rw [n0zz] at h2
  obtain ⟨z1, e1zz, h2⟩ := z_bd h2
  have h2 := Option.some.inj h2
  unfold f_X9_sumOf at e1zz
  have btzz : ∀ jzz, jzz < 7 → (gA o 3 (22 + jzz)).toInt = (((ezz / 2 ^ jzz) % 2 : Nat) : Int) := fun jzz hj => ent_bit hMzz.2.2.2.2.1 ee (by omega) hj
  have s := sumOf_lp (azz := 22) (by decide) (by decide) en hn (fun jzz hj => by rw [btzz jzz (by omega)]; omega) zfu 0 0 0 (by decide) (Nat.zero_le _) rfl e1zz
  rw [smf_z hn (fun jzz h1 h2 => by show (gA o 3 (22 + jzz)).toInt = 0; rw [hZ (22 + jzz) (by omega)]; decide)] at s
  have s7 : smf (fun jzz => (gA o 3 (22 + jzz)).toInt) 7 = ((pop7 ezz : Nat) : Int) := by
    show 0 + (gA o 3 (22 + 0)).toInt + (gA o 3 (22 + 1)).toInt + (gA o 3 (22 + 2)).toInt + (gA o 3 (22 + 3)).toInt + (gA o 3 (22 + 4)).toInt + (gA o 3 (22 + 5)).toInt + (gA o 3 (22 + 6)).toInt = _
    rw [btzz 0 (by omega), btzz 1 (by omega), btzz 2 (by omega), btzz 3 (by omega), btzz 4 (by omega), btzz 5 (by omega), btzz 6 (by omega)]
    unfold pop7
    simp only [Nat.reducePow, Nat.div_one]
    omega
  have lp : pop7 ezz ≤ 7 := by unfold pop7; omega
  rw [← h1, ← h2]
  exact Int32.toInt_inj.mp (by rw [s, s7]; exact Int32.toInt_ofNat_of_lt (by omega))
set_option maxHeartbeats 200000 in
theorem ow_lp {isl mv zzz : Ob} : ∀ (Nzz : Nat) (vzz : Int32) (o : Ob) (izz : Nat), vzz.toInt = (izz : Int) → izz ≤ 7 → lp_X3_setOrderWords_O_59 isl mv Nzz (vzz, o) = some zzz → (∀ kzz, kzz < 5 → gA zzz 0 kzz = gA o 0 kzz) ∧ (∀ pzz, pzz < izz → gA zzz 0 (5 + pzz) = gA o 0 (5 + pzz) ∧ gA zzz 0 (12 + pzz) = gA o 0 (12 + pzz)) ∧ ∀ pzz : Nat, izz ≤ pzz → pzz < 7 → (((pzz : Int) < (gI isl 7).toInt ∧ gA zzz 0 (5 + pzz) = gA mv 1 pzz ∧ gA zzz 0 (12 + pzz) = gA mv 0 pzz) ∨ ((gI isl 7).toInt ≤ (pzz : Int) ∧ gA zzz 0 (5 + pzz) = -1 ∧ gA zzz 0 (12 + pzz) = -1)) := by
  intro Nzz
  induction Nzz with
  | zero => intro vzz o izz _ _ hzz; cases hzz
  | succ Nzz ihzz =>
    intro vzz o izz evzz hizz hzz
    have hzz : lb_X3_setOrderWords_O_59 isl mv (lp_X3_setOrderWords_O_59 isl mv Nzz) vzz o = some zzz := hzz
    unfold lb_X3_setOrderWords_O_59 at hzz
    rcases z_if hzz with ⟨czz, hzz⟩ | ⟨czz, hzz⟩
    · have czz := cv_le (a := 7) (b := (izz : Int)) (by decide) evzz czz
      have hzz := Option.some.inj hzz
      subst hzz
      exact ⟨fun _ _ => rfl, fun _ _ => ⟨rfl, rfl⟩, fun pzz h1 h2 => absurd h1 (by omega)⟩
    · have czz := cv_nle (a := 7) (b := (izz : Int)) (by decide) evzz czz
      have i5zz : ((5 : Int32) + vzz).toNatClampNeg = 5 + izz := tnc_eq (by rw [i32_add (by decide : (5 : Int32).toInt = 5) evzz (by omega) (by omega)]; omega)
      have i12zz : ((12 : Int32) + vzz).toNatClampNeg = 12 + izz := tnc_eq (by rw [i32_add (by decide : (12 : Int32).toInt = 12) evzz (by omega) (by omega)]; omega)
      have ivzz : vzz.toNatClampNeg = izz := tnc_eq evzz
      -- the rest, once both words are set
      have gozz : ∀ (s0zz s1zz : Int32), ((((izz : Nat) : Int) < (gI isl 7).toInt ∧ s0zz = gA mv 1 izz ∧ s1zz = gA mv 0 izz) ∨ ((gI isl 7).toInt ≤ (izz : Int) ∧ s0zz = -1 ∧ s1zz = -1)) → ∀ o9, o9 = tA o 0 (5 + izz) s0zz → bk_X3_setOrderWords_O_130 isl mv (lp_X3_setOrderWords_O_59 isl mv Nzz) vzz s1zz ((12 : Int32) + vzz) o9 = some zzz → (∀ kzz, kzz < 5 → gA zzz 0 kzz = gA o 0 kzz) ∧ (∀ pzz, pzz < izz → gA zzz 0 (5 + pzz) = gA o 0 (5 + pzz) ∧ gA zzz 0 (12 + pzz) = gA o 0 (12 + pzz)) ∧ ∀ pzz : Nat, izz ≤ pzz → pzz < 7 → (((pzz : Int) < (gI isl 7).toInt ∧ gA zzz 0 (5 + pzz) = gA mv 1 pzz ∧ gA zzz 0 (12 + pzz) = gA mv 0 pzz) ∨ ((gI isl 7).toInt ≤ (pzz : Int) ∧ gA zzz 0 (5 + pzz) = -1 ∧ gA zzz 0 (12 + pzz) = -1)) := by
        intro s0zz s1zz hs o9 g9 hbzz
        unfold bk_X3_setOrderWords_O_130 at hbzz
        rw [i12zz] at hbzz
        have hbzz := (z_gd hbzz).2
        obtain ⟨o12, g12, hbzz⟩ := z_lt hbzz
        obtain ⟨x13, g13, hbzz⟩ := z_lt hbzz
        have at12zz : ∀ jzz, gA o12 0 jzz = if jzz = 12 + izz then s1zz else if jzz = 5 + izz then s0zz else gA o 0 jzz := fun jzz => by rw [g12, g9]; rfl
        obtain ⟨r1zz, r2, r3⟩ := ihzz x13 o12 (izz + 1) (by rw [g13]; exact Eq.trans (i32_add evzz (by decide : (1 : Int32).toInt = 1) (by omega) (by omega)) (by omega)) (by omega) hbzz
        refine ⟨fun kzz hk => ?_, fun pzz hp => ⟨?_, ?_⟩, fun pzz h1 h2 => ?_⟩
        · rw [r1zz kzz hk, at12zz, if_neg (by omega), if_neg (by omega)]
        · rw [(r2 pzz (by omega)).1, at12zz, if_neg (by omega), if_neg (by omega)]
        · rw [(r2 pzz (by omega)).2, at12zz, if_neg (by omega), if_neg (by omega)]
        · by_cases qzz : pzz = izz
          · subst qzz
            have wzz := r2 pzz (by omega)
            rw [wzz.1, wzz.2, at12zz, at12zz, if_neg (by omega), if_pos rfl, if_pos rfl]
            exact hs
          · exact r3 pzz (by omega) h2
      obtain ⟨z7, e7zz, hzz⟩ := z_bd hzz
      have p7zz := isP2 e7zz
      rcases z_if hzz with ⟨c1zz, hzz⟩ | ⟨c1zz, hzz⟩
      · have q7zz : (gI isl 7).toInt ≤ (izz : Int) := by
          rcases p7zz with ⟨-, qzz⟩ | ⟨qzz, -⟩
          · omega
          · exact absurd c1zz qzz
        unfold bk_X3_setOrderWords_O_97 at hzz
        rw [i5zz] at hzz
        have hzz := (z_gd hzz).2
        obtain ⟨o9, g9, hzz⟩ := z_lt hzz
        obtain ⟨z10, e10zz, hzz⟩ := z_bd hzz
        rcases isP2 e10zz with ⟨uzz, -⟩ | ⟨-, uzz⟩
        · exact gozz (-1) (-1) (Or.inr ⟨q7zz, rfl, rfl⟩) o9 g9 (z_t hzz uzz)
        · omega
      · have q7zz : ((izz : Nat) : Int) < (gI isl 7).toInt := by
          rcases p7zz with ⟨qzz, -⟩ | ⟨-, qzz⟩
          · exact absurd qzz c1zz
          · omega
        have hzz := (z_gd hzz).2
        rw [ivzz] at hzz
        unfold bk_X3_setOrderWords_O_97 at hzz
        rw [i5zz, ivzz] at hzz
        have hzz := (z_gd hzz).2
        obtain ⟨o9, g9, hzz⟩ := z_lt hzz
        obtain ⟨z10, e10zz, hzz⟩ := z_bd hzz
        rcases isP2 e10zz with ⟨-, uzz⟩ | ⟨uzz, -⟩
        · omega
        · exact gozz _ _ (Or.inl ⟨q7zz, rfl, rfl⟩) o9 g9 (z_gd (z_f hzz uzz)).2
set_option maxHeartbeats 200000 in
/-- the words of orders in both -/
theorem oWords {mezz isl mv zzz o o6 : Ob} {n : Nat} {d l : Int32} {w5 : Int32} (hI : WiL isl (gA o 3)) (hMzz : TzM mv (gA o 3)) (en : (gA o 3 0).toInt = (n : Int)) (hZ : ∀ jzz, ((15 + n ≤ jzz ∧ jzz < 22) ∨ (22 + n ≤ jzz ∧ jzz < 29)) → gA o 3 jzz = 0) (h1 : f_X3_setOrderWords_O mezz isl mv d l = some zzz) (h5 : f_X9_enteredOnes o = some w5) (e3zz : gA o6 3 = gA o 3) (m1zz : gM o6 36 1 = (gA o 3 4).toInt64) (m2zz : gM o6 36 2 = d.toInt64) (m3zz : gM o6 36 3 = l.toInt64) (m4zz : gM o6 36 4 = (gA o 3 7).toInt64) (m5zz : gM o6 36 5 = w5.toInt64) (h20 : ¬ gI o6 20 = 0) : EWo true zzz o6 := by
  have hn7 : n ≤ 7 := by have := hI.1.2.2; omega
  have n0zz : (0 : Int32).toNatClampNeg = 0 := by decide
  have n1zz : (1 : Int32).toNatClampNeg = 1 := by decide
  have n2zz : (2 : Int32).toNatClampNeg = 2 := by decide
  have n3zz : (3 : Int32).toNatClampNeg = 3 := by decide
  have n4zz : (4 : Int32).toNatClampNeg = 4 := by decide
  unfold f_X3_setOrderWords_O at h1
  rw [n0zz, n1zz, n2zz, n3zz, n4zz] at h1
  obtain ⟨o1, g1, h1⟩ := z_lt h1
  obtain ⟨o2, g2, h1⟩ := z_lt h1
  obtain ⟨o3zz, g3zz, h1⟩ := z_lt h1
  obtain ⟨o4zz, g4, h1⟩ := z_lt h1
  obtain ⟨z5, k5zz, h1⟩ := z_bd h1
  obtain ⟨o7, g7, h1⟩ := z_lt h1
  have e5zz := ones_eq hMzz hn7 en hZ k5zz h5
  obtain ⟨r1zz, -, r3⟩ := ow_lp zfu 0 o7 0 (by decide) (Nat.zero_le _) h1
  have a0zz : gA o7 0 0 = gI mv 4 := by rw [g7, g4, g3zz, g2, g1]; rfl
  have a1zz : gA o7 0 1 = d := by rw [g7, g4, g3zz, g2, g1]; rfl
  have a2 : gA o7 0 2 = l := by rw [g7, g4, g3zz, g2, g1]; rfl
  have a3 : gA o7 0 3 = gI mv 3 := by rw [g7, g4, g3zz, g2, g1]; rfl
  have a4 : gA o7 0 4 = z5 := by rw [g7, g4, g3zz, g2, g1]; rfl
  refine ⟨by rw [e3zz]; exact hI.1.2, (fun qzz => by cases qzz), fun _ => ⟨h20, fun kzz hk => ?_, fun pzz hp => ?_⟩⟩
  · rcases (by omega : kzz = 0 ∨ kzz = 1 ∨ kzz = 2 ∨ kzz = 3 ∨ kzz = 4) with uzz | uzz | uzz | uzz | uzz <;> subst uzz
    · rw [r1zz 0 (by omega), a0zz, hMzz.2.2.2.1.1]; exact m1zz.symm
    · rw [r1zz 1 (by omega), a1zz]; exact m2zz.symm
    · rw [r1zz 2 (by omega), a2]; exact m3zz.symm
    · rw [r1zz 3 (by omega), a3, hMzz.2.2.1.1]; exact m4zz.symm
    · rw [r1zz 4 (by omega), a4, e5zz]; exact m5zz.symm
  · rw [e3zz]
    have wzz := r3 pzz (Nat.zero_le _) hp
    rw [hI.1.1] at wzz
    rcases wzz with ⟨u1zz, u2zz, u3⟩ | wzz
    · exact Or.inl ⟨u1zz, u2zz.trans (hMzz.2.1 pzz hp).1, u3.trans (hMzz.1 pzz hp).1⟩
    · exact Or.inr wzz
