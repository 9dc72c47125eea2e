-- a clause of orders
set_option maxHeartbeats 200000 in
theorem clr_O {yzz : Ob} {v1zz v2 : Int32} {n : Nat} (e2zz : v2.toInt = 8 * (n : Int)) (hn : n < 12) : ∀ (Nzz : Nat) (v3 : Int32) (o : Ob) (izz : Nat), v3.toInt = (izz : Int) → izz ≤ 8 → (∀ kzz, kzz < izz → gA o 55 (8 * n + kzz) = 0) → lp_X9_readOrder_85 Nzz (v1zz, v2, v3, o) = some yzz →
    ∃ o5zz : Ob, RW 55 (8 * n) o o5zz ∧ gI o5zz 21 = gI o 21 ∧ gA o5zz 55 (8 * n) = v1zz ∧ (∀ kzz, 1 ≤ kzz → kzz < 8 → gA o5zz 55 (8 * n + kzz) = 0) ∧ (if v1zz = (3 : Int32) then (bk_X9_readOrder_125 v2 o5zz) else ((f_X9_readSum o5zz (v2 + (1 : Int32))).bind fun z20 => bk_X9_readOrder_125 v2 z20)) = some yzz := by
  intro Nzz
  induction Nzz with
  | zero => intro v3 o izz _ _ _ hzz; cases hzz
  | succ Nzz ihzz =>
    intro v3 o izz e3zz hizz hk hz
    have hz : lb_X9_readOrder_85 (lp_X9_readOrder_85 Nzz) v1zz v2 v3 o = some yzz := hz
    unfold lb_X9_readOrder_85 at hz
    have i0zz : v2.toNatClampNeg = 8 * n := tnc_eq (by omega)
    by_cases czz : (8 : Int32) ≤ v3
    · have d := cv_le (a := 8) (b := (izz : Int)) (by decide) e3zz czz
      obtain ⟨-, hz⟩ := z_gd (z_t hz czz)
      obtain ⟨o5zz, g5zz, hz⟩ := z_lt hz
      rw [i0zz] at g5zz
      refine ⟨o5zz, by rw [g5zz]; exact RW.tA ⟨by omega, by omega⟩, by rw [g5zz]; rfl, by rw [g5zz, upd_at, if_pos rfl], fun kzz h1 h2 => ?_, hz⟩
      rw [g5zz, upd_at, if_neg (by omega)]; exact hk kzz (by omega)
    · have d := cv_nle (a := 8) (b := (izz : Int)) (by decide) e3zz czz
      obtain ⟨-, hz⟩ := z_gd (z_f hz czz)
      obtain ⟨o19, g19, hz⟩ := z_lt hz
      obtain ⟨x20, gx, hz⟩ := z_lt hz
      have t3zz : (v2 + v3).toInt = 8 * (n : Int) + (izz : Int) := i32_add e2zz e3zz (by omega) (by omega)
      have i3zz : (v2 + v3).toNatClampNeg = 8 * n + izz := tnc_eq (by omega)
      have tx : x20.toInt = (izz : Int) + 1 := by rw [gx]; exact i32_add e3zz (by decide) (by omega) (by omega)
      rw [i3zz] at g19
      have w19 : RW 55 (8 * n) o o19 := by rw [g19]; exact RW.tA ⟨by omega, by omega⟩
      have hk' : ∀ kzz, kzz < izz + 1 → gA o19 55 (8 * n + kzz) = 0 := fun kzz hzz => by
        rw [g19, upd_at]
        by_cases qzz : kzz = izz
        · rw [if_pos (by omega)]
        · rw [if_neg (by omega)]; exact hk kzz (by omega)
      obtain ⟨o5zz, q1zz, q2zz, q3zz, q4zz, q5zz⟩ := ihzz x20 o19 (izz + 1) (by omega) (by omega) hk' hz
      have uzz : gI o19 21 = gI o 21 := by rw [g19]; rfl
      exact ⟨o5zz, w19.tr q1zz, by rw [q2zz, uzz], q3zz, q4zz, q5zz⟩
set_option maxHeartbeats 200000 in
theorem bad211 {v2 : Int32} {wzz yzz : Ob} (hzz : bk_X9_readOrder_211 v2 wzz = some yzz) : gI yzz 19 = gI wzz 19 ∧ gI yzz 18 = gI wzz 18 ∧ gA yzz 3 = gA wzz 3 := by
  unfold bk_X9_readOrder_211 at hzz
  obtain ⟨-, hzz⟩ := z_gd hzz
  obtain ⟨o13, gzz, hzz⟩ := z_lt hzz
  rw [← Option.some.inj hzz, gzz]
  exact ⟨rfl, rfl, rfl⟩
set_option maxHeartbeats 200000 in
theorem bad173 {v2 : Int32} {wzz yzz : Ob} (h19 : gI wzz 19 = 1) (hzz : bk_X9_readOrder_173 v2 wzz = some yzz) : gI yzz 19 = 1 ∧ gI yzz 18 = gI wzz 18 ∧ gA yzz 3 = gA wzz 3 := by
  unfold bk_X9_readOrder_173 at hzz
  obtain ⟨-, hzz⟩ := z_gd hzz
  obtain ⟨o9, g9, hzz⟩ := z_lt hzz
  have e19zz : gI o9 19 = 1 := by rw [g9]; exact h19
  have e18zz : gI o9 18 = gI wzz 18 := by rw [g9]; rfl
  have qzz := bad211 (z_f hzz (by rw [e19zz]; decide))
  exact ⟨qzz.1.trans e19zz, qzz.2.1.trans e18zz, qzz.2.2.trans (by rw [g9]; rfl)⟩
set_option maxHeartbeats 200000 in
theorem bad125 {v2 : Int32} {wzz yzz : Ob} (h19 : gI wzz 19 = 1) (hzz : bk_X9_readOrder_125 v2 wzz = some yzz) : gI yzz 19 = 1 ∧ gI yzz 18 = gI wzz 18 ∧ gA yzz 3 = gA wzz 3 := by
  unfold bk_X9_readOrder_125 at hzz
  obtain ⟨-, hzz⟩ := z_gd hzz
  obtain ⟨o7, g7, hzz⟩ := z_lt hzz
  have e19zz : gI o7 19 = 1 := by rw [g7]; exact h19
  have e18zz : gI o7 18 = gI wzz 18 := by rw [g7]; rfl
  have qzz := bad173 e19zz (z_f hzz (by rw [e19zz]; decide))
  exact ⟨qzz.1, qzz.2.1.trans e18zz, qzz.2.2.trans (by rw [g7]; rfl)⟩
set_option maxHeartbeats 200000 in
/-- how often an order is run -/
theorem ph_times {rd oc o yzz : Ob} {k1zz k2zz n : Nat} {v1zz x2zz : Int32} {zzz : Int32 × Ob × Ob} (hzz : XS true rd oc o k1zz k2zz) (hn : n < 12) (ivzz : v1zz.toNatClampNeg = n) (tx2 : x2zz.toInt = 8 * (n : Int)) (ho : gA oc 1 n = 1)
    (h1 : ((f_X6_isWord rd 2).bind fun z19 => if z19 = (0 : Int32) then (bk_X6_readClause_177 12 400 v1zz rd oc) else ((f_X6_step rd).bind fun z20 => if (gI z20 6) = (2 : Int32) then (if (gI z20 9) < (1 : Int32) then (bk_X6_readClause_155 12 400 z20 oc) else (if (gI z20 9) ≤ (20 : Int32) then (zgd (zin v1zz 12) <| zlt (tA oc 1 v1zz.toNatClampNeg (gI z20 9)) fun o24 => (f_X6_step z20).bind fun z25 => bk_X6_readClause_177 12 400 v1zz z25 o24) else (bk_X6_readClause_155 12 400 z20 oc))) else (bk_X6_readClause_155 12 400 z20 oc))) = some zzz)
    (h2 : bk_X9_readOrder_125 x2zz o = some yzz) :
    (zzz.1 = 0 ∧ ∃ wzz, bk_X9_readOrder_173 x2zz wzz = some yzz ∧ gI wzz 19 = 1 ∧ gI wzz 18 = gI zzz.2.1 3 ∧ gA wzz 3 = gA o 3) ∨
    (∃ (rd' oc' o' : Ob), bk_X6_readClause_177 12 400 v1zz rd' oc' = some zzz ∧ bk_X9_readOrder_173 x2zz o' = some yzz ∧ XS true rd' oc' o' k1zz k2zz ∧ gI oc' 7 = gI oc 7 ∧ gI oc' 8 = gI oc 8 ∧ (∀ izz xzz, (izz ≠ 1 ∨ xzz ≠ n) → gA oc' izz xzz = gA oc izz xzz) ∧ gI o' 21 = gI o 21 ∧ o'.2.2.2 = o.2.2.2 ∧ (∀ izz, izz ≠ 55 → gA o' izz = gA o izz) ∧ (∀ xzz, xzz ≠ 8 * n + 7 → gA o' 55 xzz = gA o 55 xzz) ∧ gA oc' 1 n = gA o' 55 (8 * n + 7) ∧ 1 ≤ (gA oc' 1 n).toInt ∧ (gA oc' 1 n).toInt ≤ 20) := by
  unfold bk_X9_readOrder_125 at h2
  obtain ⟨-, h2⟩ := z_gd h2
  obtain ⟨o7, g7, h2⟩ := z_lt h2
  have i7zz := ix8 (czz := 7) (kzz := 7) tx2 hn (by decide) (by decide)
  rw [i7zz] at g7
  have y7 : RW 55 (8 * n) o o7 := by rw [g7]; exact RW.tA ⟨by omega, by omega⟩
  have hX7 : XS true rd oc o7 k1zz k2zz := hzz.rw' y7 (by decide) rfl
  have r7 : ∀ xzz, xzz ≠ 8 * n + 7 → gA o7 55 xzz = gA o 55 xzz := fun xzz hx => by rw [g7, upd_at, if_neg hx]
  have s7 : gA o7 55 (8 * n + 7) = 1 := by rw [g7, upd_at, if_pos rfl]
  have m7zz : gI o7 21 = gI o 21 := by rw [g7]; rfl
  obtain ⟨z15, ez15, h2⟩ := z_bd (z_t h2 hX7.2.1)
  obtain ⟨z19, ez19, h1⟩ := z_bd h1
  rcases iw8 (R := [19, 5, 13, 9, 20]) hX7.1 (by decide) tx2_ok ez19 with ⟨q1zz, q2zz⟩ | ⟨q1zz, q2zz⟩ <;> rcases w9 (R := [19, 5, 13, 9, 20]) hX7.1 (all_dig (by decide)) (by decide) (by decide) ez15 with ⟨u1zz, u2zz⟩ | ⟨u1zz, u2zz⟩
  · exact Or.inr ⟨rd, oc, o7, z_t h1 q1zz, z_t h2 u1zz, hX7, rfl, rfl, fun _ _ _ => rfl, m7zz, y7.2.2.2.1, fun izz hizz => y7.2.2.1 izz hizz, r7, by rw [ho, s7], by rw [ho]; decide, by rw [ho]; decide⟩
  · exact absurd u2zz q2zz
  · exact absurd q2zz u2zz
  · obtain ⟨z20, ez20, h1⟩ := z_bd (z_f h1 q1zz)
    obtain ⟨z16, ez16, h2⟩ := z_bd (z_f h2 u1zz)
    obtain ⟨z17, ez17, h2⟩ := z_bd h2
    obtain ⟨-, h2⟩ := z_gd h2
    obtain ⟨o19, g19, h2⟩ := z_lt h2
    rw [i7zz] at g19
    obtain ⟨hX, f6zz, f9zz⟩ := hX7.step ez20 ez16
    have hTzz := hX.1
    unfold f_X9_number at ez17
    obtain ⟨x1zz, gx1, ez17⟩ := z_lt ez17
    -- both fail
    have hbad : bk_X6_readClause_155 12 400 z20 oc = some zzz → bk_X9_number_32 x1zz z16 = some z17 → (zzz.1 = 0 ∧ ∃ wzz, bk_X9_readOrder_173 x2zz wzz = some yzz ∧ gI wzz 19 = 1 ∧ gI wzz 18 = gI zzz.2.1 3 ∧ gA wzz 3 = gA o 3) := by
      intro k1zz k2zz
      unfold bk_X6_readClause_155 at k1zz
      obtain ⟨zs, ezs, k1zz⟩ := z_bd k1zz
      obtain ⟨-, k1zz⟩ := z_gd k1zz
      obtain ⟨s1zz, s2zz⟩ := stop8 ezs
      unfold bk_X9_number_32 bk_X9_number_33 at k2zz
      obtain ⟨zm, ezm, k2zz⟩ := z_bd k2zz
      have em := mu_no hX.2.1 ezm
      have e17zz : z17.2 = zm := by rw [← Option.some.inj k2zz]
      have e19zz : gI o19 19 = 1 := by rw [g19, e17zz, em]; rfl
      have e18zz : gI o19 18 = gI z16 14 := by rw [g19, e17zz, em]; rfl
      have e3zz : gA o19 3 = gA z16 3 := by rw [g19, e17zz, em]; rfl
      refine ⟨by rw [← Option.some.inj k1zz]; exact s1zz, o19, h2, e19zz, ?_, e3zz.trans ((f9zz.gA 3).trans (y7.2.2.1 3 (by decide)))⟩
      rw [e18zz, ← Option.some.inj k1zz]
      show gI z16 14 = gI zs.2 3
      rw [s2zz]
      show gI z16 14 = gI z20 7
      exact hTzz.2.2.1.symm
    obtain ⟨azz, bzz, ea, eb, hab, hbzz, hx⟩ := hTzz.2.2.2.2
    by_cases c2zz : gI z16 16 = 2
    · have nv : NV (gI z20 9) (gL z16 17) := by
        rcases hx with ⟨uzz, -⟩ | ⟨uzz, -⟩ | ⟨-, -, uzz⟩ | ⟨uzz, -⟩
        · exact absurd (uzz.symm.trans c2zz) (by decide)
        · exact absurd (uzz.symm.trans c2zz) (by decide)
        · exact uzz
        · exact absurd (uzz.symm.trans c2zz) (by decide)
      obtain ⟨n0zz, n1zz, n2zz⟩ := nv
      have h1 := z_t h1 (hTzz.2.1.trans c2zz)
      obtain ⟨z3, ez3, ez17⟩ := z_bd (z_t ez17 c2zz)
      have c1' : (1 : Int64).toInt = 1 := by decide
      have c20' : (20 : Int64).toInt = 20 := by decide
      rcases in_iff _ _ _ _ ez3 with ⟨i1zz, i2zz⟩ | ⟨i1zz, i2zz, i3zz⟩
      · refine Or.inl (hbad ?_ (z_t ez17 i1zz))
        rw [c1', c20'] at i2zz
        by_cases d1zz : gI z20 9 < (1 : Int32)
        · exact z_t h1 d1zz
        · have d1' := cv_nlt (a := (gI z20 9).toInt) (b := 1) rfl (by decide) d1zz
          refine z_f (z_f h1 d1zz) (fun czz => ?_)
          have czz := cv_le (a := (gI z20 9).toInt) (b := 20) rfl (by decide) czz
          rcases n2zz with ⟨n2zz, n3zz⟩ | ⟨n2zz, n3zz⟩
          · exact i2zz ⟨by omega, by omega⟩
          · omega
      · rw [c1'] at i2zz
        rw [c20'] at i3zz
        have n3zz : (gI z20 9).toInt = (gL z16 17).toInt := by
          rcases n2zz with ⟨n2zz, n3zz⟩ | ⟨n2zz, n3zz⟩
          · exact n3zz
          · omega
        have h1 := z_f h1 (fun czz => by have czz := cv_lt (a := (gI z20 9).toInt) (b := 1) rfl (by decide) czz; omega)
        have h1 := z_t h1 (Int32.le_iff_toInt_le.mpr (by have : (20 : Int32).toInt = 20 := (by decide); omega))
        obtain ⟨-, h1⟩ := z_gd h1
        obtain ⟨o24, g24, h1⟩ := z_lt h1
        obtain ⟨z25, ez25, h1⟩ := z_bd h1
        rw [ivzz] at g24
        have ez17 := z_f ez17 i1zz
        unfold bk_X9_number_33 at ez17
        obtain ⟨zm, ezm, ez17⟩ := z_bd ez17
        have ezm := mu_ok hX.2.1 (by decide) ezm
        have e17zz := Option.some.inj ez17
        obtain ⟨hX2, f6', f9'⟩ := hX.step ez25 ezm
        have evzz : x1zz = gI z20 9 := Int32.toInt_inj.mp (by rw [gx1, l32 (by omega) n1zz]; exact n3zz.symm)
        have g19' : o19 = tA zm 55 (8 * n + 7) (gI z20 9) := by rw [g19, ← e17zz, evzz]
        have y19 : RW 55 (8 * n) zm o19 := by rw [g19']; exact RW.tA ⟨by omega, by omega⟩
        have hX3 : XS true z25 o24 o19 k1zz k2zz := hX2.rw' y19 (by decide) (by rw [g24]; rfl)
        have a24 : gA o24 1 n = gI z20 9 := by rw [g24, upd_at, if_pos rfl]
        refine Or.inr ⟨z25, o24, o19, h1, h2, hX3, by rw [g24]; rfl, by rw [g24]; rfl, fun izz xzz hix => ?_, ?_, ?_, fun izz hizz => ?_, fun xzz hx' => ?_, ?_, by rw [a24]; omega, by rw [a24]; omega⟩
        · rw [g24, tA_gA, if_neg (fun qzz => by rcases hix with wzz | wzz; exact wzz qzz.1; exact wzz qzz.2)]
        · have w1zz : gI o19 21 = gI zm 21 := by rw [g19']; rfl
          rw [w1zz, f9'.1 21 (by decide) (by decide) (by decide), f9zz.1 21 (by decide) (by decide) (by decide), m7zz]
        · exact y19.2.2.2.1.trans ((congrArg Prod.snd f9'.2.2).trans ((congrArg Prod.snd f9zz.2.2).trans y7.2.2.2.1))
        · exact (y19.2.2.1 izz hizz).trans ((f9'.gA izz).trans ((f9zz.gA izz).trans (y7.2.2.1 izz hizz)))
        · rw [g19', upd_at, if_neg hx', f9'.gA 55, f9zz.gA 55]; exact r7 xzz hx'
        · rw [a24, g19', upd_at, if_pos rfl]
    · exact Or.inl (hbad (z_f h1 (fun qzz => c2zz (hTzz.2.1.symm.trans qzz))) (z_f ez17 c2zz))
set_option maxHeartbeats 200000 in
theorem clause_O {rd oc o yzz : Ob} {k1zz k2zz n : Nat} {v1zz : Int32} {zzz : Int32 × Ob × Ob} {Gzz : Nat → Int32} (hC : ClS true Gzz rd oc o k1zz k2zz n) (hn : n < 12) (evzz : v1zz.toInt = (n : Int)) (h1 : f_X6_readClause 12 400 rd oc v1zz = some zzz) (hy : f_X9_readOrder o = some yzz) : (zzz.1 = 0 ∧ gI yzz 19 = 1 ∧ gI yzz 18 = gI zzz.2.1 3 ∧ gA yzz 3 = Gzz) ∨ (zzz.1 = 1 ∧ ∃ k1' k2' : Nat, ClS true Gzz zzz.2.1 zzz.2.2 yzz k1' k2' (n + 1)) := by
  obtain ⟨hX, e21zz, e7zz, hH, hG, hcl⟩ := hC
  have hTzz := hX.1
  have hMzz := hX.2.2.2.2.2.2.2.2
  have ivzz : v1zz.toNatClampNeg = n := tnc_eq evzz
  unfold f_X6_readClause at h1
  have h1 := z_t h1 (hMzz.1 rfl).1
  unfold bk_X6_readClause_15 at h1
  obtain ⟨z1, ez1, h1⟩ := z_bd h1
  rcases head_eqO hTzz hH.2 ez1 hy with ⟨q1zz, q2zz⟩ | ⟨q1zz, q3zz, q4zz⟩
  · refine Or.inl ?_
    have h1 := z_t h1 q1zz
    unfold bk_X6_readClause_34 at h1
    obtain ⟨zs, ezs, h1⟩ := z_bd h1
    obtain ⟨-, h1⟩ := z_gd h1
    obtain ⟨s1zz, s2zz⟩ := stop8 ezs
    unfold bk_X9_readOrder_54 at q2zz
    obtain ⟨zm, ezm, q2zz⟩ := z_bd q2zz
    have em := mu_no hX.2.1 ezm
    have k19 : gI zm 19 = 1 := by rw [em]; rfl
    rw [← Option.some.inj (z_f q2zz (by rw [k19]; decide)), ← Option.some.inj h1]
    refine ⟨s1zz, k19, ?_, Eq.trans (by rw [em]; rfl) hG⟩
    show gI zm 18 = gI zs.2 3
    rw [s2zz, em]
    show gI o 14 = gI rd 7
    exact hTzz.2.2.1.symm
  · have h1 := z_f h1 (fun czz => by have czz := cv_eq (a := z1.toInt) (b := -1) rfl (by decide) czz; omega)
    have h1 := z_f h1 (fun czz => by have czz := cv_lt (a := (n : Int)) (b := 0) evzz (by decide) czz; omega)
    have h1 := z_t h1 (Int32.lt_iff_toInt_lt.mpr (by have : (12 : Int32).toInt = 12 := (by decide); omega))
    obtain ⟨z4, ez4, h1⟩ := z_bd h1
    obtain ⟨-, h1⟩ := z_gd h1
    obtain ⟨o6, g6, h1⟩ := z_lt h1
    obtain ⟨-, h1⟩ := z_gd h1
    obtain ⟨o8zz, g8, h1⟩ := z_lt h1
    obtain ⟨-, h1⟩ := z_gd h1
    obtain ⟨o10, g10, h1⟩ := z_lt h1
    rw [ivzz] at g6 g8 g10
    have q4zz := q4zz (by omega)
    unfold bk_X9_readOrder_54 at q4zz
    obtain ⟨zm, ezm, q4zz⟩ := z_bd q4zz
    have ezm := mu_ok hX.2.1 (by decide) ezm
    obtain ⟨hX4, f6zz, f9zz⟩ := hX.step ez4 ezm
    obtain ⟨x2zz, gx2, q4zz⟩ := z_lt (z_t q4zz hX4.2.1)
    obtain ⟨o3zz, g3zz, q4zz⟩ := z_lt q4zz
    have k21 : gI zm 21 = gI o 21 := f9zz.1 21 (by decide) (by decide) (by decide)
    have tx2 : x2zz.toInt = 8 * (n : Int) := by rw [gx2, k21]; exact i32_mul (by decide) e21zz (by omega) (by omega)
    have w3zz : RW 55 (8 * n) zm o3zz := by rw [g3zz]; exact RW.s21
    obtain ⟨o5zz, w5, c21, c0zz, c3zz, q4zz⟩ := clr_O tx2 hn zfu 0 o3zz 0 (by decide) (by decide) (fun kzz hk => absurd hk (Nat.not_lt_zero _)) q4zz
    have d21zz : gI o5zz 21 = gI o 21 + 1 := by rw [c21, g3zz]; show gI zm 21 + 1 = _; rw [k21]
    have w7zz := w3zz.tr w5
    have k8zz : gI o10 8 = gI oc 8 := by rw [g10, g8, g6]; rfl
    have hX7 : XS true z4 o10 o5zz k1zz k2zz := hX4.rw' w7zz (by decide) k8zz
    have hmid : (zzz.1 = 0 ∧ ∃ wzz, bk_X9_readOrder_125 x2zz wzz = some yzz ∧ gI wzz 19 = 1 ∧ gI wzz 18 = gI zzz.2.1 3 ∧ gA wzz 3 = gA o5zz 3) ∨ (∃ (rd' oc' o' : Ob) (k1' k2' a2 b2 : Nat), bk_X6_readClause_94 12 400 v1zz rd' oc' = some zzz ∧ bk_X9_readOrder_125 x2zz o' = some yzz ∧ XS true rd' oc' o' k1' k2' ∧ CF z4 o10 rd' oc' ∧ (∀ jzz, jzz < k1zz → gA oc' 5 jzz = gA o10 5 jzz ∧ gA oc' 6 jzz = gA o10 6 jzz) ∧ ckp k2zz o5zz o' ∧ gA o' 3 = gA o5zz 3 ∧ gI o' 21 = gI o5zz 21 ∧ o'.2.2.2 = o5zz.2.2.2 ∧ (∀ xzz, xzz ≤ 8 * n → gA o' 55 xzz = gA o5zz 55 xzz) ∧ (gA o' 55 (8 * n + 1)).toInt = (a2 : Int) ∧ (gA o' 55 (8 * n + 2)).toInt = (b2 : Int) ∧ ((z1 = 3 ∧ k1' = k1zz ∧ k2' = k2zz ∧ a2 = b2) ∨ (¬ z1 = 3 ∧ a2 = k2zz ∧ b2 = k2' ∧ ∃ mzz, mzz ≤ 50 ∧ Sx true (gA oc' 5) (gA oc' 6) (gA o' 24) (gA o' 25) false k1zz k1' k2zz k2' mzz))) := by
      by_cases czz : z1 = 3
      · exact Or.inr ⟨z4, o10, o5zz, k1zz, k2zz, 0, 0, z_t h1 czz, z_t q4zz czz, hX7, CF.rf, fun _ _ => ⟨rfl, rfl⟩, ckp.rf, rfl, rfl, rfl, fun _ _ => rfl, by rw [c3zz 1 (by decide) (by decide)]; decide, by rw [c3zz 2 (by decide) (by decide)]; decide, Or.inl ⟨czz, rfl, rfl, rfl⟩⟩
      · obtain ⟨z26, ez26, h1⟩ := z_bd (z_f h1 czz)
        obtain ⟨z17, ez17, q4zz⟩ := z_bd (z_f q4zz czz)
        unfold f_X9_readSum at ez17
        obtain ⟨-, ez17⟩ := z_gd ez17
        obtain ⟨s2zz, gs2, ez17⟩ := z_lt ez17
        rw [ix8 (czz := 1) (kzz := 1) tx2 hn (by decide) (by decide)] at gs2
        have ys2 : RW 55 (8 * n) o5zz s2zz := by rw [gs2]; exact RW.tA ⟨by omega, by omega⟩
        have hXs : XS true z4 o10 s2zz k1zz k2zz := hX7.rw' ys2 (by decide) rfl
        obtain ⟨z5, ez5, ez17⟩ := z_bd (z_t ez17 hXs.2.1)
        unfold bk_X9_readSum_22 at ez17
        obtain ⟨-, ez17⟩ := z_gd ez17
        obtain ⟨s4zz, gs4, ez17⟩ := z_lt ez17
        have i22 : ((x2zz + (1 : Int32)) + (1 : Int32)).toNatClampNeg = 8 * n + 2 := tnc_eq (by rw [i32_add (a := 8 * (n : Int) + 1) (b := 1) (i32_add tx2 (by decide) (by omega) (by omega)) (by decide) (by omega) (by omega)]; omega)
        rw [i22] at gs4
        have e17zz := Option.some.inj ez17
        rcases x_sum hXs ez26 ez5 with gb | ⟨e1zz, k1', k2', mzz, x1zz, x2', x3, x4zz, x5zz, x6, x7⟩
        · have h1 := Option.some.inj (z_t h1 gb.1)
          refine Or.inl ⟨by rw [← h1], z17, q4zz, ?_, ?_, ?_⟩
          · rw [← e17zz, gs4]; exact gb.2.1
          · rw [← e17zz, gs4, ← h1]; exact gb.2.2.1
          · have u3 : gA z17 3 = gA z5 3 := by rw [← e17zz, gs4]; rfl
            exact u3.trans ((gb.2.2.2.1.2.1 3 (by decide) (by decide) (by decide) (by decide)).trans (ys2.2.2.1 3 (by decide)))
        · have ys4 : RW 55 (8 * n) z5 s4zz := by rw [gs4]; exact RW.tA ⟨by omega, by omega⟩
          rw [← e17zz] at q4zz
          have R5 : gA z5 55 = gA s2zz 55 := x2'.2.1 55 (by decide) (by decide) (by decide) (by decide)
          refine Or.inr ⟨z26.2.1, z26.2.2, s4zz, k1', k2', k2zz, k2', z_f h1 (by rw [e1zz]; decide), q4zz, x1zz.rw' ys4 (by decide) rfl, x3, x4zz, fun jzz hj => ?_, (ys4.2.2.1 3 (by decide)).trans ((x2'.2.1 3 (by decide) (by decide) (by decide) (by decide)).trans (ys2.2.2.1 3 (by decide))), ?_, ?_, fun xzz hx => ?_, ?_, ?_, Or.inr ⟨czz, rfl, rfl, mzz, x6, ?_⟩⟩
          · rw [ys4.2.2.1 24 (by decide), ys4.2.2.1 25 (by decide), (x5zz jzz hj).1, (x5zz jzz hj).2, ys2.2.2.1 24 (by decide), ys2.2.2.1 25 (by decide)]; exact ⟨rfl, rfl⟩
          · have u1zz : gI s4zz 21 = gI z5 21 := by rw [gs4]; rfl
            have u2zz : gI s2zz 21 = gI o5zz 21 := by rw [gs2]; rfl
            rw [u1zz, x2'.1 21 (by decide) (by decide) (by decide) (by decide) (by decide) (by decide) (by decide) (by decide) (by decide), u2zz]
          · exact ys4.2.2.2.1.trans (x2'.2.2.trans ys2.2.2.2.1)
          · rw [gs4, upd_at, if_neg (by omega), R5, gs2, upd_at, if_neg (by omega)]
          · rw [gs4, upd_at, if_neg (by omega), R5, gs2, upd_at, if_pos rfl]; exact hX7.2.2.2.2.2.1
          · rw [gs4, upd_at, if_pos rfl]; exact x1zz.2.2.2.2.2.1
          · rw [ys4.2.2.1 24 (by decide), ys4.2.2.1 25 (by decide)]; exact x7
    have G5 : gA o5zz 3 = Gzz := (w7zz.2.2.1 3 (by decide)).trans ((f9zz.gA 3).trans hG)
    rcases hmid with ⟨e0zz, wzz, b1, b2, b3, b4⟩ | ⟨rd', oc', o', k1', k2', a2, b2, h1, q4zz, hX', cf1zz, cd1, ck1, m3zz, m21, mM, mR, ea2, eb2, hsum⟩
    · have qzz := bad125 b2 b1
      exact Or.inl ⟨e0zz, qzz.1, qzz.2.1.trans b3, qzz.2.2.trans (b4.trans G5)⟩
    · unfold bk_X6_readClause_94 at h1
      obtain ⟨-, h1⟩ := z_gd h1
      obtain ⟨o12, g12, h1⟩ := z_lt h1
      rw [ivzz] at g12
      have h1 := z_t h1 (hX'.2.2.2.2.2.2.2.2.1 rfl).1
      have hX12 : XS true rd' o12 o' k1' k2' := hX'.rw' (RW.rf : RW 55 0 o' o') (by decide) (by rw [g12]; rfl)
      have A1 : ∀ izz, izz < 5 → gA oc' izz = gA o10 izz := fun izz hizz => cf1zz.2.2.2 izz (by omega) (by omega)
      have ho : gA o12 1 n = 1 := by rw [g12, tA_gA, if_neg (by omega), A1 1 (by decide), g10, tA_gA, if_neg (by omega), g8, upd_at, if_pos rfl]
      rcases ph_times hX12 hn ivzz tx2 ho h1 q4zz with ⟨e0zz, wzz, b1, b2', b3, b4⟩ | ⟨rdt, oct, ot, h1, q4zz, hXt, v7, v8, vA, n21zz, nM, nA, nR, nE, nL, nU⟩
      · have qzz := bad173 b2' b1
        exact Or.inl ⟨e0zz, qzz.1, qzz.2.1.trans b3, qzz.2.2.trans (b4.trans (m3zz.trans G5))⟩
      · unfold bk_X9_readOrder_173 at q4zz
        obtain ⟨-, q4zz⟩ := z_gd q4zz
        obtain ⟨o9, g9, q4zz⟩ := z_lt q4zz
        rw [ix8 (kzz := 5) tx2 hn (by decide) (by decide)] at g9
        have y9 : RW 55 (8 * n) ot o9 := by rw [g9]; exact RW.tA ⟨by omega, by omega⟩
        have hX11 : XS true rdt oct o9 k1' k2' := hXt.rw' y9 (by decide) rfl
        have G9 : gA o9 3 = Gzz := (y9.2.2.1 3 (by decide)).trans ((nA 3 (by decide)).trans (m3zz.trans G5))
        rcases ph_test (Kzz := bk_X9_readOrder_211 x2zz) hX11 h1 q4zz with ⟨e0zz, wzz, b1, b2', b3, b4⟩ | ⟨rd'', oc'', o'', k1'', k2'', h1, q4zz, hX'', r2, cf2, cd2, ck2, htst⟩
        · have qzz := bad211 b1
          exact Or.inl ⟨e0zz, qzz.1.trans b2', qzz.2.1.trans b3, qzz.2.2.trans (b4.trans G9)⟩
        · unfold bk_X6_readClause_200 at h1
          obtain ⟨-, h1⟩ := z_gd h1
          obtain ⟨o15, g15, h1⟩ := z_lt h1
          obtain ⟨o16, g16, h1⟩ := z_lt h1
          unfold bk_X9_readOrder_211 at q4zz
          obtain ⟨-, q4zz⟩ := z_gd q4zz
          obtain ⟨o13, g13, q4zz⟩ := z_lt q4zz
          rw [ivzz] at g15
          rw [ix8 (kzz := 6) tx2 hn (by decide) (by decide)] at g13
          rw [← Option.some.inj h1, ← Option.some.inj q4zz]
          refine Or.inr ⟨rfl, k1'', k2'', ?_⟩
          show ClS true Gzz rd'' o16 o13 k1'' k2'' (n + 1)
          have y13 : RW 55 (8 * n) o'' o13 := by rw [g13]; exact RW.tA ⟨by omega, by omega⟩
          have hXf : XS true rd'' o16 o13 k1'' k2'' := hX''.rw' y13 (by decide) (by rw [g16, g15]; rfl)
          have A16 : ∀ izz, gA o16 izz = gA o15 izz := fun izz => by rw [g16]; rfl
          have A2 : ∀ izz, izz < 5 → gA oc'' izz = gA oct izz := fun izz hizz => cf2.2.2.2 izz (by omega) (by omega)
          have vo8 : gI o8zz 8 = gI oc 8 := by rw [g8, g6]; rfl
          have AA : ∀ izz mzz, izz < 5 → (izz ≠ 1 ∨ mzz ≠ n) → gA o16 izz mzz = if izz = 4 ∧ mzz = n then gI oc'' 8 else if izz = 3 ∧ mzz = n then gI oc' 8 else if izz = 2 ∧ mzz = n then gI oc 8 else if izz = 1 ∧ mzz = n then 1 else if izz = 0 ∧ mzz = n then z1 else gA oc izz mzz := fun izz mzz hizz hx => by
            rw [A16 izz, g15, tA_gA, A2 izz hizz, vA izz mzz hx, g12, tA_gA, A1 izz hizz, g10, tA_gA, vo8, g8, tA_gA, g6, tA_gA]
          have a1zz : gA o16 1 n = gA oct 1 n := by rw [A16 1, g15, tA_gA, if_neg (by omega), A2 1 (by decide)]
          have R'' : gA o'' 55 = gA o9 55 := r2.2.1 55 (by decide) (by decide) (by decide) (by decide)
          have BB : ∀ xzz, gA o13 55 xzz = if xzz = 8 * n + 6 then gI o'' 23 else if xzz = 8 * n + 5 then gI ot 23 else gA ot 55 xzz := fun xzz => by rw [g13, upd_at, R'', g9, upd_at]
          have l1 : k1zz ≤ k1' ∧ k2zz ≤ k2' := by
            rcases hsum with ⟨-, azz, bzz, -⟩ | ⟨-, -, -, mzz, -, s⟩
            · exact ⟨by omega, by omega⟩
            · have := s.lt; exact ⟨by omega, by omega⟩
          have l2 : k1' ≤ k1'' ∧ k2' ≤ k2'' := by
            rcases htst with ⟨azz, bzz⟩ | ⟨mzz, -, s⟩
            · exact ⟨by omega, by omega⟩
            · have := s.lt; exact ⟨by omega, by omega⟩
          have e16zz : ∀ izz, izz = 5 ∨ izz = 6 → gA o16 izz = gA oc'' izz := fun izz hizz => by rw [g16, g15]; rcases hizz with ezz | ezz <;> rw [ezz] <;> rfl
          have et : ∀ izz jzz, izz = 5 ∨ izz = 6 → gA oct izz jzz = gA o12 izz jzz := fun izz jzz hizz => vA izz jzz (Or.inl (by omega))
          have e12zz : ∀ izz, izz = 5 ∨ izz = 6 → gA o12 izz = gA oc' izz := fun izz hizz => by rw [g12]; rcases hizz with ezz | ezz <;> rw [ezz] <;> rfl
          have e10zz : ∀ izz, izz = 5 ∨ izz = 6 → gA o10 izz = gA oc izz := fun izz hizz => by rw [g10, g8, g6]; rcases hizz with ezz | ezz <;> rw [ezz] <;> rfl
          have m24 : ∀ izz, izz = 24 ∨ izz = 25 → gA o13 izz = gA o'' izz := fun izz hizz => y13.2.2.1 izz (by omega)
          have n24zz : ∀ izz, izz = 24 ∨ izz = 25 → gA o9 izz = gA o' izz := fun izz hizz => (y9.2.2.1 izz (by omega)).trans (nA izz (by omega))
          have p24 : ∀ izz, izz = 24 ∨ izz = 25 → gA o5zz izz = gA o izz := fun izz hizz => (w7zz.2.2.1 izz (by omega)).trans (f9zz.gA izz)
          refine ⟨hXf, ?_, ?_, ?_, (y13.2.2.1 3 (by decide)).trans ((r2.2.1 3 (by decide) (by decide) (by decide) (by decide)).trans G9), fun mzz hmzz => ?_⟩
          · have uzz : gI o13 21 = gI o 21 + 1 := by
              rw [show gI o13 21 = gI o'' 21 by rw [g13]; rfl, r2.1 21 (by decide) (by decide) (by decide) (by decide) (by decide) (by decide) (by decide) (by decide) (by decide), show gI o9 21 = gI ot 21 by rw [g9]; rfl, n21zz, m21, d21zz]
            rw [uzz]; exact Eq.trans (i32_add e21zz (by decide : (1 : Int32).toInt = 1) (by omega) (by omega)) (by omega)
          · have uzz : gI o16 7 = v1zz + 1 := by rw [g16]; rfl
            rw [uzz]; exact Eq.trans (i32_add evzz (by decide : (1 : Int32).toInt = 1) (by omega) (by omega)) (by omega)
          · exact hH.eq (y13.2.2.2.1.trans (r2.2.2.trans (y9.2.2.2.1.trans (nM.trans (mM.trans (w7zz.2.2.2.1.trans (congrArg Prod.snd f9zz.2.2)))))))
          · by_cases ezz : mzz = n
            · rw [ezz]
              have a0zz : gA o16 0 n = z1 := by rw [AA 0 n (by decide) (Or.inl (by decide)), if_neg (by omega), if_neg (by omega), if_neg (by omega), if_neg (by omega), if_pos ⟨rfl, rfl⟩]
              have a2' : gA o16 2 n = gI oc 8 := by rw [AA 2 n (by decide) (Or.inl (by decide)), if_neg (by omega), if_neg (by omega), if_pos ⟨rfl, rfl⟩]
              have a3 : gA o16 3 n = gI oc' 8 := by rw [AA 3 n (by decide) (Or.inl (by decide)), if_neg (by omega), if_pos ⟨rfl, rfl⟩]
              have a4 : gA o16 4 n = gI oc'' 8 := by rw [AA 4 n (by decide) (Or.inl (by decide)), if_pos ⟨rfl, rfl⟩]
              have b0 : gA o13 55 (8 * n) = z1 := by rw [BB, if_neg (by omega), if_neg (by omega), nR _ (by omega), mR _ (by omega)]; exact c0zz
              have b1 : gA o13 55 (8 * n + 1) = gA o' 55 (8 * n + 1) := by rw [BB, if_neg (by omega), if_neg (by omega), nR _ (by omega)]
              have b2' : gA o13 55 (8 * n + 2) = gA o' 55 (8 * n + 2) := by rw [BB, if_neg (by omega), if_neg (by omega), nR _ (by omega)]
              have b5 : gA o13 55 (8 * n + 5) = gI ot 23 := by rw [BB, if_neg (by omega), if_pos rfl]
              have b6 : gA o13 55 (8 * n + 6) = gI o'' 23 := by rw [BB, if_pos rfl]
              have b7 : gA o13 55 (8 * n + 7) = gA ot 55 (8 * n + 7) := by rw [BB, if_neg (by omega), if_neg (by omega)]
              refine ⟨k1zz, k1', k1'', a2, b2, k2', k2'', ?_, ?_, ?_, ?_, ?_, ?_, ?_, ?_, ?_, ⟨l1.1, l2.1, Nat.le_refl _, l2.2, Nat.le_refl _⟩, ?_, ?_, fun _ => ?_⟩
              · show gA o16 0 n = gA o13 55 (8 * n); rw [a0zz, b0]
              · rw [a0zz]; exact q1zz
              · rw [a2']; exact hX.2.2.2.2.1
              · rw [a3]; exact hX'.2.2.2.2.1
              · rw [a4]; exact hX''.2.2.2.2.1
              · show (gA o13 55 (8 * n + 1)).toInt = _; rw [b1]; exact ea2
              · show (gA o13 55 (8 * n + 2)).toInt = _; rw [b2']; exact eb2
              · show (gA o13 55 (8 * n + 5)).toInt = _; rw [b5]; exact hXt.2.2.2.2.2.1
              · show (gA o13 55 (8 * n + 6)).toInt = _; rw [b6]; exact hX''.2.2.2.2.2.1
              · rw [a0zz]
                rcases hsum with ⟨azz, bzz, czz, d⟩ | ⟨azz, bzz, czz, m', d, s⟩
                · exact Or.inl ⟨azz, bzz.symm, d⟩
                · refine Or.inr ⟨azz, m', d, by omega, ?_⟩
                  rw [bzz, czz]
                  refine s.eq (fun jzz i1zz i2zz => ?_) (fun jzz i1zz i2zz => ?_)
                  · rw [e16zz 5 (Or.inl rfl), e16zz 6 (Or.inr rfl), (cd2 jzz i2zz).1, (cd2 jzz i2zz).2, et 5 jzz (Or.inl rfl), et 6 jzz (Or.inr rfl), e12zz 5 (Or.inl rfl), e12zz 6 (Or.inr rfl)]; exact ⟨rfl, rfl⟩
                  · rw [m24 24 (Or.inl rfl), m24 25 (Or.inr rfl), (ck2 jzz i2zz).1, (ck2 jzz i2zz).2, n24zz 24 (Or.inl rfl), n24zz 25 (Or.inr rfl)]; exact ⟨rfl, rfl⟩
              · rcases htst with ⟨azz, bzz⟩ | ⟨m', azz, bzz⟩
                · exact Or.inl ⟨azz.symm, bzz.symm⟩
                · refine Or.inr ⟨m', azz, bzz.eq (fun jzz i1zz i2zz => ?_) (fun jzz i1zz i2zz => ?_)⟩
                  · rw [e16zz 5 (Or.inl rfl), e16zz 6 (Or.inr rfl)]; exact ⟨rfl, rfl⟩
                  · rw [m24 24 (Or.inl rfl), m24 25 (Or.inr rfl)]; exact ⟨rfl, rfl⟩
              · show gA o16 1 n = gA o13 55 (8 * n + 7) ∧ _
                rw [a1zz, b7]; exact ⟨nE, nL, nU⟩
            · have hmn : mzz < n := by omega
              refine (hcl mzz hmn).mv (fun izz hizz => ?_) (fun jzz hj => ?_) (fun izz hizz => ?_) (fun jzz hj => ?_) (by omega) (by omega)
              · rw [AA izz mzz hizz (Or.inr ezz), if_neg (fun qzz => ezz qzz.2), if_neg (fun qzz => ezz qzz.2), if_neg (fun qzz => ezz qzz.2), if_neg (fun qzz => ezz qzz.2), if_neg (fun qzz => ezz qzz.2)]
              · rw [e16zz 5 (Or.inl rfl), e16zz 6 (Or.inr rfl), (cd2 jzz (by omega)).1, (cd2 jzz (by omega)).2, et 5 jzz (Or.inl rfl), et 6 jzz (Or.inr rfl), e12zz 5 (Or.inl rfl), e12zz 6 (Or.inr rfl), (cd1 jzz hj).1, (cd1 jzz hj).2, e10zz 5 (Or.inl rfl), e10zz 6 (Or.inr rfl)]; exact ⟨rfl, rfl⟩
              · show gA o13 55 (8 * mzz + izz) = gA o 55 (8 * mzz + izz)
                rw [BB, if_neg (by omega), if_neg (by omega), nR _ (by omega), mR _ (by omega), w7zz.2.2.2.2 (8 * mzz + izz) (Or.inl (by omega)), f9zz.gA 55]
              · rw [m24 24 (Or.inl rfl), m24 25 (Or.inr rfl), (ck2 jzz (by omega)).1, (ck2 jzz (by omega)).2, n24zz 24 (Or.inl rfl), n24zz 25 (Or.inr rfl), (ck1 jzz hj).1, (ck1 jzz hj).2, p24 24 (Or.inl rfl), p24 25 (Or.inr rfl)]; exact ⟨rfl, rfl⟩
