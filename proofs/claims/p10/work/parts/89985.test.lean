-- calls that only look
set_option maxHeartbeats 200000 in
theorem told_eq {mv : Ob} {Gzz : Nat → Int32} {pzz wzz zzz : Int32} {Pzz : Nat} (hMzz : TzM mv Gzz) (eP : pzz.toInt = (Pzz : Int)) (hP : Pzz < 7) (hzz : f_X4_told mv pzz wzz = some zzz) : (wzz = 0 ∧ zzz = Gzz (8 + Pzz)) ∨ (wzz = 1 ∧ zzz = Gzz (15 + Pzz)) ∨ (wzz = 2 ∧ zzz = Gzz (22 + Pzz)) ∨ (¬ wzz = 0 ∧ ¬ wzz = 1 ∧ ¬ wzz = 2 ∧ zzz = -1) := by
  have ip : pzz.toNatClampNeg = Pzz := tnc_eq eP
  unfold f_X4_told at hzz
  rw [ip] at hzz
  rcases z_if hzz with ⟨czz, hzz⟩ | ⟨czz, hzz⟩
  · have hzz := Option.some.inj (z_gd hzz).2
    exact Or.inl ⟨czz, by rw [← hzz]; exact (hMzz.1 Pzz hP).1⟩
  · rcases z_if hzz with ⟨c1zz, hzz⟩ | ⟨c1zz, hzz⟩
    · have hzz := Option.some.inj (z_gd hzz).2
      exact Or.inr (Or.inl ⟨c1zz, by rw [← hzz]; exact (hMzz.2.1 Pzz hP).1⟩)
    · rcases z_if hzz with ⟨c2zz, hzz⟩ | ⟨c2zz, hzz⟩
      · have hzz := Option.some.inj hzz
        have ezz := hMzz.2.2.2.2.1 pzz (by omega) (by omega)
        rw [ip] at ezz
        exact Or.inr (Or.inr (Or.inl ⟨c2zz, by rw [← hzz]; exact ezz.symm⟩))
      · exact Or.inr (Or.inr (Or.inr ⟨czz, c1zz, c2zz, (Option.some.inj hzz).symm⟩))
set_option maxHeartbeats 200000 in
theorem tf_status {pl : List CR} {o0zz o1 o4zz o5zz o8zz o6 o11 o9 : Ob} {im0 im1 : Option IR} {yzz : Int32} {y' : Int32 × Ob} (ht : TF pl o0zz o1 o4zz o5zz o8zz o6 o11 o9 im0 im1) (h1 : f_X8_status o0zz = some yzz) (h2 : f_X9_status o9 = some y') : yzz = y'.1 := by
  unfold f_X8_status at h1
  unfold f_X9_status at h2
  obtain ⟨q1zz, g1, h2⟩ := z_lt h2
  rw [← Option.some.inj h1, ← Option.some.inj h2, g1]
  exact ht.2.2.2.1.1
set_option maxHeartbeats 200000 in
theorem tf_stopped {pl : List CR} {o0zz o1 o4zz o5zz o8zz o6 o11 o9 : Ob} {im0 im1 : Option IR} {yzz : Int32} {y' : Int32 × Ob} (ht : TF pl o0zz o1 o4zz o5zz o8zz o6 o11 o9 im0 im1) (h1 : f_X8_stopped o0zz = some yzz) (h2 : f_X9_stopped o9 = some y') : yzz = y'.1 := by
  unfold f_X8_stopped at h1
  unfold f_X9_stopped at h2
  obtain ⟨q1zz, g1, h2⟩ := z_lt h2
  rw [← Option.some.inj h1, ← Option.some.inj h2, g1]
  exact ht.2.2.2.2.1
set_option maxHeartbeats 200000 in
/-- how many run, without more -/
theorem line_rg {isl mv czz mezz : Ob} {pl : List CR} {rzz : Option Nat} {rc gzz : Int32} {yzz : Int32 × Ob × Ob} (hg : 0 ≤ gzz.toInt ∧ gzz.toInt ≤ 7) (e7zz : gI isl 7 = gzz) (hzz : f_X1_lineUp_Q czz isl mv mezz pl rzz rc = some yzz) : 0 ≤ (gI yzz.2.1 4).toInt ∧ (gI yzz.2.1 4).toInt ≤ 7 := by
  have inn : ∀ (rec7 : Option Nat × Int32 × Int32 × Ob × Ob → Option (Int32 × Ob × Ob)) (vzz : Int32) (kzz : Int), 0 ≤ kzz → kzz < 7 → (∀ (xzz : Int32) (c' me' : Ob), xzz = vzz + 1 → (gI c' 4).toInt = kzz + 1 → rec7 (rzz, rc, xzz, c', me') = some yzz → 0 ≤ (gI yzz.2.1 4).toInt ∧ (gI yzz.2.1 4).toInt ≤ 7) → ∀ (Nzz : Nat) (azz : Int32) (c' me' : Ob), (gI c' 4).toInt = kzz → lp_X1_lineUp_Q_61 isl mv pl rec7 Nzz (rzz, rc, vzz, azz, c', me') = some yzz → 0 ≤ (gI yzz.2.1 4).toInt ∧ (gI yzz.2.1 4).toInt ≤ 7 := by
    intro rec7 vzz kzz h0 hk hrec Nzz
    induction Nzz with
    | zero => intro azz c' me' _ hzz; cases hzz
    | succ Nzz ihzz =>
      intro azz c' me' ek hzz
      have hzz : lb_X1_lineUp_Q_61 isl mv pl rec7 (lp_X1_lineUp_Q_61 isl mv pl rec7 Nzz) rzz rc vzz azz c' me' = some yzz := hzz
      have finzz : bk_X1_lineUp_Q_111 isl mv pl rec7 rzz rc vzz azz c' me' = some yzz → 0 ≤ (gI yzz.2.1 4).toInt ∧ (gI yzz.2.1 4).toInt ≤ 7 := by
        intro hzz
        unfold bk_X1_lineUp_Q_111 at hzz
        have hzz := (z_gd hzz).2
        obtain ⟨c1zz, f1zz, hzz⟩ := z_lt hzz
        obtain ⟨c2zz, f2zz, hzz⟩ := z_lt hzz
        unfold bk_X1_lineUp_Q_129 at hzz
        obtain ⟨x1zz, q1zz, hzz⟩ := z_lt hzz
        refine hrec x1zz c2zz me' q1zz ?_ hzz
        rw [f2zz, f1zz]
        exact i32_add ek (by decide) (by omega) (by omega)
      unfold lb_X1_lineUp_Q_61 at hzz
      rcases z_if hzz with ⟨-, hzz⟩ | ⟨-, hzz⟩
      · exact finzz hzz
      · have hzz := (z_gd (z_gd (z_gd hzz).2).2).2
        rcases z_if hzz with ⟨-, hzz⟩ | ⟨-, hzz⟩
        · exact finzz hzz
        · have hzz := (z_gd (z_gd hzz).2).2
          obtain ⟨c1zz, f1zz, hzz⟩ := z_lt hzz
          obtain ⟨x1zz, q1zz, hzz⟩ := z_lt hzz
          exact ihzz x1zz c1zz me' (by rw [f1zz]; exact ek) hzz
  have outzz : ∀ (Nzz : Nat) (vzz : Int32) (c' me' : Ob) (izz kzz : Nat), vzz.toInt = (izz : Int) → kzz ≤ izz → izz ≤ 7 → (gI c' 4).toInt = (kzz : Int) → lp_X1_lineUp_Q_7 isl mv pl Nzz (rzz, rc, vzz, c', me') = some yzz → 0 ≤ (gI yzz.2.1 4).toInt ∧ (gI yzz.2.1 4).toInt ≤ 7 := by
    intro Nzz
    induction Nzz with
    | zero => intro vzz c' me' izz kzz _ _ _ _ hzz; cases hzz
    | succ Nzz ihzz =>
      intro vzz c' me' izz kzz evzz hki hizz ek hzz
      have hzz : lb_X1_lineUp_Q_7 isl mv pl (lp_X1_lineUp_Q_7 isl mv pl Nzz) rzz rc vzz c' me' = some yzz := hzz
      unfold lb_X1_lineUp_Q_7 at hzz
      rcases z_if hzz with ⟨-, hzz⟩ | ⟨c0zz, hzz⟩
      · rw [← Option.some.inj hzz]
        show 0 ≤ (gI c' 4).toInt ∧ (gI c' 4).toInt ≤ 7
        omega
      · have c0zz := cv_nle (a := gzz.toInt) (b := (izz : Int)) (by rw [e7zz]) evzz c0zz
        have nxtzz : ∀ me'', bk_X1_lineUp_Q_129 isl mv pl (lp_X1_lineUp_Q_7 isl mv pl Nzz) rzz rc vzz c' me'' = some yzz → 0 ≤ (gI yzz.2.1 4).toInt ∧ (gI yzz.2.1 4).toInt ≤ 7 := by
          intro me'' hzz
          unfold bk_X1_lineUp_Q_129 at hzz
          obtain ⟨x1zz, q1zz, hzz⟩ := z_lt hzz
          exact ihzz x1zz c' me'' (izz + 1) kzz (by rw [q1zz]; exact Eq.trans (i32_add evzz (by decide : (1 : Int32).toInt = 1) (by omega) (by omega)) (by omega)) (by omega) (by omega) ek hzz
        obtain ⟨z2, -, hzz⟩ := z_bd hzz
        rcases z_if hzz with ⟨-, hzz⟩ | ⟨-, hzz⟩
        · exact nxtzz _ hzz
        · obtain ⟨z4, -, hzz⟩ := z_bd hzz
          rcases z_if hzz with ⟨-, hzz⟩ | ⟨-, hzz⟩
          · obtain ⟨z5, -, hzz⟩ := z_bd hzz
            have hzz := (z_gd hzz).2
            obtain ⟨c7zz, g7, hzz⟩ := z_lt hzz
            obtain ⟨x8, g8, hzz⟩ := z_lt hzz
            refine inn _ vzz (kzz : Int) (by omega) (by omega) (fun xzz c2zz me2 exzz e2zz h2 => ?_) zfu x8 c7zz z5.2 (by rw [g7]; exact ek) hzz
            exact ihzz xzz c2zz me2 (izz + 1) (kzz + 1) (by rw [exzz]; exact Eq.trans (i32_add evzz (by decide : (1 : Int32).toInt = 1) (by omega) (by omega)) (by omega)) (by omega) (by omega) (by rw [e2zz]; omega) h2
          · exact nxtzz _ hzz
  unfold f_X1_lineUp_Q at hzz
  obtain ⟨c1zz, f1zz, hzz⟩ := z_lt hzz
  exact outzz zfu 0 c1zz mezz 0 0 (by decide) (Nat.le_refl _) (by decide) (by rw [f1zz]; exact (by decide : (0 : Int32).toInt = ((0 : Nat) : Int))) hzz
set_option maxHeartbeats 200000 in
theorem tf_placed {pl : List CR} {o0zz o1 mezz o4zz o5zz czz o8zz o6 o11 o9 : Ob} {im0 im1 : Option IR} {p0zz p1zz : Int32} {yzz : Int32 × Ob × Ob} {y' : Int32 × Ob} (ht : TF pl o0zz o1 o4zz o5zz o8zz o6 o11 o9 im0 im1) (h20 : gI o9 20 = 0) (h1 : f_X8_placed o0zz mezz o4zz o5zz czz pl p0zz p1zz = some yzz) (h2 : f_X9_placed o9 p0zz p1zz = some y') : yzz.1 = y'.1 := by
  unfold f_X8_placed at h1
  unfold f_X9_placed at h2
  obtain ⟨q1zz, g1, h2⟩ := z_lt h2
  have ht1 : TF pl o0zz o1 o4zz o5zz o8zz o6 o11 q1zz im0 im1 := by rw [g1]; exact ht.sI0
  obtain ⟨hI, hMzz, -, hL, h20', en, -⟩ := ht1.s (by rw [g1]; exact h20)
  obtain ⟨z1, k1zz, h1⟩ := z_bd h1
  obtain ⟨w2zz, l2, h2⟩ := z_bd h2
  rcases isR9 l2 with ⟨b1, b2⟩ | ⟨b1, b2⟩
  · have c1zz : z1 = 0 := by
      rcases isR8 k1zz with ⟨uzz, -⟩ | ⟨-, uzz⟩
      · exact uzz
      · exact absurd uzz b2
    rw [← Option.some.inj (z_t h1 c1zz), ← Option.some.inj (z_t h2 b1)]
  · have c1zz : ¬ z1 = 0 := by
      rcases isR8 k1zz with ⟨-, uzz⟩ | ⟨uzz, -⟩
      · exact absurd b2 uzz
      · exact uzz
    obtain ⟨z2, k2zz, h1⟩ := z_bd (z_f h1 c1zz)
    obtain ⟨z3, k3zz, h1⟩ := z_bd h1
    obtain ⟨w3zz, l3, h2⟩ := z_bd (z_f h2 b1)
    have i9zz := in9 (m := 0) (n := 7) (by decide) (by decide) l3
    obtain ⟨R, eR⟩ : ∃ R : Nat, p0zz.toInt = (R : Int) := ⟨p0zz.toInt.toNat, by omega⟩
    -- whoever is at a place
    have farzz : ∀ kzz n : Nat, kzz ≤ n → n ≤ 7 → (gI z3.2.1 4).toInt = (kzz : Int) → ¬ (0 ≤ p1zz.toInt ∧ p1zz.toInt ≤ 7) → (if p1zz = (0 : Int32) then (some (z3.1, z3.2.2, z3.2.1)) else ((f_X1_at z3.2.1 p1zz).bind fun z4 => some (z4, z3.2.2, z3.2.1))) = some yzz → yzz.1 = -1 := by
      intro kzz n hk hn ek hp hzz
      have hzz := z_f hzz (fun qzz => by rw [qzz] at hp; exact hp (by decide))
      obtain ⟨z4, k4zz, hzz⟩ := z_bd hzz
      rw [← Option.some.inj hzz]
      unfold f_X1_at at k4zz
      rcases z_if k4zz with ⟨-, k4zz⟩ | ⟨d, k4zz⟩
      · exact (Option.some.inj k4zz).symm
      · have d := cv_nlt (a := p1zz.toInt) (b := 1) rfl (by decide) d
        rcases z_if k4zz with ⟨-, k4zz⟩ | ⟨d2zz, k4zz⟩
        · exact (Option.some.inj k4zz).symm
        · have d2zz := cv_nlt (a := (kzz : Int)) (b := p1zz.toInt) ek rfl d2zz
          omega
    rcases i9zz with ⟨d1zz, d2zz⟩ | ⟨d1zz, d2zz⟩
    · have h2 := Option.some.inj (z_t h2 d1zz)
      rw [← h2]
      have r4 : (0 ≤ (gI z3.2.1 4).toInt ∧ (gI z3.2.1 4).toInt ≤ 7) := line_rg hI.1.2 hI.1.1 k3zz
      obtain ⟨kzz, ek⟩ : ∃ kzz : Nat, (gI z3.2.1 4).toInt = (kzz : Int) := ⟨(gI z3.2.1 4).toInt.toNat, by omega⟩
      exact farzz kzz 7 (by omega) (by decide) ek d2zz h1
    · obtain ⟨w4zz, l4, h2⟩ := z_bd (z_f h2 d1zz)
      obtain ⟨kzz, hkn, hTzz, hz⟩ := line_eq (hL z2 k2zz) (WtL.of hI hMzz) hMzz.2.2.2.2.1 h20' en eR (by omega) k3zz l4
      by_cases c2zz : p1zz = 0
      · rw [← Option.some.inj (z_t h1 c2zz), ← Option.some.inj (z_t h2 c2zz)]
        exact hz.trans hTzz.1
      · obtain ⟨z4, k4zz, h1⟩ := z_bd (z_f h1 c2zz)
        have h2 := z_f h2 c2zz
        have c2' := cv_ne (a := p1zz.toInt) (b := 0) rfl (by decide) c2zz
        obtain ⟨izz, ei⟩ : ∃ izz : Nat, p1zz.toInt = (izz : Int) + 1 := ⟨(p1zz.toInt - 1).toNat, by omega⟩
        have ek9 : (gI w4zz 43).toInt = (kzz : Int) := by rw [← hTzz.1]; exact hTzz.2.1
        rw [← Option.some.inj h1]
        rcases at_eq hTzz.2.1 ei (by omega) k4zz with ⟨u1zz, u2zz⟩ | ⟨u1zz, u2zz⟩
        · have h2 := z_f h2 (fun qzz => by have qzz := cv_lt (a := (kzz : Int)) (b := (izz : Int) + 1) ek9 ei qzz; omega)
          have ix : (p1zz - (1 : Int32)).toNatClampNeg = izz := tnc_eq (by rw [i32_sub ei (by decide : (1 : Int32).toInt = 1) (by omega) (by omega)]; omega)
          rw [ix] at h2
          rw [← Option.some.inj (z_gd h2).2]
          show z4 = gA w4zz 42 izz
          rw [u2zz]; exact (hTzz.2.2 izz u1zz).1
        · have h2 := z_t h2 (Int32.lt_iff_toInt_lt.mpr (by rw [ek9, ei]; omega))
          rw [← Option.some.inj h2]
          exact u2zz
set_option maxHeartbeats 200000 in
theorem tf_drawn {pl : List CR} {o0zz o1 o4zz o5zz o8zz o6 o11 o9 : Ob} {im0 im1 : Option IR} {p0zz p1zz : Int32} {yzz : Int32} {y' : Int32 × Ob} (ht : TF pl o0zz o1 o4zz o5zz o8zz o6 o11 o9 im0 im1) (h1 : f_X8_drawn o0zz o8zz o6 p0zz p1zz = some yzz) (h2 : f_X9_drawn o9 p0zz p1zz = some y') : yzz = y'.1 := by
  unfold f_X8_drawn at h1
  unfold f_X9_drawn at h2
  obtain ⟨q1zz, g1, h2⟩ := z_lt h2
  have ht1 : TF pl o0zz o1 o4zz o5zz o8zz o6 o11 q1zz im0 im1 := by rw [g1]; exact ht.sI0
  obtain ⟨hp, hMzz⟩ := ht1.2.2.2.2.2.1
  obtain ⟨z1, k1zz, h1⟩ := z_bd h1
  obtain ⟨w2zz, l2, h2⟩ := z_bd h2
  have e62 : ((gI q1zz 62).toInt64 - (1 : Int64)).toInt = (gI q1zz 62).toInt - 1 := by
    have bzz := i32_rg (gI q1zz 62)
    exact i64_sub (Int32.toInt_toInt64 _) (by decide) (by omega) (by omega)
  have i9zz := in9 (m := 0) (by decide) e62 l2
  have p2zz := isP2 k1zz
  have linkzz : (0 ≤ p0zz.toInt ∧ p0zz.toInt < (gI o8zz 7).toInt) ↔ (0 ≤ p0zz.toInt ∧ p0zz.toInt ≤ (gI q1zz 62).toInt - 1) := by
    rcases hp with ⟨azz, bzz⟩ | ⟨azz, bzz⟩
    · rw [azz]; omega
    · rw [azz, bzz, (by decide : (-1 : Int32).toInt = -1), (by decide : (0 : Int32).toInt = 0)]; omega
  rcases i9zz with ⟨d1zz, d2zz⟩ | ⟨d1zz, d2zz⟩
  · have c1zz : z1 = 0 := by
      rcases p2zz with ⟨uzz, -⟩ | ⟨-, uzz⟩
      · exact uzz
      · exact absurd (linkzz.mp uzz) d2zz
    rw [← Option.some.inj (z_t h1 c1zz), ← Option.some.inj (z_t h2 d1zz)]
  · have c1zz : ¬ z1 = 0 := by
      rcases p2zz with ⟨-, uzz⟩ | ⟨uzz, -⟩
      · exact absurd (linkzz.mpr d2zz) uzz
      · exact uzz
    have wzz := linkzz.mpr d2zz
    have n7 : (gI o8zz 7).toInt ≤ 7 := by
      rcases hp with ⟨-, bzz⟩ | ⟨-, bzz⟩
      · exact bzz.2
      · rw [bzz]; decide
    obtain ⟨z2, k2zz, h1⟩ := z_bd (z_f h1 c1zz)
    have h1 := Option.some.inj h1
    obtain ⟨Pzz, eP⟩ : ∃ Pzz : Nat, p0zz.toInt = (Pzz : Int) := ⟨p0zz.toInt.toNat, by omega⟩
    have td := told_eq hMzz eP (by omega) k2zz
    obtain ⟨w3zz, l3, h2⟩ := z_bd (z_f h2 d1zz)
    have j9zz := in9 (m := 0) (n := 2) (by decide) (by decide) l3
    have ix : ∀ (s : Int32) (kzz : Nat), s.toInt = (kzz : Int) → 4 ≤ kzz → kzz ≤ 22 → ((s - (4 : Int32)) + p0zz).toNatClampNeg = kzz - 4 + Pzz := fun s kzz es h4 h22 => tnc_eq (by rw [i32_add (i32_sub es (by decide : (4 : Int32).toInt = 4) (by omega) (by omega)) eP (by omega) (by omega)]; omega)
    rw [← h1]
    rcases j9zz with ⟨e1zz, e2zz⟩ | ⟨e1zz, e2zz⟩
    · rw [← Option.some.inj (z_t h2 e1zz)]
      rcases td with ⟨uzz, -⟩ | ⟨uzz, -⟩ | ⟨uzz, -⟩ | ⟨-, -, -, uzz⟩
      · rw [uzz] at e2zz; exact absurd (by decide) e2zz
      · rw [uzz] at e2zz; exact absurd (by decide) e2zz
      · rw [uzz] at e2zz; exact absurd (by decide) e2zz
      · exact uzz
    · have h2 := z_f h2 e1zz
      have cell : ∀ (kzz : Nat), 4 ≤ kzz → kzz ≤ 22 → drA q1zz (kzz + Pzz) = gA q1zz 61 (kzz - 4 + Pzz) := fun kzz h4 h22 => by
        unfold drA
        have : kzz + Pzz - 4 = kzz - 4 + Pzz := by omega
        rw [this]
      rcases td with ⟨uzz, vzz⟩ | ⟨uzz, vzz⟩ | ⟨uzz, vzz⟩ | ⟨u1zz, u2zz, u3, -⟩
      · have h2 := z_t h2 uzz
        unfold bk_X9_drawn_60 at h2
        rw [ix 8 8 (by decide) (by decide) (by decide)] at h2
        rw [← Option.some.inj (z_gd h2).2, vzz]
        exact cell 8 (by decide) (by decide)
      · have h2 := z_t (z_f h2 (by rw [uzz]; decide)) uzz
        unfold bk_X9_drawn_60 at h2
        rw [ix 15 15 (by decide) (by decide) (by decide)] at h2
        rw [← Option.some.inj (z_gd h2).2, vzz]
        exact cell 15 (by decide) (by decide)
      · have h2 := z_f (z_f h2 (by rw [uzz]; decide)) (by rw [uzz]; decide)
        unfold bk_X9_drawn_60 at h2
        rw [ix 22 22 (by decide) (by decide) (by decide)] at h2
        rw [← Option.some.inj (z_gd h2).2, vzz]
        exact cell 22 (by decide) (by decide)
      · exfalso
        rcases i32_cases8 e2zz.1 (by omega) with qzz | qzz | qzz | qzz | qzz | qzz | qzz | qzz
        · exact u1zz qzz
        · exact u2zz qzz
        · exact u3 qzz
        all_goals (rw [qzz] at e2zz; exact absurd e2zz.2 (by decide))
