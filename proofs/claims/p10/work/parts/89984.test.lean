-- terms, strength, beats, seen
set_option maxHeartbeats 200000 in
theorem TzM.ext5 {mv : Ob} {Gzz G' : Nat → Int32} (hzz : TzM mv Gzz) (eg : ∀ jzz, (jzz = 4 ∨ (7 ≤ jzz ∧ jzz < 29)) → G' jzz = Gzz jzz) : TzM mv G' := by
  refine ⟨fun jzz hj => ?_, fun jzz hj => ?_, ?_, ?_, hzz.2.2.2.2.1.of rfl (fun jzz h1 h2 => eg jzz (by omega)), hzz.2.2.2.2.2⟩
  · rw [eg _ (by omega)]; exact hzz.1 jzz hj
  · rw [eg _ (by omega)]; exact hzz.2.1 jzz hj
  · rw [eg 7 (by omega)]; exact hzz.2.2.1
  · rw [eg 4 (by omega)]; exact hzz.2.2.2.1
set_option maxHeartbeats 200000 in
/-- a past that is empty in both -/
theorem PaT.emp {pa o : Ob} {n : Nat} {Gzz : Nat → Int32} (e3zz : gI pa 3 = 0) (e2zz : gI pa 2 = 0) (e8 : gI o 8 = 0) : PaT pa o n Gzz := ⟨by rw [e3zz, e8], 0, 0, by rw [e3zz]; decide, by decide, by rw [e2zz]; decide, by decide, fun izz hizz => absurd hizz (by omega)⟩
set_option maxHeartbeats 200000 in
theorem clear_d {pa zzz : Ob} (hzz : f_X5_clear pa = some zzz) : gI zzz 3 = 0 ∧ gI zzz 2 = 0 := by
  unfold f_X5_clear at hzz
  obtain ⟨p1zz, g1, hzz⟩ := z_lt hzz
  obtain ⟨p2zz, g2, hzz⟩ := z_lt hzz
  rw [← Option.some.inj hzz, g2, g1]
  exact ⟨rfl, rfl⟩
set_option maxHeartbeats 200000 in
theorem PaT.cell {pa o o' : Ob} {n : Nat} {Gzz G' : Nat → Int32} (hzz : PaT pa o n Gzz) (e8 : gI o' 8 = gI o 8) (e6zz : gA o' 6 = gA o 6) (e7zz : gA o' 7 = gA o 7) (eg : ∀ jzz, (jzz = 5 ∨ jzz = 6 ∨ (15 + n ≤ jzz ∧ jzz < 22) ∨ (22 + n ≤ jzz ∧ jzz < 29)) → G' jzz = Gzz jzz) : PaT pa o' n G' := by
  obtain ⟨v0zz, sz, fi, v1zz, v2, v3, v4zz, v5⟩ := hzz
  exact ⟨v0zz.trans e8.symm, sz, fi, v1zz, v2, v3, v4zz, fun izz hizz => (v5 izz hizz).mv rfl (fun _ _ => rfl) (by rw [e7zz]) (fun _ _ => by rw [e6zz]) eg⟩
set_option maxHeartbeats 200000 in
theorem tf_terms {pl : List CR} {o0zz o1 o4zz o5zz o8zz o6 o11 o9 : Ob} {im0 im1 : Option IR} {p0zz p1zz : Int32} {yzz : Int32 × Ob × Ob × Ob × Ob} {y' : Int32 × Ob} (ht : TF pl o0zz o1 o4zz o5zz o8zz o6 o11 o9 im0 im1) (h1 : f_X8_terms o0zz o4zz o5zz o11 p0zz p1zz = some yzz) (h2 : f_X9_terms o9 p0zz p1zz = some y') : yzz.1 = y'.1 ∧ TF pl yzz.2.1 o1 yzz.2.2.1 yzz.2.2.2.1 o8zz o6 yzz.2.2.2.2 y'.2 im0 im1 := by
  unfold f_X9_terms at h2
  obtain ⟨q1zz, g1, h2⟩ := z_lt h2
  have ht1 : TF pl o0zz o1 o4zz o5zz o8zz o6 o11 q1zz im0 im1 := by rw [g1]; exact ht.sI0
  obtain ⟨t1zz, t2zz, t3zz, t4zz⟩ := ht1.2.2.2.2.2.2.1
  -- refused
  have no : bk_X8_terms_41 o0zz o4zz o5zz o11 = some yzz → ∀ s, s = 0 → bk_X9_terms_60 p0zz p1zz s q1zz = some y' → yzz.1 = y'.1 ∧ TF pl yzz.2.1 o1 yzz.2.2.1 yzz.2.2.2.1 o8zz o6 yzz.2.2.2.2 y'.2 im0 im1 := by
    intro h1 s hs h2
    unfold bk_X8_terms_41 at h1
    unfold bk_X9_terms_60 at h2
    obtain ⟨z1, k1zz, h1⟩ := z_bd h1
    obtain ⟨w4zz, l4, h2⟩ := z_bd (z_t h2 hs)
    have h1 := Option.some.inj h1
    have h2 := Option.some.inj h2
    rw [← h1, ← h2]
    exact ht1.no (Or.inl rfl) k1zz l4
  -- set
  have yes : ∀ (kzz : Nat) (s : Int32), p0zz.toInt = (kzz : Int) → kzz < 3 → ¬ s = 0 → 0 ≤ p1zz.toInt → p1zz.toInt ≤ (if kzz = 0 then 999 else if kzz = 1 then 10 else 9) → (∀ z2 z3, f_X2_term o4zz o5zz p0zz = some z2 → f_X2_setTerm o4zz o5zz p0zz p1zz = some z3 → z2 = gA q1zz 3 (4 + kzz) ∧ Tia pl z3.1 z3.2 (upd (gA q1zz 3) (4 + kzz) p1zz)) → ((f_X2_term o4zz o5zz p0zz).bind fun z2 => (f_X2_setTerm o4zz o5zz p0zz p1zz).bind fun z3 => (f_X5_clear o11).bind fun z4 => (f_X8_grant o0zz z2).bind fun z5 => some (z5.1, z5.2, z3.1, z3.2, z4)) = some yzz → bk_X9_terms_60 p0zz p1zz s q1zz = some y' → yzz.1 = y'.1 ∧ TF pl yzz.2.1 o1 yzz.2.2.1 yzz.2.2.2.1 o8zz o6 yzz.2.2.2.2 y'.2 im0 im1 := by
    intro kzz s ek hk hs _ _ hset h1 h2
    obtain ⟨z2, k2zz, h1⟩ := z_bd h1
    obtain ⟨z3, k3zz, h1⟩ := z_bd h1
    obtain ⟨z4, k4zz, h1⟩ := z_bd h1
    obtain ⟨z5, k5zz, h1⟩ := z_bd h1
    have h1 := Option.some.inj h1
    obtain ⟨u1zz, u2zz⟩ := hset z2 z3 k2zz k3zz
    unfold bk_X9_terms_60 at h2
    obtain ⟨q2zz, g2, h2⟩ := z_lt (z_f h2 hs)
    obtain ⟨w3zz, l3, h2⟩ := z_bd h2
    have h2 := Option.some.inj h2
    have t4k : ((4 : Int32) + p0zz).toInt = ((4 + kzz : Nat) : Int) := by rw [i32_add (by decide : (4 : Int32).toInt = 4) ek (by omega) (by omega)]; omega
    obtain ⟨c1zz, c2zz⟩ := chg t4k l3
    have ez := grant_d k5zz
    have ec := clear_d k4zz
    have eG : gA w3zz.2 3 = upd (gA q1zz 3) (4 + kzz) p1zz := by rw [c2zz, g2]; rfl
    rw [← h1, ← h2, ez]
    refine ⟨by show z2 = w3zz.1; rw [c1zz, u1zz, g2]; rfl, ?_⟩
    refine ht1.isl (by rw [c2zz, g2]; exact FrX.sI (FrX.tA (FrX.sI FrX.rf rfl) rfl) rfl) (by show Tia pl z3.1 z3.2 (gA w3zz.2 3); rw [eG]; exact u2zz) (PaT.emp ec.1 ec.2 (by rw [c2zz, g2]; rfl)) ?_ rfl rfl rfl
    refine ⟨by rw [c2zz]; rfl, fun jzz hj => ?_⟩
    rw [c2zz, g2]
    exact ht1.2.2.2.1.2 jzz hj
  unfold f_X8_terms at h1
  have tis : ∀ kzz, kzz < 3 → Tis o4zz (upd (gA q1zz 3) (4 + kzz) p1zz) := fun kzz hk => t1zz.eq rfl rfl rfl rfl rfl (fun jzz hj => by rw [updA, if_neg (by omega)])
  have zr : ∀ kzz, kzz < 3 → ZrT (upd (gA q1zz 3) (4 + kzz) p1zz) := fun kzz hk jzz hj => by
    have g0 := t2zz.1.1.2.1
    rw [updA, if_neg (by omega)] at hj
    rw [updA, if_neg (by omega)]
    exact t4zz jzz hj
  have lp : ∀ M : Int32, ∀ Kzz : Int, M.toInt = Kzz → bk_X8_terms_31 p0zz p1zz M o0zz o4zz o5zz o11 = some yzz → (¬ (0 ≤ p1zz.toInt ∧ p1zz.toInt ≤ Kzz) ∧ bk_X8_terms_41 o0zz o4zz o5zz o11 = some yzz) ∨ ((0 ≤ p1zz.toInt ∧ p1zz.toInt ≤ Kzz) ∧ ((f_X2_term o4zz o5zz p0zz).bind fun z2 => (f_X2_setTerm o4zz o5zz p0zz p1zz).bind fun z3 => (f_X5_clear o11).bind fun z4 => (f_X8_grant o0zz z2).bind fun z5 => some (z5.1, z5.2, z3.1, z3.2, z4)) = some yzz) := by
    intro M Kzz eMzz hzz
    unfold bk_X8_terms_31 at hzz
    rcases z_if hzz with ⟨czz, hzz⟩ | ⟨czz, hzz⟩
    · have czz := cv_lt (a := p1zz.toInt) (b := 0) rfl (by decide) czz
      exact Or.inl ⟨by omega, hzz⟩
    · have czz := cv_nlt (a := p1zz.toInt) (b := 0) rfl (by decide) czz
      rcases z_if hzz with ⟨d, hzz⟩ | ⟨d, hzz⟩
      · have d := cv_le (a := p1zz.toInt) (b := Kzz) rfl eMzz d
        exact Or.inr ⟨⟨czz, d⟩, hzz⟩
      · have d := cv_nle (a := p1zz.toInt) (b := Kzz) rfl eMzz d
        exact Or.inl ⟨by omega, hzz⟩
  by_cases c0zz : p0zz = 0
  · have h1 := z_t h1 c0zz
    obtain ⟨w7zz, l7, h2⟩ := z_bd (z_t h2 c0zz)
    have i9zz := in9 (m := 0) (n := 999) (by decide) (by decide) l7
    rcases lp 999 999 (by decide) h1 with ⟨azz, h1⟩ | ⟨azz, h1⟩
    · rcases i9zz with ⟨uzz, -⟩ | ⟨-, uzz⟩
      · exact no h1 w7zz uzz h2
      · exact absurd uzz azz
    · rcases i9zz with ⟨-, uzz⟩ | ⟨uzz, -⟩
      · exact absurd azz uzz
      · refine yes 0 w7zz (by rw [c0zz]; decide) (by decide) uzz azz.1 azz.2 (fun z2 z3 e2zz e3zz => ?_) h1 h2
        unfold f_X2_term at e2zz
        unfold f_X2_setTerm at e3zz
        have e2zz := Option.some.inj (z_t e2zz c0zz)
        obtain ⟨q3zz, g3zz, e3zz⟩ := z_lt (z_t e3zz c0zz)
        have e3zz := Option.some.inj e3zz
        rw [← e2zz, ← e3zz]
        refine ⟨t3zz.2.2.2.1.1, tis 0 (by decide), t2zz.ext rfl rfl rfl rfl rfl (fun _ _ => rfl) (fun _ _ => rfl) (fun _ _ => rfl) (fun _ _ => rfl) (fun jzz hj => by rw [updA, if_neg (by omega)]), ?_, zr 0 (by decide)⟩
        show TzM q3zz _
        rw [g3zz]
        exact t3zz.year azz
  · have h1 := z_f h1 c0zz
    have h2 := z_f h2 c0zz
    by_cases c1zz : p0zz = 1
    · have h1 := z_t h1 c1zz
      obtain ⟨w6zz, l6, h2⟩ := z_bd (z_t h2 c1zz)
      have i9zz := in9 (m := 0) (n := 10) (by decide) (by decide) l6
      rcases lp 10 10 (by decide) h1 with ⟨azz, h1⟩ | ⟨azz, h1⟩
      · rcases i9zz with ⟨uzz, -⟩ | ⟨-, uzz⟩
        · exact no h1 w6zz uzz h2
        · exact absurd uzz azz
      · rcases i9zz with ⟨-, uzz⟩ | ⟨uzz, -⟩
        · exact absurd azz uzz
        · refine yes 1 w6zz (by rw [c1zz]; decide) (by decide) uzz azz.1 azz.2 (fun z2 z3 e2zz e3zz => ?_) h1 h2
          unfold f_X2_term at e2zz
          unfold f_X2_setTerm at e3zz
          have e2zz := Option.some.inj (z_t (z_f e2zz c0zz) c1zz)
          obtain ⟨q3zz, g3zz, e3zz⟩ := z_lt (z_t (z_f e3zz c0zz) c1zz)
          have e3zz := Option.some.inj e3zz
          rw [← e2zz, ← e3zz]
          obtain ⟨u1zz, u2zz, u3, u4zz, u5, u6⟩ := t2zz
          refine ⟨u4zz.1, by show Tis q3zz _; rw [g3zz]; exact tis 1 (by decide), ?_, t3zz.ext5 (fun jzz hj => by rw [updA, if_neg (by omega)]), zr 1 (by decide)⟩
          · show TzI pl q3zz (upd (gA q1zz 3) 5 p1zz)
            rw [g3zz]
            have Ezz : ∀ jzz, jzz ≠ 5 → upd (gA q1zz 3) 5 p1zz jzz = gA q1zz 3 jzz := fun jzz hj => by rw [updA, if_neg hj]
            refine ⟨⟨by rw [Ezz 0 (by decide)]; exact u1zz.1, fun jzz hj => by rw [Ezz (36 + jzz) (by omega)]; exact u1zz.2.1 jzz hj, by rw [Ezz 6 (by decide)]; exact u1zz.2.2⟩, by rw [Ezz 2 (by decide)]; exact u2zz, by rw [Ezz 3 (by decide), Ezz 2 (by decide)]; exact u3, ⟨rfl, azz⟩, fun jzz hj => by rw [Ezz (71 + 2 * jzz) (by omega), Ezz (72 + 2 * jzz) (by omega)]; exact u5 jzz hj, fun l hl => ?_⟩
            rw [Ezz 2 (by decide)] at hl
            obtain ⟨aa, cc, r1zz, r2, r3⟩ := u6 l hl
            exact ⟨aa, cc, r1zz, r2, r3.eq (fun jzz hj => Ezz jzz (by omega))⟩
    · have h1 := z_f h1 c1zz
      have h2 := z_f h2 c1zz
      by_cases c2zz : p0zz = 2
      · have h1 := z_t h1 c2zz
        obtain ⟨w5, l5, h2⟩ := z_bd (z_t h2 c2zz)
        have i9zz := in9 (m := 0) (n := 9) (by decide) (by decide) l5
        rcases lp 9 9 (by decide) h1 with ⟨azz, h1⟩ | ⟨azz, h1⟩
        · rcases i9zz with ⟨uzz, -⟩ | ⟨-, uzz⟩
          · have h2 := z_t h2 uzz
            unfold bk_X9_terms_59 at h2
            exact no h1 0 rfl h2
          · exact absurd uzz azz
        · rcases i9zz with ⟨-, uzz⟩ | ⟨uzz, -⟩
          · exact absurd azz uzz
          · have h2 := z_f h2 uzz
            refine yes 2 1 (by rw [c2zz]; decide) (by decide) (by decide) azz.1 azz.2 (fun z2 z3 e2zz e3zz => ?_) h1 h2
            unfold f_X2_term at e2zz
            unfold f_X2_setTerm at e3zz
            have e2zz := Option.some.inj (z_f (z_f e2zz c0zz) c1zz)
            obtain ⟨q3zz, g3zz, e3zz⟩ := z_lt (z_f (z_f e3zz c0zz) c1zz)
            have e3zz := Option.some.inj e3zz
            rw [← e2zz, ← e3zz]
            obtain ⟨u1zz, u2zz, u3, u4zz, u5, u6⟩ := t2zz
            refine ⟨u1zz.2.2, by show Tis q3zz _; rw [g3zz]; exact tis 2 (by decide), ?_, t3zz.ext5 (fun jzz hj => by rw [updA, if_neg (by omega)]), zr 2 (by decide)⟩
            · show TzI pl q3zz (upd (gA q1zz 3) 6 p1zz)
              rw [g3zz]
              have Ezz : ∀ jzz, jzz ≠ 6 → upd (gA q1zz 3) 6 p1zz jzz = gA q1zz 3 jzz := fun jzz hj => by rw [updA, if_neg hj]
              refine ⟨⟨by rw [Ezz 0 (by decide)]; exact u1zz.1, fun jzz hj => by rw [Ezz (36 + jzz) (by omega)]; exact u1zz.2.1 jzz hj, rfl⟩, by rw [Ezz 2 (by decide)]; exact u2zz, by rw [Ezz 3 (by decide), Ezz 2 (by decide)]; exact u3, by rw [Ezz 5 (by decide)]; exact u4zz, fun jzz hj => by rw [Ezz (71 + 2 * jzz) (by omega), Ezz (72 + 2 * jzz) (by omega)]; exact u5 jzz hj, fun l hl => ?_⟩
              rw [Ezz 2 (by decide)] at hl
              obtain ⟨aa, cc, r1zz, r2, r3⟩ := u6 l hl
              exact ⟨aa, cc, r1zz, r2, r3.eq (fun jzz hj => Ezz jzz (by omega))⟩
      · have h1 := z_f h1 c2zz
        have h2 := z_f h2 c2zz
        unfold bk_X9_terms_59 at h2
        rcases lp (-1) (-1) (by decide) h1 with ⟨azz, h1⟩ | ⟨azz, h1⟩
        · exact no h1 0 rfl h2
        · omega
set_option maxHeartbeats 200000 in
theorem tf_strength {pl : List CR} {o0zz o1 o4zz o5zz o8zz o6 o11 o9 : Ob} {im0 im1 : Option IR} {p0zz p1zz p2zz : Int32} {yzz : Int32 × Ob × Ob} {y' : Int32 × Ob} (ht : TF pl o0zz o1 o4zz o5zz o8zz o6 o11 o9 im0 im1) (h4 : IvX2 pl o4zz) (h1 : f_X8_strength o0zz o4zz p0zz p1zz p2zz = some yzz) (h2 : f_X9_strength o9 p0zz p1zz p2zz = some y') : yzz.1 = y'.1 ∧ TF pl yzz.2.1 o1 yzz.2.2 o5zz o8zz o6 o11 y'.2 im0 im1 := by
  obtain ⟨a1zz, a2⟩ := t_strength h4 ht.2.2.2.2.2.2.1.1 h1 h2
  unfold f_X8_strength at h1
  unfold f_X9_strength at h2
  obtain ⟨q1zz, g1, h2⟩ := z_lt h2
  have ht1 : TF pl o0zz o1 o4zz o5zz o8zz o6 o11 q1zz im0 im1 := by rw [g1]; exact ht.sI0
  obtain ⟨t1zz, t2zz, t3zz, t4zz⟩ := ht1.2.2.2.2.2.2.1
  obtain ⟨z1, k1zz, h1⟩ := z_bd h1
  obtain ⟨w2zz, l2, h2⟩ := z_bd h2
  have no : bk_X8_strength_17 o0zz o4zz = some yzz → bk_X9_strength_24 q1zz = some y' → yzz.1 = y'.1 ∧ TF pl yzz.2.1 o1 yzz.2.2 o5zz o8zz o6 o11 y'.2 im0 im1 := by
    intro h1 h2
    unfold bk_X8_strength_17 at h1
    unfold bk_X9_strength_24 at h2
    obtain ⟨z2, k2zz, h1⟩ := z_bd h1
    obtain ⟨w3zz, l3, h2⟩ := z_bd h2
    have h1 := Option.some.inj h1
    have h2 := Option.some.inj h2
    rw [← h1, ← h2]
    exact ht1.no (Or.inl rfl) k2zz l3
  rcases isR9 l2 with ⟨b1, b2⟩ | ⟨b1, b2⟩
  · have c1zz : z1 = 0 := by
      rcases isR8 k1zz with ⟨uzz, -⟩ | ⟨-, uzz⟩
      · exact uzz
      · exact absurd uzz b2
    exact no (z_t h1 c1zz) (z_t h2 b1)
  · have c1zz : ¬ z1 = 0 := by
      rcases isR8 k1zz with ⟨-, uzz⟩ | ⟨uzz, -⟩
      · exact absurd b2 uzz
      · exact uzz
    have h1 := z_f h1 c1zz
    obtain ⟨w4zz, l4, h2⟩ := z_bd (z_f h2 b1)
    have i9zz := in9 (m := 0) (n := 9) (by decide) (by decide) l4
    by_cases c2zz : p2zz < 0
    · have d := cv_lt (a := p2zz.toInt) (b := 0) rfl (by decide) c2zz
      rcases i9zz with ⟨uzz, -⟩ | ⟨-, uzz⟩
      · exact no (z_t h1 c2zz) (z_t h2 uzz)
      · omega
    · have h1 := z_f h1 c2zz
      have d := cv_nlt (a := p2zz.toInt) (b := 0) rfl (by decide) c2zz
      by_cases c3zz : p2zz ≤ 9
      · have h1 := z_t h1 c3zz
        have d3zz := cv_le (a := p2zz.toInt) (b := 9) rfl (by decide) c3zz
        have u4zz : ¬ w4zz = 0 := by
          rcases i9zz with ⟨-, uzz⟩ | ⟨uzz, -⟩
          · omega
          · exact uzz
        obtain ⟨z3, k3zz, h1⟩ := z_bd h1
        obtain ⟨w5, l5, h2⟩ := z_bd (z_f h2 u4zz)
        have p2' := isP2 k3zz
        have p9' := isP9 l5 t2zz.1.1.2
        rw [t2zz.1.1.1] at p2'
        rcases p9' with ⟨e1zz, e2zz⟩ | ⟨e1zz, e2zz⟩
        · have z30 : z3 = 0 := by
            rcases p2' with ⟨uzz, -⟩ | ⟨-, uzz⟩
            · exact uzz
            · exact absurd uzz e2zz
          obtain ⟨z10, k10, h1⟩ := z_bd (z_t h1 z30)
          obtain ⟨w6zz, l6, h2⟩ := z_bd (z_t h2 e1zz)
          have h1 := Option.some.inj h1
          have h2 := Option.some.inj h2
          rw [← h1, ← h2]
          exact ht1.no (Or.inr (Or.inl rfl)) k10 l6
        · have z30 : ¬ z3 = 0 := by
            rcases p2' with ⟨-, uzz⟩ | ⟨uzz, -⟩
            · exact absurd e2zz uzz
            · exact uzz
          obtain ⟨x4zz, g4, h1⟩ := z_lt (z_f h1 z30)
          have h1 := (z_gd h1).2
          obtain ⟨x6, g6, h1⟩ := z_lt h1
          have h1 := (z_gd h1).2
          obtain ⟨q8zz, g8, h1⟩ := z_lt h1
          obtain ⟨z9, k9, h1⟩ := z_bd h1
          have h1 := Option.some.inj h1
          obtain ⟨w7zz, l7, h2⟩ := z_bd (z_f h2 e1zz)
          have h2 := Option.some.inj h2
          have hp7 := t2zz.1.1.2.2
          obtain ⟨Pzz, eP⟩ : ∃ Pzz : Nat, p0zz.toInt = (Pzz : Int) := ⟨p0zz.toInt.toNat, by omega⟩
          obtain ⟨R, eR⟩ : ∃ R : Nat, p1zz.toInt = (R : Int) := ⟨p1zz.toInt.toNat, by omega⟩
          have i4zz : x4zz.toNatClampNeg = 4 * Pzz + R := tnc_eq (by rw [g4, i32_add (i32_mul eP (by decide : (4 : Int32).toInt = 4) (by omega) (by omega)) eR (by omega) (by omega)]; omega)
          have t36 : (((36 : Int32) + ((4 : Int32) * p0zz)) + p1zz).toInt = ((36 + (4 * Pzz + R) : Nat) : Int) := by rw [i32_add (i32_add (by decide : (36 : Int32).toInt = 36) (i32_mul (by decide : (4 : Int32).toInt = 4) eP (by omega) (by omega)) (by omega) (by omega)) eR (by omega) (by omega)]; omega
          obtain ⟨v1zz, v2⟩ := chg t36 l7
          have ez := grant_d k9
          rw [i4zz] at g8
          have eG : gA w7zz.2 3 = upd (gA q1zz 3) (36 + (4 * Pzz + R)) p2zz := by rw [v2]; rfl
          refine ⟨a1zz, ?_⟩
          have a2' : Tis q8zz (gA w7zz.2 3) := by rw [← h1, ← h2] at a2; exact a2
          rw [← h1, ← h2, ez]
          have Ezz : ∀ jzz, jzz ≠ 36 + (4 * Pzz + R) → gA w7zz.2 3 jzz = gA q1zz 3 jzz := fun jzz hj => by rw [eG, updA, if_neg hj]
          refine ht1.isl (by rw [v2]; exact FrX.sI (FrX.tA FrX.rf rfl) rfl) ⟨a2', ?_, t3zz.ext (fun _ _ => rfl) (fun _ _ => rfl) rfl rfl rfl (fun jzz j1 j2zz => Ezz jzz (by omega)), fun jzz hj => ?_⟩ ?_ (by rw [v2]; exact ht1.2.2.2.1.chg) rfl rfl rfl
          · obtain ⟨u1zz, u2zz, u3, u4zz, u5, u6⟩ := t2zz
            show TzI pl q8zz (gA w7zz.2 3)
            rw [g8]
            refine ⟨⟨by rw [Ezz 0 (by omega)]; exact u1zz.1, fun jzz hj => ?_, by rw [Ezz 6 (by omega)]; exact u1zz.2.2⟩, by rw [Ezz 2 (by omega)]; exact u2zz, by rw [Ezz 3 (by omega), Ezz 2 (by omega)]; exact u3, by rw [Ezz 5 (by omega)]; exact u4zz, fun jzz hj => by rw [Ezz (71 + 2 * jzz) (by omega), Ezz (72 + 2 * jzz) (by omega)]; exact u5 jzz hj, fun l hl => ?_⟩
            · show (if jzz = 4 * Pzz + R then p2zz else gA o4zz 2 jzz) = gA w7zz.2 3 (36 + jzz) ∧ _
              by_cases qq : jzz = 4 * Pzz + R
              · rw [if_pos qq, eG, updA, if_pos (by omega)]; exact ⟨rfl, d, d3zz⟩
              · rw [if_neg qq, Ezz (36 + jzz) (by omega)]; exact u1zz.2.1 jzz hj
            · rw [Ezz 2 (by omega)] at hl
              obtain ⟨aa, cc, r1zz, r2, r3⟩ := u6 l hl
              exact ⟨aa, cc, r1zz, r2, r3.eq (fun jzz hj => Ezz jzz (by omega))⟩
          · rw [Ezz 0 (by omega)] at hj
            rw [Ezz jzz (by omega)]
            exact t4zz jzz hj
          · rw [Ezz 0 (by omega)]
            exact ht1.2.2.2.2.2.2.2.1.cell (by rw [v2]; rfl) (by rw [v2]; rfl) (by rw [v2]; rfl) (fun jzz hj => Ezz jzz (by omega))
      · have h1 := z_f h1 c3zz
        have d3zz := cv_nle (a := p2zz.toInt) (b := 9) rfl (by decide) c3zz
        rcases i9zz with ⟨uzz, -⟩ | ⟨-, uzz⟩
        · exact no h1 (z_t h2 uzz)
        · omega
