-- compare, of
set_option maxHeartbeats 200000 in
theorem islaw_eq {pl : List CR} {isl o : Ob} {pzz zzz wzz : Int32} (hI : TzI pl isl (gA o 3)) (hp : ¬ pzz = -1) (h1 : f_X2_isLaw isl pzz = some zzz) (h2 : f_X9_isLaw o pzz = some wzz) : (zzz = 0 ∧ wzz = 0) ∨ (¬ zzz = 0 ∧ ¬ wzz = 0 ∧ 0 ≤ pzz.toInt ∧ pzz.toInt < (gA o 3 2).toInt) := by
  have n2zz : (2 : Int32).toNatClampNeg = 2 := by decide
  unfold f_X9_isLaw at h2
  rw [n2zz] at h2
  have h2 := z_f h2 hp
  obtain ⟨w1zz, l1, h2⟩ := z_bd h2
  have r2 := hI.2.1
  have e64 : ((gA o 3 2).toInt64 - (1 : Int64)).toInt = (gA o 3 2).toInt - 1 := i64_sub (Int32.toInt_toInt64 _) (by decide) (by omega) (by omega)
  have i9zz := in9 (m := 0) (by decide) e64 l1
  have i8zz := rg8 (n := (gA o 3 2).toInt) (by rw [r2.1]) (show (if pzz < (0 : Int32) then some (0 : Int32) else (if gI isl 9 ≤ pzz then some (0 : Int32) else some (1 : Int32))) = some zzz from h1)
  rcases i9zz with ⟨a1zz, a2⟩ | ⟨a1zz, a2⟩
  · refine Or.inl ⟨?_, (Option.some.inj (z_t h2 a1zz)).symm⟩
    rcases i8zz with ⟨uzz, -⟩ | ⟨-, uzz⟩
    · exact uzz
    · omega
  · have h2 := z_f h2 a1zz
    unfold bk_X9_isLaw_23 at h2
    refine Or.inr ⟨?_, by rw [← Option.some.inj h2]; decide, a2.1, by omega⟩
    rcases i8zz with ⟨-, uzz⟩ | ⟨uzz, -⟩
    · omega
    · exact uzz
set_option maxHeartbeats 200000 in
theorem tf_compare {pl : List CR} {o0zz o1 mezz o4zz o5zz czz o8zz o6 o11 o9 : Ob} {im0 im1 : Option IR} {p0zz p1zz : Int32} {yzz : Int32 × Ob × Ob} {y' : Int32 × Ob} (ht : TF pl o0zz o1 o4zz o5zz o8zz o6 o11 o9 im0 im1) (h20 : gI o9 20 = 0) (h1 : f_X8_compare o0zz mezz o4zz o5zz czz pl p0zz p1zz = some yzz) (h2 : f_X9_compare o9 p0zz p1zz = some y') : yzz.1 = y'.1 ∧ TF pl o0zz o1 o4zz o5zz o8zz o6 o11 y'.2 im0 im1 := by
  have n3zz : (3 : Int32).toNatClampNeg = 3 := by decide
  have n0zz : (0 : Int32).toNatClampNeg = 0 := by decide
  unfold f_X8_compare at h1
  unfold f_X9_compare at h2
  rw [n3zz, n0zz] at h2
  obtain ⟨q1zz, g1, h2⟩ := z_lt h2
  have ht1 : TF pl o0zz o1 o4zz o5zz o8zz o6 o11 q1zz im0 im1 := by rw [g1]; exact ht.sI0
  obtain ⟨w2zz, l2, h2⟩ := z_bd h2
  obtain ⟨t1zz, t2zz, t3zz, t4zz⟩ := ht1.2.2.2.2.2.2.1
  have hSzz := ht1.s (by rw [g1]; exact h20)
  -- a law, or none
  have gozz : (p0zz = -1 ∨ (0 ≤ p0zz.toInt ∧ p0zz.toInt < (gA q1zz 3 2).toInt)) → ¬ w2zz = 0 → bk_X8_compare_16 o0zz o4zz o5zz pl p0zz p1zz mezz czz = some yzz → yzz.1 = y'.1 ∧ TF pl o0zz o1 o4zz o5zz o8zz o6 o11 y'.2 im0 im1 := by
    intro hp hw h1
    unfold bk_X8_compare_16 at h1
    obtain ⟨z1, k1zz, h1⟩ := z_bd h1
    obtain ⟨w3zz, l3, h2⟩ := z_bd (z_f h2 hw)
    rcases isR9 l3 with ⟨b1, b2⟩ | ⟨b1, b2⟩
    · have c1zz : z1 = 0 := by
        rcases isR8 k1zz with ⟨uzz, -⟩ | ⟨-, uzz⟩
        · exact uzz
        · exact absurd uzz b2
      rw [← Option.some.inj (z_t h1 c1zz), ← Option.some.inj (z_t h2 b1)]
      exact ⟨rfl, ht1⟩
    · have c1zz : ¬ z1 = 0 := by
        rcases isR8 k1zz with ⟨-, uzz⟩ | ⟨uzz, -⟩
        · exact absurd b2 uzz
        · exact uzz
      obtain ⟨z2, k2zz, h1⟩ := z_bd (z_f h1 c1zz)
      obtain ⟨z3, k3zz, h1⟩ := z_bd h1
      obtain ⟨z4, k4zz, h1⟩ := z_bd h1
      have h1 := Option.some.inj h1
      obtain ⟨x4zz, g4, h2⟩ := z_lt (z_f h2 b1)
      obtain ⟨q5zz, g5zz, h2⟩ := z_lt h2
      obtain ⟨w6zz, l6, h2⟩ := z_bd h2
      obtain ⟨q7zz, g7, h2⟩ := z_lt h2
      obtain ⟨R, eR⟩ : ∃ R : Nat, p1zz.toInt = (R : Int) := ⟨p1zz.toInt.toNat, by omega⟩
      have e5zz : gA q5zz 3 = upd (gA q1zz 3) 3 p0zz := by rw [g5zz]; rfl
      have Ezz : ∀ jzz, jzz ≠ 3 → gA q5zz 3 jzz = gA q1zz 3 jzz := fun jzz hj => by rw [e5zz, updA, if_neg hj]
      have hL : LwP pl z2 (gA q5zz 3) (gA q5zz 3 3) := by
        have e3zz : gA q5zz 3 3 = p0zz := by rw [e5zz, updA, if_pos rfl]
        rw [e3zz]
        exact (t2zz.at' hp k2zz).eq (fun jzz hj => Ezz jzz (by omega))
      have hMzz : TzM o5zz (gA q5zz 3) := t3zz.ext (fun _ _ => rfl) (fun _ _ => rfl) rfl rfl rfl (fun jzz j1 j2zz => Ezz jzz (by omega))
      have hI : WiL o4zz (gA q5zz 3) := ⟨by rw [Ezz 0 (by decide)]; exact t2zz.1.1, fun jzz hj => by rw [Ezz (36 + jzz) (by omega)]; exact t2zz.1.2.1 jzz hj, by rw [Ezz 6 (by decide)]; exact t2zz.1.2.2⟩
      have h20' : gI q5zz 20 = 0 := by rw [g5zz, g1]; exact h20
      obtain ⟨kzz, hkn, hTzz, hz⟩ := line_eq (n := (gA q1zz 3 0).toInt.toNat) hL (WtL.of hI hMzz) hMzz.2.2.2.2.1 h20' (by rw [Ezz 0 (by decide)]; exact ht1.n.1) eR (by omega) k3zz l6
      have f6zz := fr_f_X9_layPlaces l6
      have eG : gA q7zz 3 = gA q1zz 3 := by
        rw [g7]
        show upd (gA w6zz 3) 3 x4zz = gA q1zz 3
        rw [f6zz.A 3 rfl, e5zz]
        funext jzz
        rw [updA, updA]
        by_cases qq : jzz = 3
        · rw [if_pos qq, g4, qq]
        · rw [if_neg qq, if_neg qq]
      have k43 : gI q7zz 43 = gI w6zz 43 := by rw [g7]; rfl
      have k42 : gA q7zz 42 = gA w6zz 42 := by rw [g7]; rfl
      have tf7 : TF pl o0zz o1 o4zz o5zz o8zz o6 o11 q7zz im0 im1 := by
        have I : ∀ izz, d_X9_layPlaces_me.1.elem izz = false → gI q7zz izz = gI q1zz izz := fun izz hizz => by
          rw [g7]
          show gI w6zz izz = _
          rw [f6zz.I izz hizz, g5zz]; rfl
        have A : ∀ izz, izz ≠ 3 → d_X9_layPlaces_me.2.2.1.elem izz = false → gA q7zz izz = gA q1zz izz := fun izz h3 hizz => by
          rw [g7]
          have azz : gA (tA w6zz 3 3 x4zz) izz = gA w6zz izz := fset_ne h3
          rw [azz, f6zz.A izz hizz, g5zz]
          exact fset_ne h3
        have M : ∀ izz, d_X9_layPlaces_me.2.2.2.1.elem izz = false → gM q7zz izz = gM q1zz izz := fun izz hizz => by
          rw [g7]
          show gM w6zz izz = _
          rw [f6zz.M izz hizz, g5zz]; rfl
        obtain ⟨⟨h1', h2'⟩, h3, ⟨h4, h4'⟩, h5, h6, h7, h8, h9, h10⟩ := ht1
        exact ⟨⟨by rw [I 13 rfl]; exact h1', by rw [A 12 (by decide) rfl]; exact h2'⟩, by rw [I 11 rfl]; exact h3, ⟨h4.eq (M 31 rfl) (M 32 rfl), h4'.eq2 (M 33 rfl) (M 54 rfl)⟩, h5.eq rfl rfl (I 1 rfl) (A 2 (by decide) rfl), by rw [I 58 rfl]; exact h6, h7.eq (I 62 rfl) (A 61 (by decide) rfl), by rw [eG]; exact h8, by rw [eG]; exact h9.eq (I 8 rfl) (A 6 (by decide) rfl) (A 7 (by decide) rfl), h10.eq rfl (A 5 (by decide) rfl) (A 4 (by decide) rfl)⟩
      have tk := hTzz.2.1
      rw [hTzz.1] at tk
      have at1zz := at_eq (izz := 0) hTzz.2.1 (by decide) (by decide) k4zz
      rw [k43, k42] at h2
      rw [← h1]
      by_cases c0zz : gI w6zz 43 = 0
      · have h2 := Option.some.inj (z_t h2 c0zz)
        rw [← h2]
        refine ⟨?_, tf7⟩
        rcases at1zz with ⟨uzz, -⟩ | ⟨-, uzz⟩
        · rw [c0zz, (by decide : (0 : Int32).toInt = 0)] at tk; omega
        · exact uzz
      · have h2 := Option.some.inj (z_f h2 c0zz)
        rw [← h2]
        refine ⟨?_, tf7⟩
        have c1' := cv_ne (a := (kzz : Int)) (b := 0) tk (by decide) c0zz
        rcases at1zz with ⟨uzz, vzz⟩ | ⟨uzz, -⟩
        · show z4 = gA w6zz 42 0
          rw [vzz]; exact (hTzz.2.2 0 uzz).1
        · omega
  by_cases c0zz : p0zz = -1
  · unfold f_X9_isLaw at l2
    have l2 := z_t l2 c0zz
    unfold bk_X9_isLaw_23 at l2
    exact gozz (Or.inl c0zz) (by rw [← Option.some.inj l2]; decide) (z_t h1 c0zz)
  · obtain ⟨z5, k5zz, h1⟩ := z_bd (z_f h1 c0zz)
    rcases islaw_eq t2zz c0zz k5zz l2 with ⟨a1zz, a2⟩ | ⟨a1zz, a2, a3, a4⟩
    · rw [← Option.some.inj (z_t h1 a1zz), ← Option.some.inj (z_t h2 a2)]
      exact ⟨rfl, ht1⟩
    · exact gozz (Or.inr ⟨a3, a4⟩) a2 (z_f h1 a1zz)
set_option maxHeartbeats 200000 in
theorem tf_of {pl : List CR} {o0zz o1 mezz o4zz o5zz czz o8zz o6 o11 o9 : Ob} {im0 im1 : Option IR} {p0zz p1zz : Int32} {yzz : Int32 × Ob} {y' : Int32 × Ob} (ht : TF pl o0zz o1 o4zz o5zz o8zz o6 o11 o9 im0 im1) (h20 : gI o9 20 = 0) (h1 : f_X8_of o0zz mezz o4zz o5zz czz pl p0zz p1zz = some yzz) (h2 : f_X9_of o9 p0zz p1zz = some y') : yzz.1 = y'.1 := by
  unfold f_X8_of at h1
  unfold f_X9_of at h2
  obtain ⟨q1zz, g1, h2⟩ := z_lt h2
  have ht1 : TF pl o0zz o1 o4zz o5zz o8zz o6 o11 q1zz im0 im1 := by rw [g1]; exact ht.sI0
  obtain ⟨t1zz, t2zz, t3zz, t4zz⟩ := ht1.2.2.2.2.2.2.1
  obtain ⟨hI, hMzz, -, hL, h20', en, -⟩ := ht1.s (by rw [g1]; exact h20)
  obtain ⟨z1, k1zz, h1⟩ := z_bd h1
  obtain ⟨w2zz, l2, h2⟩ := z_bd h2
  have p2zz := isP2 k1zz
  rw [hI.1.1] at p2zz
  rcases isP9 l2 hI.1.2 with ⟨e1zz, e2zz⟩ | ⟨e1zz, e2zz⟩
  · have c1zz : z1 = 0 := by
      rcases p2zz with ⟨uzz, -⟩ | ⟨-, uzz⟩
      · exact uzz
      · exact absurd uzz e2zz
    rw [← Option.some.inj (z_t h1 c1zz), ← Option.some.inj (z_t h2 e1zz)]
  · have c1zz : ¬ z1 = 0 := by
      rcases p2zz with ⟨-, uzz⟩ | ⟨uzz, -⟩
      · exact absurd e2zz uzz
      · exact uzz
    have h1 := z_f h1 c1zz
    have h7 := hI.1.2.2
    obtain ⟨Pzz, eP⟩ : ∃ Pzz : Nat, p0zz.toInt = (Pzz : Int) := ⟨p0zz.toInt.toNat, by omega⟩
    have iP : p0zz.toNatClampNeg = Pzz := tnc_eq eP
    obtain ⟨w3zz, l3, h2⟩ := z_bd (z_f h2 e1zz)
    have i9zz := in9 (m := 0) (n := 15) (by decide) (by decide) l3
    have i8zz : ((8 : Int32) + p0zz).toNatClampNeg = 8 + Pzz := tnc_eq (by rw [i32_add (by decide : (8 : Int32).toInt = 8) eP (by omega) (by omega)]; omega)
    have i15 : ((15 : Int32) + p0zz).toNatClampNeg = 15 + Pzz := tnc_eq (by rw [i32_add (by decide : (15 : Int32).toInt = 15) eP (by omega) (by omega)]; omega)
    have i22 : ((22 : Int32) + p0zz).toNatClampNeg = 22 + Pzz := tnc_eq (by rw [i32_add (by decide : (22 : Int32).toInt = 22) eP (by omega) (by omega)]; omega)
    have i29 : ((29 : Int32) + p0zz).toNatClampNeg = 29 + Pzz := tnc_eq (by rw [i32_add (by decide : (29 : Int32).toInt = 29) eP (by omega) (by omega)]; omega)
    rw [i8zz, i15, i22, i29] at h2
    rw [iP] at h1
    have s4zz := i32_subw (x := p1zz) (y := 4) (b := 4) (by decide) (by decide)
    have s8 := i32_subw (x := p1zz) (y := 8) (b := 8) (by decide) (by decide)
    have s12 := i32_subw (x := p1zz) (y := 12) (b := 12) (by decide) (by decide)
    have b1 := i32_rg p1zz
    have b4 := i32_rg (p1zz - 4)
    have b8 := i32_rg (p1zz - 8)
    have b12 := i32_rg (p1zz - 12)
    by_cases c3zz : p1zz = 3
    · have uzz : ¬ w3zz = 0 := by
        rcases i9zz with ⟨-, uzz⟩ | ⟨uzz, -⟩
        · rw [c3zz] at uzz; exact absurd (by decide) uzz
        · exact uzz
      have h1 := Option.some.inj (z_gd (z_t h1 c3zz)).2
      have h2 := z_t (z_f (z_f (z_f (z_f h2 uzz) (by rw [c3zz]; decide)) (by rw [c3zz]; decide)) (by rw [c3zz]; decide)) c3zz
      rw [← h1, ← Option.some.inj (z_gd h2).2]
      exact t1zz.2.2.1 Pzz (by omega)
    have h1 := z_f h1 c3zz
    have d3zz := cv_ne (a := p1zz.toInt) (b := 3) rfl (by decide) c3zz
    obtain ⟨z2, k2zz, h1⟩ := z_bd h1
    -- one of the first three, or none
    have tellzz : Unit → (∀ kzz : Int, 4 ≤ kzz → kzz ≤ 15 → p1zz.toInt ≠ kzz) → ((f_X4_told o5zz p0zz p1zz).bind fun z5 => some (z5, mezz)) = some yzz → yzz.1 = y'.1 := by
      intro _ hno h1
      obtain ⟨z5, k5zz, h1⟩ := z_bd h1
      have h1 := Option.some.inj h1
      have td := told_eq hMzz eP (by omega) k5zz
      rw [← h1]
      rcases i9zz with ⟨u1zz, u2zz⟩ | ⟨u1zz, u2zz⟩
      · rw [← Option.some.inj (z_t h2 u1zz)]
        rcases td with ⟨uzz, -⟩ | ⟨uzz, -⟩ | ⟨uzz, -⟩ | ⟨-, -, -, uzz⟩
        · rw [uzz] at u2zz; exact absurd (by decide) u2zz
        · rw [uzz] at u2zz; exact absurd (by decide) u2zz
        · rw [uzz] at u2zz; exact absurd (by decide) u2zz
        · exact uzz
      · have h2 := z_f h2 u1zz
        rcases td with ⟨uzz, vzz⟩ | ⟨uzz, vzz⟩ | ⟨uzz, vzz⟩ | ⟨v1zz, v2, v3, -⟩
        · rw [← Option.some.inj (z_gd (z_t h2 uzz)).2, vzz]
        · rw [← Option.some.inj (z_gd (z_t (z_f h2 (by rw [uzz]; decide)) uzz)).2, vzz]
        · rw [← Option.some.inj (z_gd (z_t (z_f (z_f h2 (by rw [uzz]; decide)) (by rw [uzz]; decide)) uzz)).2, vzz]
        · exfalso
          have a0zz := cv_ne (a := p1zz.toInt) (b := 0) rfl (by decide) v1zz
          have a1zz := cv_ne (a := p1zz.toInt) (b := 1) rfl (by decide) v2
          have a2 := cv_ne (a := p1zz.toInt) (b := 2) rfl (by decide) v3
          exact hno p1zz.toInt (by omega) (by omega) rfl
    -- beyond three
    have restzz : Unit → 4 ≤ p1zz.toInt → p1zz.toInt ≤ 15 → ∃ x9 : Int32, x9.toInt = p1zz.toInt % 4 ∧ (if (8 : Int32) ≤ p1zz then (if (12 : Int32) ≤ p1zz then ((f_X9_isBarred q1zz p0zz x9).bind fun z10 => if z10.1 = (0 : Int32) then (some ((0 : Int32), z10.2)) else (some ((1 : Int32), z10.2))) else ((f_X9_runsOf q1zz p0zz x9).bind fun z11 => some (z11.1, z11.2))) else (zgd (zin (((36 : Int32) + ((4 : Int32) * p0zz)) + x9) 5484) <| some (gA q1zz 3 (((36 : Int32) + ((4 : Int32) * p0zz)) + x9).toNatClampNeg, q1zz))) = some y' := by
      intro _ azz bzz
      have uzz : ¬ w3zz = 0 := by
        rcases i9zz with ⟨-, uzz⟩ | ⟨uzz, -⟩
        · omega
        · exact uzz
      have ne : ∀ (vzz : Int32) (kzz : Int), vzz.toInt = kzz → kzz < 4 → ¬ p1zz = vzz := fun vzz kzz evzz hk qzz => by rw [qzz, evzz] at azz; omega
      have h2 := z_f (z_f (z_f (z_f (z_f h2 uzz) (ne 0 0 (by decide) (by decide))) (ne 1 1 (by decide) (by decide))) (ne 2 2 (by decide) (by decide))) (ne 3 3 (by decide) (by decide))
      obtain ⟨x9, g9, h2⟩ := z_lt h2
      exact ⟨x9, by rw [g9]; exact i32_remE (by decide) (by decide) (by omega), h2⟩
    rcases isR8 k2zz with ⟨v1zz, v2⟩ | ⟨v1zz, v2⟩
    · obtain ⟨z3, k3zz, h1⟩ := z_bd (z_t h1 v1zz)
      rcases isR8 k3zz with ⟨v3, v4zz⟩ | ⟨v3, v4zz⟩
      · obtain ⟨z4, k4zz, h1⟩ := z_bd (z_t h1 v3)
        rcases isR8 k4zz with ⟨v5, v6⟩ | ⟨v5, v6⟩
        · exact tellzz () (fun kzz azz bzz qzz => by omega) (z_t h1 v5)
        · -- barred
          obtain ⟨z6, k6zz, h1⟩ := z_bd (z_f h1 v5)
          obtain ⟨z7, k7zz, h1⟩ := z_bd h1
          have r12 : 12 ≤ p1zz.toInt ∧ p1zz.toInt ≤ 15 := by omega
          obtain ⟨x9, e9zz, h2⟩ := restzz () (by omega) (by omega)
          have h2 := z_t (z_t h2 (Int32.le_iff_toInt_le.mpr (by rw [(by decide : (8 : Int32).toInt = 8)]; omega))) (Int32.le_iff_toInt_le.mpr (by rw [(by decide : (12 : Int32).toInt = 12)]; omega))
          obtain ⟨w10zz, l10, h2⟩ := z_bd h2
          have exzz : p1zz - 12 = x9 := Int32.toInt_inj.mp (by rw [e9zz]; omega)
          rw [exzz] at k7zz
          have hA : Asked pl z6 o4zz o5zz q1zz p0zz x9 := ⟨hL z6 k6zz, WtL.of hI hMzz, h20', ⟨Pzz, eP, by rw [hI.1.1]; omega⟩, x9.toInt.toNat, by omega, by omega⟩
          have eb := barred_eq hA k7zz l10
          rw [eb] at h1
          by_cases c0zz : w10zz.1 = 0
          · rw [← Option.some.inj (z_t h1 c0zz), ← Option.some.inj (z_t h2 c0zz)]
          · rw [← Option.some.inj (z_f h1 c0zz), ← Option.some.inj (z_f h2 c0zz)]
      · -- runs
        obtain ⟨z8, k8zz, h1⟩ := z_bd (z_f h1 v3)
        obtain ⟨z9, k9, h1⟩ := z_bd h1
        have r8 : 8 ≤ p1zz.toInt ∧ p1zz.toInt ≤ 11 := by omega
        obtain ⟨x9, e9zz, h2⟩ := restzz () (by omega) (by omega)
        have h2 := z_f (z_t h2 (Int32.le_iff_toInt_le.mpr (by rw [(by decide : (8 : Int32).toInt = 8)]; omega))) (fun qzz => by have qzz := cv_le (a := 12) (b := p1zz.toInt) (by decide) rfl qzz; omega)
        obtain ⟨w11zz, l11, h2⟩ := z_bd h2
        have exzz : p1zz - 8 = x9 := Int32.toInt_inj.mp (by rw [e9zz]; omega)
        rw [exzz] at k9
        have hA : Asked pl z8 o4zz o5zz q1zz p0zz x9 := ⟨hL z8 k8zz, WtL.of hI hMzz, h20', ⟨Pzz, eP, by rw [hI.1.1]; omega⟩, x9.toInt.toNat, by omega, by omega⟩
        rw [← Option.some.inj h1, ← Option.some.inj h2]
        exact runs_eq hA k9 l11
    · -- strength
      have r4 : 4 ≤ p1zz.toInt ∧ p1zz.toInt ≤ 7 := by omega
      have h1 := Option.some.inj (z_gd (z_f h1 v1zz)).2
      obtain ⟨x9, e9zz, h2⟩ := restzz () (by omega) (by omega)
      have h2 := z_f h2 (fun qzz => by have qzz := cv_le (a := 8) (b := p1zz.toInt) (by decide) rfl qzz; omega)
      have h2 := Option.some.inj (z_gd h2).2
      obtain ⟨R, eR⟩ : ∃ R : Nat, x9.toInt = (R : Int) := ⟨x9.toInt.toNat, by omega⟩
      have ia : (((p0zz * (4 : Int32)) + p1zz) - (4 : Int32)).toNatClampNeg = 4 * Pzz + R := tnc_eq (by rw [i32_sub (i32_add (i32_mul eP (by decide : (4 : Int32).toInt = 4) (by omega) (by omega)) rfl (by omega) (by omega)) (by decide : (4 : Int32).toInt = 4) (by omega) (by omega)]; omega)
      have ib : (((36 : Int32) + ((4 : Int32) * p0zz)) + x9).toNatClampNeg = 36 + (4 * Pzz + R) := tnc_eq (by rw [i32_add (i32_add (by decide : (36 : Int32).toInt = 36) (i32_mul (by decide : (4 : Int32).toInt = 4) eP (by omega) (by omega)) (by omega) (by omega)) eR (by omega) (by omega)]; omega)
      rw [ia] at h1
      rw [ib] at h2
      rw [← h1, ← h2]
      exact (hI.2.1 (4 * Pzz + R) (by omega)).1
