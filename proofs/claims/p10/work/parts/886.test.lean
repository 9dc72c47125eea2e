-- the law that was read is written into its slot
set_option maxHeartbeats 200000 in
theorem tell_18 {o : Ob} {pzz : Int32} {yzz : Int32 × Ob} (hzz : f_X9_tell o pzz = some yzz) : gI yzz.2 18 = gI o 18 := by
  have hbzz : ∀ s, bk_X9_tell_10 pzz s o = some yzz → gI yzz.2 18 = gI o 18 := by
    intro s hzz
    unfold bk_X9_tell_10 at hzz
    obtain ⟨o1, eo1, hzz⟩ := z_lt hzz
    by_cases czz : (0 : Int32) ≤ pzz
    · rw [← Option.some.inj (z_t hzz czz), eo1]; rfl
    · have hzz := z_f hzz czz
      obtain ⟨x2zz, -, hzz⟩ := z_lt hzz
      obtain ⟨-, hzz⟩ := z_gd hzz
      obtain ⟨-, hzz⟩ := z_gd hzz
      obtain ⟨o5zz, eo5, hzz⟩ := z_lt hzz
      rw [← Option.some.inj hzz, eo5, eo1]; rfl
  unfold f_X9_tell at hzz
  by_cases czz : (0 : Int32) ≤ pzz
  · exact hbzz _ (z_t hzz czz)
  · exact hbzz _ (z_f hzz czz)
set_option maxHeartbeats 200000 in
theorem w145 {yzz : Int32 × Ob} {v1zz : Int32} {azz Kzz : Nat} (e1zz : v1zz.toInt = (azz : Int)) (hazz : 84 ≤ azz) (ha' : azz + 900 ≤ 5484) (hKzz : Kzz ≤ 400) : ∀ (Nzz : Nat) (v2 : Int32) (o : Ob) (izz : Nat), v2.toInt = (izz : Int) → izz ≤ Kzz → (gI o 23).toInt = (Kzz : Int) → lp_X9_law_145 Nzz (v1zz, v2, o) = some yzz →
    yzz.1 = (gA o 3 2 + 1) - 1 ∧ gA yzz.2 3 2 = gA o 3 2 + 1 ∧ gI yzz.2 18 = gI o 18 ∧ (∀ jzz, jzz ≠ 2 → (jzz < azz + 98 + 2 * izz ∨ azz + 98 + 2 * Kzz ≤ jzz) → gA yzz.2 3 jzz = gA o 3 jzz) ∧ (∀ kzz, izz ≤ kzz → kzz < Kzz → gA yzz.2 3 (azz + 98 + 2 * kzz) = gA o 24 kzz ∧ gA yzz.2 3 (azz + 98 + 2 * kzz + 1) = gA o 25 kzz) := by
  intro Nzz
  induction Nzz with
  | zero => intro v2 o izz _ _ _ hzz; cases hzz
  | succ Nzz ihzz =>
    intro v2 o izz e2zz hizz eK hzz
    have hzz : lb_X9_law_145 (lp_X9_law_145 Nzz) v1zz v2 o = some yzz := hzz
    unfold lb_X9_law_145 at hzz
    have n2zz : (2 : Int32).toNatClampNeg = 2 := by decide
    by_cases czz : gI o 23 ≤ v2
    · have d := cv_le (a := (Kzz : Int)) (b := (izz : Int)) eK e2zz czz
      obtain ⟨o8zz, e8, hzz⟩ := z_lt (z_t hzz czz)
      obtain ⟨zzz, ez, hzz⟩ := z_bd hzz
      rw [n2zz] at e8 ez
      have uzz : gA o8zz 3 2 = gA o 3 2 + 1 := by rw [e8, upd_at, if_pos rfl]
      have t := tell_3 ez
      rw [← Option.some.inj hzz]
      refine ⟨?_, ?_, ?_, fun jzz hj _ => ?_, fun kzz h1 h2 => by omega⟩
      · show zzz.1 = _; rw [t.1, uzz]
      · show gA zzz.2 3 2 = _; rw [t.2.1, uzz]
      · show gI zzz.2 18 = _; rw [tell_18 ez, e8]; rfl
      · show gA zzz.2 3 jzz = _; rw [t.2.1, e8, upd_at, if_neg hj]
    · have d := cv_nle (a := (Kzz : Int)) (b := (izz : Int)) eK e2zz czz
      obtain ⟨-, hzz⟩ := z_gd (z_f hzz czz)
      obtain ⟨-, hzz⟩ := z_gd hzz
      obtain ⟨o12, e12zz, hzz⟩ := z_lt hzz
      obtain ⟨-, hzz⟩ := z_gd hzz
      obtain ⟨-, hzz⟩ := z_gd hzz
      obtain ⟨o15, e15zz, hzz⟩ := z_lt hzz
      obtain ⟨x16, exzz, hzz⟩ := z_lt hzz
      have s1zz : (v1zz + (98 : Int32)).toInt = (azz : Int) + 98 := i32_add e1zz (by decide) (by omega) (by omega)
      have s2zz : ((2 : Int32) * v2).toInt = 2 * (izz : Int) := i32_mul (by decide) e2zz (by omega) (by omega)
      have s3zz : ((v1zz + (98 : Int32)) + ((2 : Int32) * v2)).toInt = (azz : Int) + 98 + 2 * (izz : Int) := i32_add s1zz s2zz (by omega) (by omega)
      have i3zz : ((v1zz + (98 : Int32)) + ((2 : Int32) * v2)).toNatClampNeg = azz + 98 + 2 * izz := tnc_eq (by rw [s3zz]; omega)
      have i4zz : (((v1zz + (98 : Int32)) + ((2 : Int32) * v2)) + (1 : Int32)).toNatClampNeg = azz + 98 + 2 * izz + 1 := tnc_eq (by rw [i32_add s3zz (by decide : (1 : Int32).toInt = 1) (by omega) (by omega)]; omega)
      have ivzz : v2.toNatClampNeg = izz := tnc_eq e2zz
      have tx : x16.toInt = ((izz + 1 : Nat) : Int) := by rw [exzz]; exact Eq.trans (i32_add e2zz (by decide : (1 : Int32).toInt = 1) (by omega) (by omega)) (by omega)
      rw [i3zz, ivzz] at e12zz
      rw [i4zz, ivzz] at e15zz
      have k23 : (gI o15 23).toInt = (Kzz : Int) := by rw [e15zz, e12zz]; exact eK
      have r24 : gA o15 24 = gA o 24 := by rw [e15zz, e12zz]; rfl
      have r25 : gA o15 25 = gA o 25 := by rw [e15zz, e12zz]; rfl
      have p25zz : gA o12 25 izz = gA o 25 izz := by rw [e12zz]; rfl
      have r3 : ∀ jzz, jzz ≠ azz + 98 + 2 * izz → jzz ≠ azz + 98 + 2 * izz + 1 → gA o15 3 jzz = gA o 3 jzz := fun jzz q1zz q2zz => by rw [e15zz, upd_at, if_neg q2zz, e12zz, upd_at, if_neg q1zz]
      have q0 : gA o15 3 (azz + 98 + 2 * izz) = gA o 24 izz := by rw [e15zz, upd_at, if_neg (by omega), e12zz, upd_at, if_pos rfl]
      have q1zz : gA o15 3 (azz + 98 + 2 * izz + 1) = gA o 25 izz := by rw [e15zz, upd_at, if_pos rfl]; exact p25zz
      have k18 : gI o15 18 = gI o 18 := by rw [e15zz, e12zz]; rfl
      obtain ⟨x1zz, x2zz, x3, x4zz, x5zz⟩ := ihzz x16 o15 (izz + 1) tx (by omega) k23 hzz
      have c2zz : gA o15 3 2 = gA o 3 2 := r3 2 (by omega) (by omega)
      refine ⟨by rw [x1zz, c2zz], by rw [x2zz, c2zz], by rw [x3, k18], fun jzz hj hr => ?_, fun kzz h1 h2 => ?_⟩
      · rw [x4zz jzz hj (by omega)]; exact r3 jzz (by omega) (by omega)
      · by_cases ezz : kzz = izz
        · rw [ezz, x4zz (azz + 98 + 2 * izz) (by omega) (Or.inl (by omega)), x4zz (azz + 98 + 2 * izz + 1) (by omega) (Or.inl (by omega)), q0, q1zz]; exact ⟨rfl, rfl⟩
        · rw [← r24, ← r25]; exact x5zz kzz (by omega) h2
set_option maxHeartbeats 200000 in
theorem w110 {yzz : Int32 × Ob} {v1zz : Int32} {azz Kzz n : Nat} (e1zz : v1zz.toInt = (azz : Int)) (hazz : 84 ≤ azz) (ha' : azz + 900 ≤ 5484) (hKzz : Kzz ≤ 400) (hn : n ≤ 12) : ∀ (Nzz : Nat) (v2 : Int32) (o : Ob) (izz : Nat), v2.toInt = (izz : Int) → izz ≤ 8 * n → (gI o 23).toInt = (Kzz : Int) → (gI o 21).toInt = (n : Int) → lp_X9_law_110 Nzz (v1zz, v2, o) = some yzz →
    yzz.1 = (gA o 3 2 + 1) - 1 ∧ gA yzz.2 3 2 = gA o 3 2 + 1 ∧ gI yzz.2 18 = gI o 18 ∧ (∀ jzz, jzz ≠ 2 → (jzz < azz + 2 + izz ∨ azz + 98 + 2 * Kzz ≤ jzz) → gA yzz.2 3 jzz = gA o 3 jzz) ∧ (∀ kzz, izz ≤ kzz → kzz < 8 * n → gA yzz.2 3 (azz + 2 + kzz) = gA o 22 kzz) ∧ (∀ kzz, kzz < Kzz → gA yzz.2 3 (azz + 98 + 2 * kzz) = gA o 24 kzz ∧ gA yzz.2 3 (azz + 98 + 2 * kzz + 1) = gA o 25 kzz) := by
  intro Nzz
  induction Nzz with
  | zero => intro v2 o izz _ _ _ _ hzz; cases hzz
  | succ Nzz ihzz =>
    intro v2 o izz e2zz hizz eK en hzz
    have hzz : lb_X9_law_110 (lp_X9_law_110 Nzz) v1zz v2 o = some yzz := hzz
    unfold lb_X9_law_110 at hzz
    have t8 : ((8 : Int32) * gI o 21).toInt = 8 * (n : Int) := i32_mul (by decide) en (by omega) (by omega)
    by_cases czz : (8 : Int32) * gI o 21 ≤ v2
    · have d := cv_le (a := 8 * (n : Int)) (b := (izz : Int)) t8 e2zz czz
      obtain ⟨x1zz, x2zz, x3, x4zz, x5zz⟩ := w145 e1zz hazz ha' hKzz zfu 0 o 0 (by decide) (Nat.zero_le _) eK (z_t hzz czz)
      exact ⟨x1zz, x2zz, x3, fun jzz hj hr => x4zz jzz hj (by omega), fun kzz h1 h2 => by omega, fun kzz hk => x5zz kzz (Nat.zero_le _) hk⟩
    · have d := cv_nle (a := 8 * (n : Int)) (b := (izz : Int)) t8 e2zz czz
      obtain ⟨-, hzz⟩ := z_gd (z_f hzz czz)
      obtain ⟨-, hzz⟩ := z_gd hzz
      obtain ⟨o19, e19zz, hzz⟩ := z_lt hzz
      obtain ⟨x20, exzz, hzz⟩ := z_lt hzz
      have s1zz : (v1zz + (2 : Int32)).toInt = (azz : Int) + 2 := i32_add e1zz (by decide) (by omega) (by omega)
      have i3zz : ((v1zz + (2 : Int32)) + v2).toNatClampNeg = azz + 2 + izz := tnc_eq (by rw [i32_add s1zz e2zz (by omega) (by omega)]; omega)
      have ivzz : v2.toNatClampNeg = izz := tnc_eq e2zz
      have tx : x20.toInt = ((izz + 1 : Nat) : Int) := by rw [exzz]; exact Eq.trans (i32_add e2zz (by decide : (1 : Int32).toInt = 1) (by omega) (by omega)) (by omega)
      rw [i3zz, ivzz] at e19zz
      have k23 : (gI o19 23).toInt = (Kzz : Int) := by rw [e19zz]; exact eK
      have k21 : (gI o19 21).toInt = (n : Int) := by rw [e19zz]; exact en
      have r22 : gA o19 22 = gA o 22 := by rw [e19zz]; rfl
      have r24 : gA o19 24 = gA o 24 := by rw [e19zz]; rfl
      have r25 : gA o19 25 = gA o 25 := by rw [e19zz]; rfl
      have r3 : ∀ jzz, jzz ≠ azz + 2 + izz → gA o19 3 jzz = gA o 3 jzz := fun jzz qzz => by rw [e19zz, upd_at, if_neg qzz]
      have q0 : gA o19 3 (azz + 2 + izz) = gA o 22 izz := by rw [e19zz, upd_at, if_pos rfl]
      have k18 : gI o19 18 = gI o 18 := by rw [e19zz]; rfl
      obtain ⟨x1zz, x2zz, x3, x4zz, x5zz, x6⟩ := ihzz x20 o19 (izz + 1) tx (by omega) k23 k21 hzz
      have c2zz : gA o19 3 2 = gA o 3 2 := r3 2 (by omega)
      refine ⟨by rw [x1zz, c2zz], by rw [x2zz, c2zz], by rw [x3, k18], fun jzz hj hr => ?_, fun kzz h1 h2 => ?_, fun kzz hk => ?_⟩
      · rw [x4zz jzz hj (by omega)]; exact r3 jzz (by omega)
      · by_cases ezz : kzz = izz
        · rw [ezz, x4zz (azz + 2 + izz) (by omega) (Or.inl (by omega)), q0]
        · rw [← r22]; exact x5zz kzz (by omega) h2
      · rw [← r24, ← r25]; exact x6 kzz hk
set_option maxHeartbeats 200000 in
/-- what law() answers and leaves -/
theorem law9_eq {rd oc o : Ob} {yzz : Int32 × Ob} {zzz : Int32 × Ob × Ob} {l : Nat} (el : (gA o 3 2).toInt = (l : Int)) (hl : l < 6) (hz : TZ rd o) (ht : TbW o) (hH : HDs o) (h1 : f_X6_readText 12 400 rd oc 1 = some zzz) (hy : f_X9_law o = some yzz) :
    (zzz.1 = 0 ∧ yzz.1 = -6 ∧ gA yzz.2 3 = gA o 3 ∧ gI yzz.2 18 = gI zzz.2.1 3) ∨
    (zzz.1 = 1 ∧ yzz.1 = gA o 3 2 ∧ gA yzz.2 3 2 = gA o 3 2 + 1 ∧ (∀ jzz, jzz ≠ 2 → (jzz < 84 + 900 * l ∨ 84 + 900 * l + 900 ≤ jzz) → gA yzz.2 3 jzz = gA o 3 jzz) ∧ ∃ (wzz : Ob) (k1zz k2zz n : Nat), gI yzz.2 18 = gI wzz 18 ∧ 1 ≤ n ∧ n ≤ 12 ∧ ClS false (gA o 3) zzz.2.1 zzz.2.2 wzz k1zz k2zz n ∧ (gA yzz.2 3 (84 + 900 * l + 1)).toInt = (n : Int) ∧ (∀ kzz, kzz < 8 * n → gA yzz.2 3 (84 + 900 * l + 2 + kzz) = gA wzz 22 kzz) ∧ (∀ kzz, kzz < k2zz → gA yzz.2 3 (84 + 900 * l + 98 + 2 * kzz) = gA wzz 24 kzz ∧ gA yzz.2 3 (84 + 900 * l + 98 + 2 * kzz + 1) = gA wzz 25 kzz)) := by
  have n2zz : (2 : Int32).toNatClampNeg = 2 := by decide
  unfold f_X9_law at hy
  obtain ⟨o1, g1, hy⟩ := z_lt hy
  rw [n2zz] at hy
  have u3 : gA o1 3 = gA o 3 := by rw [g1]; rfl
  have hy := z_f hy (fun czz => by rw [u3] at czz; have czz := cv_eq (a := (l : Int)) (b := 6) el (by decide) czz; omega)
  obtain ⟨z2, ez2, hy⟩ := z_bd hy
  obtain ⟨z3, ez3, hy⟩ := z_bd hy
  have hz1 : TZ rd o1 := by rw [g1]; exact hz
  have ht1 : TbW o1 := by rw [g1]; exact ht
  have hH1 : HDs o1 := by rw [g1]; exact hH
  obtain ⟨wzz, hw, ⟨w3zz, wF⟩, hx⟩ := parse_L hz1 ht1 hH1 h1 ez2 ez3 hy
  rw [u3] at w3zz hx
  unfold bk_X9_law_64 at hw
  obtain ⟨z4, ez4, hw⟩ := z_bd hw
  unfold f_X9_endText at ez4
  rcases hx with ⟨a1zz, hbzz⟩ | ⟨a1zz, a2, a3, k1zz, k2zz, n, hn1, hn2, hC⟩
  · refine Or.inl ⟨a1zz, ?_⟩
    have h4 : gI z4 19 = 1 ∧ gI z4 18 = gI zzz.2.1 3 ∧ gA z4 3 = gA wzz 3 := by
      rcases hbzz with ⟨b1, b2⟩ | ⟨b1, b2, b3⟩
      · have ez4 := z_f ez4 (by rw [b1]; decide)
        unfold bk_X9_endText_19 at ez4
        obtain ⟨p1zz, gp1, ez4⟩ := z_lt ez4
        obtain ⟨p2zz, gp2, ez4⟩ := z_lt ez4
        rw [← Option.some.inj ez4, gp2, gp1]
        exact ⟨b1, b2, rfl⟩
      · obtain ⟨zm, ezm, ez4⟩ := z_bd (z_f (z_t ez4 b1) b2)
        have em := mu_no b1 ezm
        unfold bk_X9_endText_19 at ez4
        obtain ⟨p1zz, gp1, ez4⟩ := z_lt ez4
        obtain ⟨p2zz, gp2, ez4⟩ := z_lt ez4
        rw [← Option.some.inj ez4, gp2, gp1, em]
        exact ⟨rfl, b3, rfl⟩
    obtain ⟨zt, ezt, hw⟩ := z_bd (z_f hw (by rw [h4.1]; decide))
    have t := tell_3 ezt
    rw [← Option.some.inj hw]
    refine ⟨t.1, ?_, ?_⟩
    · show gA zt.2 3 = _; rw [t.2.1, h4.2.2, w3zz]
    · show gI zt.2 18 = _; rw [tell_18 ezt, h4.2.1]
  · have ez4 := z_t (z_t ez4 a2) a3
    unfold bk_X9_endText_19 at ez4
    obtain ⟨p1zz, gp1, ez4⟩ := z_lt ez4
    obtain ⟨p2zz, gp2, ez4⟩ := z_lt ez4
    have e4zz : z4 = sI (sI wzz 20 0) 13 0 := by rw [← Option.some.inj ez4, gp2, gp1]
    have k19 : gI z4 19 = 0 := by rw [e4zz]; exact a2
    obtain ⟨x5zz, gx5, hw⟩ := z_lt (z_t hw k19)
    obtain ⟨-, hw⟩ := z_gd hw
    obtain ⟨o7, g7, hw⟩ := z_lt hw
    rw [n2zz] at gx5
    have v3 : gA z4 3 = gA o 3 := by rw [e4zz]; exact w3zz
    have t9 : ((900 : Int32) * gA z4 3 2).toInt = 900 * (l : Int) := by rw [v3]; exact i32_mul (by decide) el (by omega) (by omega)
    have tx : x5zz.toInt = ((84 + 900 * l : Nat) : Int) := by rw [gx5]; exact Eq.trans (i32_add (by decide : (84 : Int32).toInt = 84) t9 (by omega) (by omega)) (by omega)
    have i1zz : (x5zz + (1 : Int32)).toNatClampNeg = 84 + 900 * l + 1 := tnc_eq (by rw [i32_add tx (by decide : (1 : Int32).toInt = 1) (by omega) (by omega)]; omega)
    rw [i1zz] at g7
    have k23 : (gI o7 23).toInt = (k2zz : Int) := by rw [g7, e4zz]; exact hC.1.2.2.2.2.2.1
    have k21 : (gI o7 21).toInt = (n : Int) := by rw [g7, e4zz]; exact hC.2.1
    obtain ⟨x1zz, x2zz, x3, x4zz, x5', x6⟩ := w110 tx (by omega) (by omega) hC.1.2.2.2.2.2.2.2.1 hn2 zfu 0 o7 0 (by decide) (Nat.zero_le _) k23 k21 hw
    have c2zz : gA o7 3 2 = gA o 3 2 := by rw [g7, upd_at, if_neg (by omega), v3]
    have c1zz : gA o7 3 (84 + 900 * l + 1) = gI wzz 21 := by rw [g7, upd_at, if_pos rfl, e4zz]; rfl
    have cj : ∀ jzz, jzz ≠ 84 + 900 * l + 1 → gA o7 3 jzz = gA o 3 jzz := fun jzz hj => by rw [g7, upd_at, if_neg hj, v3]
    have k18 : gI o7 18 = gI wzz 18 := by rw [g7, e4zz]; rfl
    have r22 : gA o7 22 = gA wzz 22 := by rw [g7, e4zz]; rfl
    have r24 : gA o7 24 = gA wzz 24 := by rw [g7, e4zz]; rfl
    have r25 : gA o7 25 = gA wzz 25 := by rw [g7, e4zz]; rfl
    have hk2 := hC.1.2.2.2.2.2.2.2.1
    refine Or.inr ⟨a1zz, ?_, by rw [x2zz, c2zz], fun jzz hj hr => ?_, wzz, k1zz, k2zz, n, by rw [x3, k18], hn1, hn2, hC, ?_, fun kzz hk => ?_, fun kzz hk => ?_⟩
    · rw [x1zz, c2zz]
      have s1zz : (gA o 3 2 + (1 : Int32)).toInt = (l : Int) + 1 := i32_add el (by decide) (by omega) (by omega)
      exact Int32.toInt_inj.mp (by rw [i32_sub s1zz (by decide : (1 : Int32).toInt = 1) (by omega) (by omega), el]; omega)
    · rw [x4zz jzz hj (by omega)]; exact cj jzz (by omega)
    · rw [x4zz (84 + 900 * l + 1) (by omega) (Or.inl (by omega)), c1zz]; exact hC.2.1
    · rw [x5' kzz (Nat.zero_le _) hk, r22]
    · rw [← r24, ← r25]; exact x6 kzz hk
