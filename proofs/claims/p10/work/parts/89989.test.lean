-- person
set_option maxHeartbeats 200000 in
theorem pers_t {yzz : Int32 × Ob} {v3 : Int32} (h0 : (0 : Int32) ≤ v3) : ∀ (Nzz : Nat) (v4zz : Int32) (o : Ob), lp_X9_person_109 Nzz (v3, v4zz, o) = some yzz → ∃ qzz : Ob, FrX dQ o qzz ∧ gI qzz 8 = 0 ∧ f_X9_tell qzz v3 = some yzz := by
  intro Nzz
  induction Nzz with
  | zero => intro v4zz o hzz; cases hzz
  | succ Nzz ihzz =>
    intro v4zz o hzz
    have hzz : lb_X9_person_109 (lp_X9_person_109 Nzz) v3 v4zz o = some yzz := hzz
    unfold lb_X9_person_109 at hzz
    rcases z_if hzz with ⟨-, hzz⟩ | ⟨-, hzz⟩
    · obtain ⟨q1zz, g1, hzz⟩ := z_lt hzz
      obtain ⟨zzz, kzz, hzz⟩ := z_bd hzz
      unfold f_X9_settled at kzz
      have kzz := z_t kzz h0
      unfold bk_X9_settled_13 at kzz
      obtain ⟨q2zz, g2, kzz⟩ := z_lt kzz
      obtain ⟨z2, k2zz, kzz⟩ := z_bd kzz
      refine ⟨q2zz, by rw [g2, g1]; exact FrX.sI (FrX.tA FrX.rf rfl) rfl, by rw [g2]; rfl, ?_⟩
      rw [k2zz, ← Option.some.inj hzz, ← Option.some.inj kzz]
    · have hzz := (z_gd hzz).2
      obtain ⟨q1zz, g1, hzz⟩ := z_lt hzz
      obtain ⟨xzz, gx, hzz⟩ := z_lt hzz
      obtain ⟨qzz, fzz, e8, kzz⟩ := ihzz xzz q1zz hzz
      exact ⟨qzz, (by rw [g1]; exact FrX.tA FrX.rf rfl : FrX dQ o q1zz).tr fzz, e8, kzz⟩
set_option maxHeartbeats 900000 in
theorem tf_person {pl : List CR} {o0zz o1 o4zz o5zz o8zz o6 o11 o9 : Ob} {im0 im1 : Option IR} {p0zz p1zz : Int32} {yzz : Int32 × Ob × Ob × Ob × Ob} {y' : Int32 × Ob} (ht : TF pl o0zz o1 o4zz o5zz o8zz o6 o11 o9 im0 im1) (h4 : IvX2 pl o4zz) (h1 : f_X8_person o0zz o4zz o5zz o11 p0zz p1zz = some yzz) (h2 : f_X9_person o9 p0zz p1zz = some y') : yzz.1 = y'.1 ∧ TF pl yzz.2.1 o1 yzz.2.2.1 yzz.2.2.2.1 o8zz o6 yzz.2.2.2.2 y'.2 im0 im1 := by
  obtain ⟨a1zz, a2⟩ := t_person h4 ht.2.2.2.2.2.2.1.1 h1 h2
  have n0zz : (0 : Int32).toNatClampNeg = 0 := by decide
  unfold f_X8_person at h1
  unfold f_X9_person at h2
  obtain ⟨q1zz, g1, h2⟩ := z_lt h2
  have ht1 : TF pl o0zz o1 o4zz o5zz o8zz o6 o11 q1zz im0 im1 := by rw [g1]; exact ht.sI0
  obtain ⟨t1zz, t2zz, t3zz, t4zz⟩ := ht1.2.2.2.2.2.2.1
  obtain ⟨z1, k1zz, h1⟩ := z_bd h1
  obtain ⟨w2zz, l2, h2⟩ := z_bd h2
  have no : bk_X8_person_23 o0zz o4zz o5zz o11 = some yzz → bk_X9_person_30 q1zz = some y' → yzz.1 = y'.1 ∧ TF pl yzz.2.1 o1 yzz.2.2.1 yzz.2.2.2.1 o8zz o6 yzz.2.2.2.2 y'.2 im0 im1 := by
    intro h1 h2
    unfold bk_X8_person_23 at h1
    unfold bk_X9_person_30 at h2
    obtain ⟨z2, k2zz, h1⟩ := z_bd h1
    obtain ⟨w3zz, l3, h2⟩ := z_bd h2
    have h1 := Option.some.inj h1
    have h2 := Option.some.inj h2
    rw [← h1, ← h2]
    exact ht1.no (Or.inl rfl) k2zz l3
  have gozz : (0 ≤ p0zz.toInt ∧ p0zz.toInt ≤ 9) → bk_X8_person_29 p0zz p1zz o0zz o4zz o5zz o11 = some yzz → bk_X9_person_36 p0zz p1zz q1zz = some y' → yzz.1 = y'.1 ∧ TF pl yzz.2.1 o1 yzz.2.2.1 yzz.2.2.2.1 o8zz o6 yzz.2.2.2.2 y'.2 im0 im1 := by
    intro hp h1 h2
    unfold bk_X8_person_29 at h1
    unfold bk_X9_person_36 at h2
    rw [n0zz] at h2
    obtain ⟨x4zz, g4, h2⟩ := z_lt h2
    have e7zz : gI o4zz 7 = x4zz := by rw [g4]; exact t1zz.1
    have r7 := h4.1
    rw [e7zz] at r7
    by_cases c7zz : x4zz = 7
    · obtain ⟨z6, k6zz, h1⟩ := z_bd (z_f h1 (by rw [e7zz, c7zz]; decide))
      obtain ⟨w20, l20, h2⟩ := z_bd (z_t h2 c7zz)
      have h1 := Option.some.inj h1
      have h2 := Option.some.inj h2
      rw [← h1, ← h2]
      exact ht1.no (Or.inr (Or.inr (Or.inr (Or.inl rfl)))) k6zz l20
    · have d7zz := cv_ne (a := x4zz.toInt) (b := 7) rfl (by decide) c7zz
      obtain ⟨n, en⟩ : ∃ n : Nat, x4zz.toInt = (n : Int) := ⟨x4zz.toInt.toNat, by omega⟩
      have hn : n < 7 := by omega
      have lt : gI o4zz 7 < 7 := by rw [e7zz]; exact Int32.lt_iff_toInt_lt.mpr (by rw [en, (by decide : (7 : Int32).toInt = 7)]; omega)
      obtain ⟨z3, k3zz, h1⟩ := z_bd (z_t h1 lt)
      obtain ⟨z4, k4zz, h1⟩ := z_bd h1
      obtain ⟨z5, k5zz, h1⟩ := z_bd h1
      have h1 := Option.some.inj h1
      have ec := clear_d k3zz
      unfold f_X2_addPerson at k4zz
      have k4zz := (z_gd (z_t k4zz lt)).2
      obtain ⟨m2zz, f2zz, k4zz⟩ := z_lt k4zz
      have k4zz := (z_gd k4zz).2
      obtain ⟨m4zz, f4zz, k4zz⟩ := z_lt k4zz
      obtain ⟨m5zz, f5zz, k4zz⟩ := z_lt k4zz
      have k4zz := Option.some.inj k4zz
      have i7zz : (gI o4zz 7).toNatClampNeg = n := by rw [e7zz]; exact tnc_eq en
      rw [i7zz] at f2zz f4zz
      have v5 : m5zz = sI (tA o4zz 1 n p1zz) 7 (gI o4zz 7 + 1) := by rw [f5zz, f4zz]; rfl
      have i8zz : ((8 : Int32) + x4zz).toNatClampNeg = 8 + n := tnc_eq (by rw [i32_add (by decide : (8 : Int32).toInt = 8) en (by omega) (by omega)]; omega)
      have i15 : ((15 : Int32) + x4zz).toNatClampNeg = 15 + n := tnc_eq (by rw [i32_add (by decide : (15 : Int32).toInt = 15) en (by omega) (by omega)]; omega)
      have i22 : ((22 : Int32) + x4zz).toNatClampNeg = 22 + n := tnc_eq (by rw [i32_add (by decide : (22 : Int32).toInt = 22) en (by omega) (by omega)]; omega)
      have i29 : ((29 : Int32) + x4zz).toNatClampNeg = 29 + n := tnc_eq (by rw [i32_add (by decide : (29 : Int32).toInt = 29) en (by omega) (by omega)]; omega)
      have i64zz : ((64 : Int32) + x4zz).toNatClampNeg = 64 + n := tnc_eq (by rw [i32_add (by decide : (64 : Int32).toInt = 64) en (by omega) (by omega)]; omega)
      rw [i8zz, i15, i22, i29, i64zz] at h2
      have h2 := (z_gd (z_f h2 c7zz)).2
      obtain ⟨q6zz, g6, h2⟩ := z_lt h2
      have h2 := (z_gd h2).2
      obtain ⟨q8zz, g8, h2⟩ := z_lt h2
      have h2 := (z_gd h2).2
      obtain ⟨q10zz, g10, h2⟩ := z_lt h2
      have h2 := (z_gd h2).2
      obtain ⟨q12zz, g12, h2⟩ := z_lt h2
      have h2 := (z_gd h2).2
      obtain ⟨q14zz, g14, h2⟩ := z_lt h2
      obtain ⟨u1zz, u2zz, u3⟩ := l9_pers en hn zfu 0 q14zz 0 (by decide) h2
      have h0 : (0 : Int32) ≤ x4zz := Int32.le_iff_toInt_le.mpr (by rw [en, (by decide : (0 : Int32).toInt = 0)]; omega)
      obtain ⟨qzz, fzz, e8, kzz⟩ := pers_t h0 zfu 0 q14zz h2
      have F14 : FrX dQ q1zz q14zz := by rw [g14, g12, g10, g8, g6]; exact FrX.tA (FrX.tA (FrX.tA (FrX.tA (FrX.tA FrX.rf rfl) rfl) rfl) rfl) rfl
      have Fq := F14.tr fzz
      have ft := fr_f_X9_tell kzz
      have Fzz : FrX dIs q1zz y'.2 := (Fq.mono rfl : FrX dIs q1zz qzz).tr (ft.mono rfl)
      have G14 : ∀ jzz, gA q14zz 3 jzz = if jzz = 64 + n then 0 else if jzz = 29 + n then p1zz else if jzz = 22 + n then 0 else if jzz = 15 + n then 0 else if jzz = 8 + n then p0zz else gA q1zz 3 jzz := by
        intro jzz
        rw [g14, g12, g10, g8, g6]
        show upd (upd (upd (upd (upd (gA q1zz 3) (8 + n) p0zz) (15 + n) 0) (22 + n) 0) (29 + n) p1zz) (64 + n) 0 jzz = _
        rw [updA, updA, updA, updA, updA]
      have E0zz : gA y'.2 3 0 = x4zz + 1 := by
        rw [u2zz, G14, if_neg (by omega), if_neg (by omega), if_neg (by omega), if_neg (by omega), if_neg (by omega), g4]
      have Ezz : ∀ jzz, jzz ≠ 0 → jzz ≠ 8 + n → jzz ≠ 15 + n → jzz ≠ 22 + n → jzz ≠ 29 + n → jzz ≠ 64 + n → ¬ (36 + 4 * n ≤ jzz ∧ jzz < 36 + 4 * n + 4) → gA y'.2 3 jzz = gA q1zz 3 jzz := by
        intro jzz j0 j8zz j15zz j22 j29 j64 j36
        rw [u3 jzz j0, if_neg (by omega), G14, if_neg j64, if_neg j29, if_neg j22, if_neg j15zz, if_neg j8zz]
      have E8 : gA y'.2 3 (8 + n) = p0zz := by
        rw [u3 (8 + n) (by omega), if_neg (by omega), G14, if_neg (by omega), if_neg (by omega), if_neg (by omega), if_neg (by omega), if_pos rfl]
      have E15 : gA y'.2 3 (15 + n) = 0 := by
        rw [u3 (15 + n) (by omega), if_neg (by omega), G14, if_neg (by omega), if_neg (by omega), if_neg (by omega), if_pos rfl]
      have E22 : gA y'.2 3 (22 + n) = 0 := by
        rw [u3 (22 + n) (by omega), if_neg (by omega), G14, if_neg (by omega), if_neg (by omega), if_pos rfl]
      have en0 : (gA q1zz 3 0).toInt = (n : Int) := by rw [← g4]; exact en
      have z15 : gA q1zz 3 (15 + n) = 0 := t4zz (15 + n) (by rw [en0]; omega)
      have z22 : gA q1zz 3 (22 + n) = 0 := t4zz (22 + n) (by rw [en0]; omega)
      have en1 : (x4zz + 1).toInt = (n : Int) + 1 := i32_add en (by decide) (by omega) (by omega)
      have e41zz : z4.2.1 = m5zz := by rw [← k4zz]
      have e42zz : z4.2.2 = m2zz := by rw [← k4zz]
      have ez := grant_d k5zz
      have exzz : z4.1 = x4zz := by
        have wzz := a1zz
        rw [← h1, ez, u1zz] at wzz
        exact wzz
      rw [← exzz] at kzz
      have sq : StT o0zz qzz := ⟨by rw [Fq.I 1 rfl]; exact ht1.2.2.2.1.1, by rw [Fq.A 2 rfl]; exact ht1.2.2.2.1.2⟩
      have s3zz := (st_grant sq (by rw [exzz, en]; omega) k5zz kzz).2.2
      have fg := fr_f_X8_grant k5zz
      have a2' : Tis z4.2.1 (gA y'.2 3) := by rw [← h1] at a2; exact a2
      refine ⟨a1zz, ?_⟩
      rw [← h1]
      refine ht1.isl Fzz ⟨a2', ?_, ?_, fun jzz hj => ?_⟩ (PaT.emp ec.1 ec.2 ((ft.I 8 rfl).trans e8)) s3zz (fg.I 13 rfl) (fg.I 14 rfl) (fg.R 7 rfl)
      · obtain ⟨v1zz, v2, v3, v4zz, v5', v6⟩ := t2zz
        have A2 : gA z4.2.1 2 = gA o4zz 2 := by rw [e41zz, v5]; rfl
        have A4 : gA z4.2.1 4 = gA o4zz 4 := by rw [e41zz, v5]; rfl
        have A5 : gA z4.2.1 5 = gA o4zz 5 := by rw [e41zz, v5]; rfl
        have R6 : gR z4.2.1 6 = gR o4zz 6 := by rw [e41zz, v5]; rfl
        have I9 : gI z4.2.1 9 = gI o4zz 9 := by rw [e41zz, v5]; rfl
        have I10 : gI z4.2.1 10 = gI o4zz 10 := by rw [e41zz, v5]; rfl
        have I11 : gI z4.2.1 11 = gI o4zz 11 := by rw [e41zz, v5]; rfl
        have I12 : gI z4.2.1 12 = gI o4zz 12 := by rw [e41zz, v5]; rfl
        have X2 : gA y'.2 3 2 = gA q1zz 3 2 := Ezz 2 (by omega) (by omega) (by omega) (by omega) (by omega) (by omega) (by omega)
        have X3 : gA y'.2 3 3 = gA q1zz 3 3 := Ezz 3 (by omega) (by omega) (by omega) (by omega) (by omega) (by omega) (by omega)
        have X5 : gA y'.2 3 5 = gA q1zz 3 5 := Ezz 5 (by omega) (by omega) (by omega) (by omega) (by omega) (by omega) (by omega)
        have X6 : gA y'.2 3 6 = gA q1zz 3 6 := Ezz 6 (by omega) (by omega) (by omega) (by omega) (by omega) (by omega) (by omega)
        refine ⟨⟨⟨a2'.1, by rw [E0zz, en1]; omega, by rw [E0zz, en1]; omega⟩, fun jzz hj => ⟨a2'.2.2.2.2.2.1 jzz hj, ?_⟩, by rw [X6, I12]; exact v1zz.2.2⟩, by rw [X2, I9]; exact v2, by rw [X3, X2, I10]; exact v3, by rw [X5, I11]; exact v4zz, fun jzz hj => ?_, fun l hl => ?_⟩
        · rw [← a2'.2.2.2.2.2.1 jzz hj, A2, (v1zz.2.1 jzz hj).1]
          exact (v1zz.2.1 jzz hj).2
        · rw [A4, A5, Ezz (71 + 2 * jzz) (by omega) (by omega) (by omega) (by omega) (by omega) (by omega) (by omega), Ezz (72 + 2 * jzz) (by omega) (by omega) (by omega) (by omega) (by omega) (by omega) (by omega)]
          exact v5' jzz hj
        · rw [X2] at hl
          have hl6 := v2.2.2
          obtain ⟨aa, cc, r1zz, r2, r3⟩ := v6 l hl
          exact ⟨aa, cc, by rw [R6]; exact r1zz, r2, r3.eq (fun jzz hj => Ezz jzz (by omega) (by omega) (by omega) (by omega) (by omega) (by omega) (by omega))⟩
      · rw [e42zz, f2zz]
        refine (t3zz.trade hn hp).ext (fun _ _ => rfl) (fun _ _ => rfl) rfl rfl rfl (fun jzz j1 j2zz => ?_)
        rw [updA]
        by_cases c8zz : jzz = 8 + n
        · rw [if_pos c8zz, c8zz, E8]
        · rw [if_neg c8zz]
          by_cases c15zz : jzz = 15 + n
          · rw [c15zz, E15, z15]
          · by_cases c22 : jzz = 22 + n
            · rw [c22, E22, z22]
            · exact Ezz jzz (by omega) c8zz c15zz c22 (by omega) (by omega) (by omega)
      · rw [E0zz, en1] at hj
        by_cases c15zz : jzz = 15 + n
        · omega
        · by_cases c22 : jzz = 22 + n
          · omega
          · rw [Ezz jzz (by omega) (by omega) c15zz c22 (by omega) (by omega) (by omega)]
            exact t4zz jzz (by rw [en0]; omega)
  have i9zz := in9 (m := 0) (n := 9) (by decide) (by decide) l2
  have i8zz := isT8 k1zz
  rcases i9zz with ⟨uzz, vzz⟩ | ⟨uzz, vzz⟩
  · have c1zz : z1 = 0 := by
      rcases i8zz with ⟨wzz, -⟩ | ⟨-, wzz⟩
      · exact wzz
      · exact absurd (by omega) vzz
    exact no (z_t h1 c1zz) (z_t h2 uzz)
  · have c1zz : ¬ z1 = 0 := by
      rcases i8zz with ⟨-, wzz⟩ | ⟨wzz, -⟩
      · exact absurd (by omega) wzz
      · exact wzz
    have h1 := z_f h1 c1zz
    have h2 := z_f h2 uzz
    by_cases c2zz : p1zz = -1
    · exact gozz vzz (z_t h1 c2zz) (z_t h2 c2zz)
    · obtain ⟨z7, k7zz, h1⟩ := z_bd (z_f h1 c2zz)
      obtain ⟨w21, l21, h2⟩ := z_bd (z_f h2 c2zz)
      have p2' := isP2 k7zz
      rw [t2zz.1.1.1] at p2'
      rcases isP9 l21 t2zz.1.1.2 with ⟨e1zz, e2zz⟩ | ⟨e1zz, e2zz⟩
      · have c3zz : z7 = 0 := by
          rcases p2' with ⟨wzz, -⟩ | ⟨-, wzz⟩
          · exact wzz
          · exact absurd wzz e2zz
        exact no (z_t h1 c3zz) (z_t h2 e1zz)
      · have c3zz : ¬ z7 = 0 := by
          rcases p2' with ⟨-, wzz⟩ | ⟨wzz, -⟩
          · exact absurd e2zz wzz
          · exact wzz
        exact gozz vzz (z_f h1 c3zz) (z_f h2 e1zz)
-- row
/-- strengths within their bounds -/
def SrR (o : Ob) : Prop := ∀ jzz, jzz < 28 → 0 ≤ (gA o 2 jzz).toInt ∧ (gA o 2 jzz).toInt ≤ 9
set_option maxHeartbeats 200000 in
theorem row8_lp {o1 : Ob} (hs : 0 ≤ (gI o1 2).toInt ∧ (gI o1 2).toInt ≤ 400) {yzz : Int32 × Ob × Ob × Ob} : ∀ (Nzz : Nat) (v1zz v2 : Int32) (kzz : Nat) (o0zz iszz : Ob), v2.toInt = (kzz : Int) → kzz ≤ 404 → 0 ≤ v1zz.toInt → v1zz.toInt ≤ (kzz : Int) → (0 ≤ (gI iszz 7).toInt ∧ (gI iszz 7).toInt ≤ 7) → SrR iszz → lp_X8_row_26 Nzz (v1zz, v2, o0zz, o1, iszz) = some yzz → SrR yzz.2.2.2 ∧ gA yzz.2.2.1 0 = gA o1 0 ∧ ∃ (vzz : Int32) (qzz : Ob), 0 ≤ vzz.toInt ∧ gI qzz 12 = gI o0zz 12 ∧ gA qzz 11 = gA o0zz 11 ∧ f_X8_grant qzz vzz = some (yzz.1, yzz.2.1) := by
  intro Nzz
  induction Nzz with
  | zero => intro v1zz v2 kzz o0zz iszz _ _ _ _ _ _ hzz; cases hzz
  | succ Nzz ihzz =>
    intro v1zz v2 kzz o0zz iszz ek hk hv0 hv hp hSzz hzz
    have hzz : lb_X8_row_26 (lp_X8_row_26 Nzz) v1zz v2 o0zz o1 iszz = some yzz := hzz
    unfold lb_X8_row_26 at hzz
    by_cases czz : gI o1 2 ≤ v2
    · obtain ⟨q2zz, g2, hzz⟩ := z_lt (z_t hzz czz)
      obtain ⟨z3, k3zz, hzz⟩ := z_bd hzz
      have hzz := Option.some.inj hzz
      rw [← hzz]
      exact ⟨hSzz, by show gA q2zz 0 = _; rw [g2]; rfl, v1zz, o0zz, hv0, rfl, rfl, k3zz⟩
    · have d := cv_nle (a := (gI o1 2).toInt) (b := (kzz : Int)) rfl ek czz
      obtain ⟨z4, k4zz, hzz⟩ := z_bd (z_f hzz czz)
      have e5zz : (v2 + (5 : Int32)).toInt = ((kzz + 5 : Nat) : Int) := by rw [i32_add ek (by decide : (5 : Int32).toInt = 5) (by omega) (by omega)]; omega
      have e1zz : (v1zz + (1 : Int32)).toInt = v1zz.toInt + 1 := i32_add rfl (by decide) (by omega) (by omega)
      rcases tellRow8 ek (by omega) hs hp k4zz with ⟨b1, b2, -⟩ | ⟨b1, ⟨b2, b3⟩, b7, b8, b9, b10, b11⟩
      · obtain ⟨q5zz, g5zz, hzz⟩ := z_lt (z_t hzz b1)
        unfold bk_X8_row_61 at hzz
        obtain ⟨x6, g6, hzz⟩ := z_lt hzz
        obtain ⟨r1zz, r2, vzz, qzz, r3, r4, r5zz, r6⟩ := ihzz v1zz x6 (kzz + 5) q5zz z4.2 (by rw [g6]; exact e5zz) (by omega) hv0 (by omega) (by rw [b2]; exact hp) (by rw [b2]; exact hSzz) hzz
        exact ⟨r1zz, r2, vzz, qzz, r3, by rw [r4, g5zz]; rfl, by rw [r5zz, g5zz]; rfl, r6⟩
      · obtain ⟨x7, g7, hzz⟩ := z_lt (z_f hzz b1)
        unfold bk_X8_row_61 at hzz
        obtain ⟨x6, g6, hzz⟩ := z_lt hzz
        obtain ⟨azz, ea⟩ : ∃ azz : Nat, (gA o1 0 kzz).toInt = (azz : Int) := ⟨(gA o1 0 kzz).toInt.toNat, by omega⟩
        have ia : (gA o1 0 kzz).toNatClampNeg = azz := tnc_eq ea
        rw [ia] at b11
        refine ihzz x7 x6 (kzz + 5) o0zz z4.2 (by rw [g6]; exact e5zz) (by omega) (by rw [g7, e1zz]; omega) (by rw [g7, e1zz]; omega) (by rw [b7]; exact hp) (fun jzz hj => ?_) hzz
        rw [b11]
        by_cases cj : 4 * azz ≤ jzz ∧ jzz < 4 * azz + 4
        · rw [if_pos cj]
          exact ⟨(b3 (jzz - 4 * azz) (by omega)).2.1, (b3 (jzz - 4 * azz) (by omega)).2.2⟩
        · rw [if_neg cj]; exact hSzz jzz hj
set_option maxHeartbeats 200000 in
theorem l58_f {yzz : Int32 × Ob} {rec35 : Int32 × Int32 × Int32 × Ob → Option (Int32 × Ob)} {v1zz v2 v3 : Int32} {kzz azz : Nat} (ek : v3.toInt = (kzz : Int)) (hk : kzz ≤ 400) (hazz : azz < 7) : ∀ (Nzz : Nat) (v4zz : Int32) (rzz : Nat) (o : Ob), v4zz.toInt = (rzz : Int) → rzz ≤ 4 → (gA o 12 kzz).toInt = (azz : Int) → lp_X9_row_58 rec35 Nzz (v1zz, v2, v3, v4zz, o) = some yzz →
    ∃ o' : Ob, bk_X9_row_116 rec35 v1zz (v2 + 1) v3 o' = some yzz ∧ gI o' 1 = gI o 1 ∧ gA o' 2 = gA o 2 ∧ ∀ jzz, ¬ (36 ≤ jzz ∧ jzz < 64) → gA o' 3 jzz = gA o 3 jzz := by
  intro Nzz
  induction Nzz with
  | zero => intro v4zz rzz o _ _ _ hzz; cases hzz
  | succ Nzz ihzz =>
    intro v4zz rzz o er hr et hzz
    have hzz : lb_X9_row_58 rec35 (lp_X9_row_58 rec35 Nzz) v1zz v2 v3 v4zz o = some yzz := hzz
    unfold lb_X9_row_58 at hzz
    by_cases czz : (4 : Int32) ≤ v4zz
    · have d := cv_le (a := 4) (b := (rzz : Int)) (by decide) er czz
      obtain ⟨x9, e9zz, hzz⟩ := z_lt (z_t hzz czz)
      rw [e9zz] at hzz
      exact ⟨o, hzz, rfl, rfl, fun jzz _ => rfl⟩
    · have d := cv_nle (a := 4) (b := (rzz : Int)) (by decide) er czz
      obtain ⟨-, hzz⟩ := z_gd (z_f hzz czz)
      obtain ⟨-, hzz⟩ := z_gd hzz
      obtain ⟨-, hzz⟩ := z_gd hzz
      obtain ⟨o13, e13zz, hzz⟩ := z_lt hzz
      obtain ⟨x14, e14zz, hzz⟩ := z_lt hzz
      have ik : v3.toNatClampNeg = kzz := tnc_eq ek
      rw [ik] at e13zz
      have m3zz : ((4 : Int32) * gA o 12 kzz).toInt = 4 * (azz : Int) := i32_mul (by decide) et (by omega) (by omega)
      have m4zz : ((36 : Int32) + ((4 : Int32) * gA o 12 kzz)).toInt = 36 + 4 * (azz : Int) := i32_add (by decide) m3zz (by omega) (by omega)
      have m5zz : (((36 : Int32) + ((4 : Int32) * gA o 12 kzz)) + v4zz).toInt = 36 + 4 * (azz : Int) + (rzz : Int) := i32_add m4zz er (by omega) (by omega)
      have i5zz : (((36 : Int32) + ((4 : Int32) * gA o 12 kzz)) + v4zz).toNatClampNeg = 36 + 4 * azz + rzz := tnc_eq (by omega)
      rw [i5zz] at e13zz
      have t14 : x14.toInt = (rzz : Int) + 1 := by rw [e14zz]; exact i32_add er (by decide) (by omega) (by omega)
      have k12 : gA o13 12 = gA o 12 := by rw [e13zz]; rfl
      obtain ⟨o', b1, b2, b3, b4⟩ := ihzz x14 (rzz + 1) o13 (by omega) (by omega) (by rw [k12]; exact et) hzz
      refine ⟨o', b1, by rw [b2, e13zz]; rfl, by rw [b3, e13zz]; rfl, fun jzz hj => ?_⟩
      rw [b4 jzz hj, e13zz, t3_at, if_neg (by omega)]
set_option maxHeartbeats 200000 in
theorem row9_lp {yzz : Int32 × Ob} {sz : Int32} (hs : sz.toInt ≤ 400) : ∀ (Nzz : Nat) (v1zz v2 : Int32) (kzz : Nat) (o : Ob), v2.toInt = (kzz : Int) → kzz ≤ 404 → (0 ≤ (gA o 3 0).toInt ∧ (gA o 3 0).toInt ≤ 7) → lp_X9_row_35 Nzz (sz, v1zz, v2, o) = some yzz → (∀ jzz, ¬ (36 ≤ jzz ∧ jzz < 64) → gA yzz.2 3 jzz = gA o 3 jzz) ∧ ∃ (vzz : Int32) (qzz : Ob), gI qzz 1 = gI o 1 ∧ gA qzz 2 = gA o 2 ∧ f_X9_tell qzz vzz = some yzz := by
  intro Nzz
  induction Nzz with
  | zero => intro v1zz v2 kzz o _ _ _ hzz; cases hzz
  | succ Nzz ihzz =>
    intro v1zz v2 kzz o ek hk hp hzz
    have hzz : lb_X9_row_35 (lp_X9_row_35 Nzz) sz v1zz v2 o = some yzz := hzz
    unfold lb_X9_row_35 at hzz
    by_cases czz : sz ≤ v2
    · obtain ⟨z5, k5zz, hzz⟩ := z_bd (z_t hzz czz)
      have hzz := Option.some.inj hzz
      rw [← hzz]
      refine ⟨fun jzz _ => ?_, v1zz, o, rfl, rfl, k5zz⟩
      show gA z5.2 3 jzz = _
      rw [(tell_3 k5zz).2.1]
    · have d := cv_nle (a := sz.toInt) (b := (kzz : Int)) rfl ek czz
      have hzz := z_f hzz czz
      have e5zz : (v2 + (5 : Int32)).toInt = ((kzz + 5 : Nat) : Int) := by rw [i32_add ek (by decide : (5 : Int32).toInt = 5) (by omega) (by omega)]; omega
      have blot : bk_X9_row_106 (lp_X9_row_35 Nzz) sz v1zz v2 o = some yzz → (∀ jzz, ¬ (36 ≤ jzz ∧ jzz < 64) → gA yzz.2 3 jzz = gA o 3 jzz) ∧ ∃ (vzz : Int32) (qzz : Ob), gI qzz 1 = gI o 1 ∧ gA qzz 2 = gA o 2 ∧ f_X9_tell qzz vzz = some yzz := by
        intro hzz
        unfold bk_X9_row_106 at hzz
        obtain ⟨q6zz, g6, hzz⟩ := z_lt hzz
        unfold bk_X9_row_116 at hzz
        obtain ⟨x7, g7, hzz⟩ := z_lt hzz
        obtain ⟨r1zz, vzz, qzz, r2, r3, r4⟩ := ihzz v1zz x7 (kzz + 5) q6zz (by rw [g7]; exact e5zz) (by omega) (by rw [g6]; exact hp) hzz
        exact ⟨fun jzz hj => by rw [r1zz jzz hj, g6]; rfl, vzz, qzz, by rw [r2, g6]; rfl, by rw [r3, g6]; rfl, r4⟩
      by_cases c4zz : sz ≤ v2 + (4 : Int32)
      · exact blot (z_t hzz c4zz)
      · obtain ⟨z8, k8zz, hzz⟩ := z_bd (z_f hzz c4zz)
        rcases isTold9 ek (by omega) hp k8zz with ⟨b1, -⟩ | ⟨b1, b2, b3⟩
        · exact blot (z_t hzz b1)
        · have hzz := z_f hzz b1
          obtain ⟨azz, ea⟩ : ∃ azz : Nat, (gA o 12 kzz).toInt = (azz : Int) := ⟨(gA o 12 kzz).toInt.toNat, by omega⟩
          obtain ⟨o', hzz, f1zz, f2zz, f3zz⟩ := l58_f ek (by omega) (by omega : azz < 7) zfu 0 0 o (by decide) (by decide) ea hzz
          unfold bk_X9_row_116 at hzz
          obtain ⟨x7, g7, hzz⟩ := z_lt hzz
          obtain ⟨r1zz, vzz, qzz, r2, r3, r4⟩ := ihzz (v1zz + 1) x7 (kzz + 5) o' (by rw [g7]; exact e5zz) (by omega) (by rw [f3zz 0 (by omega)]; exact hp) hzz
          exact ⟨fun jzz hj => (r1zz jzz hj).trans (f3zz jzz hj), vzz, qzz, r2.trans f1zz, r3.trans f2zz, r4⟩
set_option maxHeartbeats 200000 in
theorem tf_row {pl : List CR} {o0zz o1 o4zz o5zz o8zz o6 o11 o9 : Ob} {im0 im1 : Option IR} {yzz : Int32 × Ob × Ob × Ob} {y' : Int32 × Ob} (ht : TF pl o0zz o1 o4zz o5zz o8zz o6 o11 o9 im0 im1) (h4 : IvX2 pl o4zz) (hr : 0 ≤ (gI o1 2).toInt ∧ (gI o1 2).toInt ≤ 400) (h1 : f_X8_row o0zz o1 o4zz = some yzz) (h2 : f_X9_row o9 = some y') : yzz.1 = y'.1 ∧ TF pl yzz.2.1 yzz.2.2.1 yzz.2.2.2 o5zz o8zz o6 o11 y'.2 im0 im1 := by
  obtain ⟨a1zz, a2, a3⟩ := t_row h4 hr ht.1.1 ht.2.2.2.2.2.2.1.1 ht.1.2 ht.2.1 h1 h2
  have fzz := fr_f_X9_row h2
  obtain ⟨d1zz, d2zz, d3zz⟩ := fr_f_X8_row h1
  have e2zz := row8_2 h1
  have e13zz := row9_13 h2
  obtain ⟨t1zz, t2zz, t3zz, t4zz⟩ := ht.2.2.2.2.2.2.1
  have corezz : SrR yzz.2.2.2 ∧ gA yzz.2.2.1 0 = gA o1 0 ∧ StT yzz.2.1 y'.2 ∧ ∀ jzz, ¬ (36 ≤ jzz ∧ jzz < 64) → gA y'.2 3 jzz = gA o9 3 jzz := by
    have hS4 : SrR o4zz := fun jzz hj => by rw [(t2zz.1.2.1 jzz hj).1]; exact (t2zz.1.2.1 jzz hj).2
    unfold f_X8_row at h1
    unfold f_X9_row at h2
    obtain ⟨q1zz, g1, h2⟩ := z_lt h2
    obtain ⟨x2zz, g2, h2⟩ := z_lt h2
    obtain ⟨q3zz, g3zz, h2⟩ := z_lt h2
    have exs : x2zz = gI o1 2 := by rw [g2, g1, ht.1.1]; rfl
    have st3zz : StT o0zz q3zz := ht.2.2.2.1.eq rfl rfl (by rw [g3zz, g1]; rfl) (by rw [g3zz, g1]; rfl)
    have e33zz : gA q3zz 3 = gA o9 3 := by rw [g3zz, g1]; rfl
    by_cases czz : gI o1 2 = 0
    · obtain ⟨z8, k8zz, h1⟩ := z_bd (z_t h1 czz)
      obtain ⟨z15, k15, h2⟩ := z_bd (z_t h2 (by rw [exs]; exact czz))
      have h1 := Option.some.inj h1
      have h2 := Option.some.inj h2
      rw [← h1, ← h2]
      refine ⟨hS4, rfl, (st_refuse st3zz (Or.inr (Or.inr (Or.inr (Or.inr rfl)))) k8zz k15).2.2, fun jzz _ => ?_⟩
      show gA z15.2 3 jzz = _
      rw [(tell_3 k15).2.1, e33zz]
    · obtain ⟨b1, g4, h1⟩ := z_lt (z_f h1 czz)
      obtain ⟨q4zz, g5zz, h2⟩ := z_lt (z_f h2 (by rw [exs]; exact czz))
      rw [exs] at h2
      have e43 : gA q4zz 3 = gA o9 3 := by rw [g5zz]; exact e33zz
      obtain ⟨r1zz, r2, vzz, qzz, r3, r4, r5zz, r6⟩ := row8_lp hr zfu 0 0 0 b1 o4zz (by decide) (by decide) (by decide) (by decide) h4.1 hS4 h1
      obtain ⟨s1zz, v', q', s2zz, s3zz, s4zz⟩ := row9_lp hr.2 zfu 0 0 0 q4zz (by decide) (by decide) (by rw [e43]; exact t2zz.1.1.2) h2
      have evzz : vzz = v' := by
        have w1zz := grant_ret r6
        have w2zz := (tell_3 s4zz).1
        rw [← w1zz, ← w2zz]; exact a1zz
      rw [← evzz] at s4zz
      have sq : StT qzz q' := st3zz.eq (by rw [r4, g4]; rfl) (by rw [r5zz, g4]; rfl) (by rw [s2zz, g5zz]; rfl) (by rw [s3zz, g5zz]; rfl)
      exact ⟨r1zz, r2, (st_grant sq r3 r6 s4zz).2.2, fun jzz hj => by rw [s1zz jzz hj, e43]⟩
  obtain ⟨c1zz, c2zz, c3zz, Ezz⟩ := corezz
  obtain ⟨⟨-, h2'⟩, h3, ⟨h4', h4''⟩, h5, h6, h7, -, h9, h10⟩ := ht
  have E0zz : gA y'.2 3 0 = gA o9 3 0 := Ezz 0 (by omega)
  have E2 : gA y'.2 3 2 = gA o9 3 2 := Ezz 2 (by omega)
  refine ⟨a1zz, ⟨by rw [e2zz, e13zz], by rw [c2zz, fzz.A 12 rfl]; exact h2'⟩, a3, ⟨h4'.eq (fzz.M 31 rfl) (fzz.M 32 rfl), h4''.eq2 (fzz.M 33 rfl) (fzz.M 54 rfl)⟩, c3zz, by rw [d1zz.I 14 rfl, fzz.I 58 rfl]; exact h6, h7.eq (fzz.I 62 rfl) (fzz.A 61 rfl), ⟨a2, ?_, t3zz.ext (fun _ _ => rfl) (fun _ _ => rfl) rfl rfl rfl (fun jzz j1 j2zz => Ezz jzz (by omega)), fun jzz hj => ?_⟩, ?_, h10.eq (d1zz.R 7 rfl) (fzz.A 5 rfl) (fzz.A 4 rfl)⟩
  · obtain ⟨v1zz, v2, v3, v4zz, v5, v6⟩ := t2zz
    refine ⟨⟨⟨a2.1, by rw [E0zz]; exact v1zz.1.2⟩, fun jzz hj => ⟨a2.2.2.2.2.2.1 jzz hj, ?_⟩, by rw [d3zz.I 12 rfl, Ezz 6 (by omega)]; exact v1zz.2.2⟩, by rw [d3zz.I 9 rfl, E2]; exact v2, by rw [d3zz.I 10 rfl, Ezz 3 (by omega), E2]; exact v3, by rw [d3zz.I 11 rfl, Ezz 5 (by omega)]; exact v4zz, fun jzz hj => ?_, fun l hl => ?_⟩
    · rw [← a2.2.2.2.2.2.1 jzz hj]; exact c1zz jzz hj
    · rw [d3zz.A 4 rfl, d3zz.A 5 rfl, Ezz (71 + 2 * jzz) (by omega), Ezz (72 + 2 * jzz) (by omega)]; exact v5 jzz hj
    · rw [E2] at hl
      obtain ⟨aa, cc, r1zz, r2, r3⟩ := v6 l hl
      exact ⟨aa, cc, by rw [d3zz.R 6 rfl]; exact r1zz, r2, r3.eq (fun jzz hj => Ezz jzz (by omega))⟩
  · have g0 := t2zz.1.1.2.1
    rw [E0zz] at hj
    rw [Ezz jzz (by omega)]
    exact t4zz jzz hj
  · rw [E0zz]
    exact h9.cell (fzz.I 8 rfl) (fzz.A 6 rfl) (fzz.A 7 rfl) (fun jzz hj => Ezz jzz (by omega))
