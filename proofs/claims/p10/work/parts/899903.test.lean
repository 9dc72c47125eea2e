-- few
set_option maxHeartbeats 200000 in
theorem m8_at {o : Ob} {jzz xzz : Nat} {vzz : Int64} : gM (tM o 8 jzz vzz) 8 xzz = if xzz = jzz then vzz else gM o 8 xzz := rfl
set_option maxHeartbeats 200000 in
theorem m53_at {o : Ob} {jzz xzz : Nat} {vzz : Int64} : gM (tM o 53 jzz vzz) 53 xzz = if xzz = jzz then vzz else gM o 53 xzz := rfl
set_option maxHeartbeats 200000 in
theorem few_fill {yzz : Ob} {vzz : Int64} : ∀ (Nzz : Nat) (v3 : Int32) (o : Ob) (izz : Nat), v3.toInt = (izz : Int) → izz ≤ 20 → lp_J7_fill_d0a16_AX7_8_6 Nzz (vzz, v3, 20, o) = some yzz → ∀ xzz, xzz < 20 → gM yzz 8 xzz = if izz ≤ xzz then vzz else gM o 8 xzz := by
  intro Nzz
  induction Nzz with
  | zero => intro v3 o izz _ _ hzz; cases hzz
  | succ Nzz ihzz =>
    intro v3 o izz ezz hizz hzz xzz hx
    have hzz : lb_J7_fill_d0a16_AX7_8_6 (lp_J7_fill_d0a16_AX7_8_6 Nzz) vzz v3 20 o = some yzz := hzz
    unfold lb_J7_fill_d0a16_AX7_8_6 at hzz
    by_cases czz : (20 : Int32) ≤ v3
    · have d := cv_le (a := 20) (b := (izz : Int)) (by decide) ezz czz
      rw [← Option.some.inj (z_t hzz czz), if_neg (by omega)]
    · have d := cv_nle (a := 20) (b := (izz : Int)) (by decide) ezz czz
      have hzz := (z_gd (z_f hzz czz)).2
      obtain ⟨qzz, gzz, hzz⟩ := z_lt hzz
      obtain ⟨wzz, gw, hzz⟩ := z_lt hzz
      have ii : v3.toNatClampNeg = izz := tnc_eq ezz
      rw [ii] at gzz
      rw [ihzz wzz qzz (izz + 1) (by rw [gw]; exact Eq.trans (i32_add ezz (by decide : (1 : Int32).toInt = 1) (by omega) (by omega)) (by omega)) (by omega) hzz xzz hx, gzz, m8_at]
      by_cases cx : izz + 1 ≤ xzz
      · rw [if_pos cx, if_pos (by omega)]
      · rw [if_neg cx]
        by_cases c2zz : xzz = izz
        · rw [if_pos c2zz, if_pos (by omega)]
        · rw [if_neg c2zz, if_neg (by omega)]
set_option maxHeartbeats 200000 in
theorem few_ini {yzz : Int64 × Ob} {p0zz p1zz : Int32} : ∀ (Nzz : Nat) (v3 : Int32) (o : Ob) (izz : Nat), v3.toInt = (izz : Int) → izz ≤ 21 → lp_X9_few_35 Nzz (p0zz, p1zz, v3, o) = some yzz → ∃ o' : Ob, lp_X9_few_74 zfu (p0zz, p1zz, gA o' 3 5, 0, o') = some yzz ∧ gA o' 3 = gA o 3 ∧ ∀ xzz, xzz < 21 → gM o' 53 xzz = if izz ≤ xzz then (if xzz = 0 then 1000000000000 else 0) else gM o 53 xzz := by
  have n5zz : (5 : Int32).toNatClampNeg = 5 := by decide
  intro Nzz
  induction Nzz with
  | zero => intro v3 o izz _ _ hzz; cases hzz
  | succ Nzz ihzz =>
    intro v3 o izz ezz hizz hzz
    have hzz : lb_X9_few_35 (lp_X9_few_35 Nzz) p0zz p1zz v3 o = some yzz := hzz
    unfold lb_X9_few_35 at hzz
    rw [n5zz] at hzz
    have ii : v3.toNatClampNeg = izz := tnc_eq ezz
    by_cases czz : (21 : Int32) ≤ v3
    · have d := cv_le (a := 21) (b := (izz : Int)) (by decide) ezz czz
      obtain ⟨x4zz, g4, hzz⟩ := z_lt (z_t hzz czz)
      rw [g4] at hzz
      exact ⟨o, hzz, rfl, fun xzz hx => by rw [if_neg (by omega)]⟩
    · have d := cv_nle (a := 21) (b := (izz : Int)) (by decide) ezz czz
      have hzz := z_f hzz czz
      have gozz : ∀ s0zz : Int64, s0zz = (if izz = 0 then 1000000000000 else 0) → bk_X9_few_57 (lp_X9_few_35 Nzz) p0zz p1zz v3 s0zz v3 o = some yzz → ∃ o' : Ob, lp_X9_few_74 zfu (p0zz, p1zz, gA o' 3 5, 0, o') = some yzz ∧ gA o' 3 = gA o 3 ∧ ∀ xzz, xzz < 21 → gM o' 53 xzz = if izz ≤ xzz then (if xzz = 0 then 1000000000000 else 0) else gM o 53 xzz := by
        intro s0zz hs hzz
        unfold bk_X9_few_57 at hzz
        have hzz := (z_gd hzz).2
        obtain ⟨qzz, gzz, hzz⟩ := z_lt hzz
        obtain ⟨wzz, gw, hzz⟩ := z_lt hzz
        rw [ii] at gzz
        obtain ⟨o', k1zz, k2zz, k3zz⟩ := ihzz wzz qzz (izz + 1) (by rw [gw]; exact Eq.trans (i32_add ezz (by decide : (1 : Int32).toInt = 1) (by omega) (by omega)) (by omega)) (by omega) hzz
        refine ⟨o', k1zz, k2zz.trans (by rw [gzz]; rfl), fun xzz hx => ?_⟩
        rw [k3zz xzz hx, gzz, m53_at]
        by_cases cx : izz + 1 ≤ xzz
        · rw [if_pos cx, if_pos (show izz ≤ xzz by omega)]
        · rw [if_neg cx]
          by_cases c2zz : xzz = izz
          · rw [if_pos c2zz, if_pos (show izz ≤ xzz by omega), hs, c2zz]
          · rw [if_neg c2zz, if_neg (show ¬ izz ≤ xzz by omega)]
      by_cases c0zz : v3 = 0
      · have i0zz : izz = 0 := by
          have qzz := cv_eq (a := (izz : Int)) (b := 0) ezz (by decide) c0zz
          omega
        exact gozz _ (by rw [if_pos i0zz]) (z_t hzz c0zz)
      · have i0zz : ¬ izz = 0 := by
          have qzz := cv_ne (a := (izz : Int)) (b := 0) ezz (by decide) c0zz
          omega
        exact gozz _ (by rw [if_neg i0zz]) (z_f hzz c0zz)
/-- the parts of both, within one runner's round -/
def FwR (T : Int32) (kzz czz : Nat) (o o' : Ob) : Prop := ∀ xzz, xzz < kzz → (czz < xzz → gM o 8 xzz = gM o' 53 xzz) ∧ (xzz = czz → 0 < czz → gM o 8 xzz = gM o' 53 xzz + (gM o' 53 (czz - 1) * T.toInt64) / 10) ∧ (xzz = czz → czz = 0 → gM o 8 xzz = gM o' 53 xzz) ∧ (xzz < czz → gM o 8 xzz = gM o' 53 xzz)
set_option maxHeartbeats 200000 in
theorem few_in {isl : Ob} {rec27 : Int32 × Int32 × Int32 × Ob → Option (Int64 × Ob)} {rec74 : Int32 × Int32 × Int32 × Int32 × Ob → Option (Int64 × Ob)} {p0zz p1zz v4zz : Int32} {kzz : Nat} {yzz y' : Int64 × Ob} {Qzz : Prop} (hk : kzz ≤ 20) (hrec : ∀ (xzz : Int32) (o o' : Ob), xzz = v4zz + 1 → (∀ xzz, xzz < kzz → gM o 8 xzz = gM o' 53 xzz) → rec27 (p1zz, p0zz, xzz, o) = some yzz → rec74 (p0zz, p1zz, gI isl 11, xzz, o') = some y' → Qzz) : ∀ (Nzz N' : Nat) (v5 : Int32) (o o' : Ob) (czz : Nat), v5.toInt = (czz : Int) - 1 → czz ≤ kzz → FwR (gI isl 11) kzz czz o o' → lp_X7_chanceOfFewer_38 isl rec27 Nzz (p1zz, p0zz, v4zz, v5, o) = some yzz → lp_X9_few_85 rec74 N' (p0zz, p1zz, gI isl 11, v4zz, v5, o') = some y' → Qzz := by
  intro Nzz
  induction Nzz with
  | zero => intro N' v5 o o' czz _ _ _ hzz; cases hzz
  | succ Nzz ihzz =>
    intro N' v5 o o' czz ec hczz hF h1 h2
    cases N' with
    | zero => cases h2
    | succ N' =>
    have h1 : lb_X7_chanceOfFewer_38 isl rec27 (lp_X7_chanceOfFewer_38 isl rec27 Nzz) p1zz p0zz v4zz v5 o = some yzz := h1
    have h2 : lb_X9_few_85 rec74 (lp_X9_few_85 rec74 N') p0zz p1zz (gI isl 11) v4zz v5 o' = some y' := h2
    unfold lb_X7_chanceOfFewer_38 at h1
    unfold lb_X9_few_85 at h2
    by_cases cn : v5 < (0 : Int32)
    · have d := cv_lt (a := (czz : Int) - 1) (b := 0) ec (by decide) cn
      obtain ⟨x8, g8, h1⟩ := z_lt (z_t h1 cn)
      obtain ⟨x9, g9, h2⟩ := z_lt (z_t h2 cn)
      have exzz : x9 = x8 := g9.trans g8.symm
      rw [exzz] at h2
      refine hrec x8 o o' g8 (fun xzz hx => ?_) h1 h2
      obtain ⟨r1zz, -, r3, -⟩ := hF xzz hx
      rcases (show xzz = czz ∨ czz < xzz by omega) with qzz | qzz
      · exact r3 qzz (by omega)
      · exact r1zz qzz
    · have d := cv_nlt (a := (czz : Int) - 1) (b := 0) ec (by decide) cn
      have h1 := z_f h1 cn
      have i5zz : v5.toNatClampNeg = czz - 1 := tnc_eq (by omega)
      have step : ∀ s0zz : Int64, ((czz = 1 ∧ s0zz = 0) ∨ (1 < czz ∧ s0zz = (gM o 8 (czz - 2) * (gI isl 11).toInt64) / 10)) → bk_X7_chanceOfFewer_74 isl rec27 (lp_X7_chanceOfFewer_38 isl rec27 Nzz) p1zz p0zz v4zz v5 s0zz o = some yzz → Qzz := by
        intro s0zz hs h1
        unfold bk_X7_chanceOfFewer_74 at h1
        rw [i5zz] at h1 h2
        have h1 := (z_gd (z_gd h1).2).2
        obtain ⟨o11, g11, h1⟩ := z_lt h1
        obtain ⟨x12, g12, h1⟩ := z_lt h1
        have h2 := (z_gd (z_f h2 cn)).2
        obtain ⟨x11, e11zz, h2⟩ := z_lt h2
        have h2 := (z_gd h2).2
        obtain ⟨o13, g13, h2⟩ := z_lt h2
        obtain ⟨x14, e14zz, h2⟩ := z_lt h2
        have h2 := (z_gd (z_gd h2).2).2
        obtain ⟨o17, g17, h2⟩ := z_lt h2
        obtain ⟨x18, e18zz, h2⟩ := z_lt h2
        have i14 : x14.toNatClampNeg = czz := tnc_eq (by rw [e14zz, i32_add ec (by decide : (1 : Int32).toInt = 1) (by omega) (by omega)]; omega)
        rw [i14] at g17
        have exzz : x18 = x12 := e18zz.trans g12.symm
        rw [exzz] at h2
        have t12 : x12.toInt = ((czz - 1 : Nat) : Int) - 1 := by rw [g12, i32_add ec (by decide : (-1 : Int32).toInt = -1) (by omega) (by omega)]; omega
        have A8 : ∀ xzz, gM o11 8 xzz = if xzz = czz - 1 then ((gM o 8 (czz - 1) * ((10 : Int32) - gI isl 11).toInt64) / 10) + s0zz else gM o 8 xzz := fun xzz => by rw [g11, m8_at]
        have A13 : ∀ xzz, gM o13 53 xzz = if xzz = czz - 1 then (x11 * ((10 : Int32) - gI isl 11).toInt64) / 10 else gM o' 53 xzz := fun xzz => by rw [g13, m53_at]
        have A17 : ∀ xzz, gM o17 53 xzz = if xzz = czz then gM o13 53 czz + (x11 * (gI isl 11).toInt64) / 10 else gM o13 53 xzz := fun xzz => by rw [g17, m53_at]
        refine ihzz N' x12 o11 o17 (czz - 1) t12 (by omega) (fun xzz hx => ?_) h1 h2
        obtain ⟨r1zz, r2, r3, r4⟩ := hF xzz hx
        have w1zz := (hF (czz - 1) (by omega)).2.2.2 (by omega)
        refine ⟨fun qzz => ?_, fun qzz q0 => ?_, fun qzz q0 => ?_, fun qzz => ?_⟩
        · rw [A8, if_neg (by omega), A17]
          by_cases qc : xzz = czz
          · rw [if_pos qc, A13, if_neg (by omega), r2 qc (by omega), e11zz, qc]
          · rw [if_neg qc, A13, if_neg (by omega)]
            exact r1zz (by omega)
        · have w2zz := (hF (czz - 2) (by omega)).2.2.2 (by omega)
          rw [A8, if_pos qzz, A17, if_neg (by omega), A13, if_pos qzz, A17, if_neg (by omega), A13, if_neg (by omega), e11zz, w1zz]
          rcases hs with ⟨hs, -⟩ | ⟨-, hs⟩
          · omega
          · rw [hs, w2zz]; rfl
        · rw [A8, if_pos qzz, A17, if_neg (by omega), A13, if_pos qzz, e11zz, w1zz]
          rcases hs with ⟨-, hs⟩ | ⟨hs, -⟩
          · rw [hs, Int64.add_zero]
          · omega
        · rw [A8, if_neg (by omega), A17, if_neg (by omega), A13, if_neg (by omega)]
          exact r4 (by omega)
      by_cases c0zz : v5 ≤ (0 : Int32)
      · have d0zz := cv_le (a := (czz : Int) - 1) (b := 0) ec (by decide) c0zz
        exact step 0 (Or.inl ⟨by omega, rfl⟩) (z_t h1 c0zz)
      · have d0zz := cv_nle (a := (czz : Int) - 1) (b := 0) ec (by decide) c0zz
        have i6zz : (v5 - (1 : Int32)).toNatClampNeg = czz - 2 := tnc_eq (by rw [i32_sub ec (by decide : (1 : Int32).toInt = 1) (by omega) (by omega)]; omega)
        have h1 := (z_gd (z_f h1 c0zz)).2
        rw [i6zz] at h1
        exact step _ (Or.inr ⟨by omega, rfl⟩) h1
set_option maxHeartbeats 200000 in
theorem few_sum {isl : Ob} {p0zz : Int32} {kzz : Nat} {o o' : Ob} {yzz y' : Int64 × Ob} (ek : p0zz.toInt = (kzz : Int)) (hk : kzz ≤ 20) (hE : ∀ xzz, xzz < kzz → gM o 8 xzz = gM o' 53 xzz) : ∀ (Nzz N' : Nat) (v4zz : Int64) (v6 : Int32) (izz : Nat), v6.toInt = (izz : Int) → izz ≤ kzz → lp_X7_chanceOfFewer_127 isl Nzz (p0zz, v4zz, v6, o) = some yzz → lp_X9_few_157 N' (p0zz, v4zz, v6, o') = some y' → yzz.1 = y'.1 := by
  intro Nzz
  induction Nzz with
  | zero => intro N' v4zz v6 izz _ _ hzz; cases hzz
  | succ Nzz ihzz =>
    intro N' v4zz v6 izz ezz hizz h1 h2
    cases N' with
    | zero => cases h2
    | succ N' =>
    have h1 : lb_X7_chanceOfFewer_127 isl (lp_X7_chanceOfFewer_127 isl Nzz) p0zz v4zz v6 o = some yzz := h1
    have h2 : lb_X9_few_157 (lp_X9_few_157 N') p0zz v4zz v6 o' = some y' := h2
    unfold lb_X7_chanceOfFewer_127 at h1
    unfold lb_X9_few_157 at h2
    by_cases czz : p0zz ≤ v6
    · rw [← Option.some.inj (z_t h1 czz), ← Option.some.inj (z_t h2 czz)]
    · have d := cv_nle (a := (kzz : Int)) (b := (izz : Int)) ek ezz czz
      have ii : v6.toNatClampNeg = izz := tnc_eq ezz
      have h1 := (z_gd (z_f h1 czz)).2
      have h2 := (z_gd (z_f h2 czz)).2
      rw [ii] at h1 h2
      obtain ⟨x5zz, g5zz, h1⟩ := z_lt h1
      obtain ⟨x6, g6, h1⟩ := z_lt h1
      obtain ⟨w5, l5, h2⟩ := z_lt h2
      obtain ⟨w6zz, l6, h2⟩ := z_lt h2
      have e5zz : w5 = x5zz := by rw [l5, g5zz, hE izz (by omega)]
      have e6zz : w6zz = x6 := l6.trans g6.symm
      rw [e5zz, e6zz] at h2
      exact ihzz N' x5zz x6 (izz + 1) (by rw [g6]; exact Eq.trans (i32_add ezz (by decide : (1 : Int32).toInt = 1) (by omega) (by omega)) (by omega)) (by omega) h1 h2
set_option maxHeartbeats 200000 in
theorem few_out {isl : Ob} {p0zz p1zz : Int32} {kzz : Nat} {yzz y' : Int64 × Ob} (ek : p0zz.toInt = (kzz : Int)) (hk1 : 1 ≤ kzz) (hk : kzz ≤ 20) : ∀ (Nzz N' : Nat) (v4zz : Int32) (o o' : Ob), (∀ xzz, xzz < kzz → gM o 8 xzz = gM o' 53 xzz) → lp_X7_chanceOfFewer_27 isl Nzz (p1zz, p0zz, v4zz, o) = some yzz → lp_X9_few_74 N' (p0zz, p1zz, gI isl 11, v4zz, o') = some y' → yzz.1 = y'.1 := by
  intro Nzz
  induction Nzz with
  | zero => intro N' v4zz o o' _ hzz; cases hzz
  | succ Nzz ihzz =>
    intro N' v4zz o o' hE h1 h2
    cases N' with
    | zero => cases h2
    | succ N' =>
    have h1 : lb_X7_chanceOfFewer_27 isl (lp_X7_chanceOfFewer_27 isl Nzz) p1zz p0zz v4zz o = some yzz := h1
    have h2 : lb_X9_few_74 (lp_X9_few_74 N') p0zz p1zz (gI isl 11) v4zz o' = some y' := h2
    unfold lb_X7_chanceOfFewer_27 at h1
    unfold lb_X9_few_74 at h2
    by_cases czz : p1zz ≤ v4zz
    · exact few_sum ek hk hE zfu zfu 0 0 0 (by decide) (Nat.zero_le _) (z_t h1 czz) (z_t h2 czz)
    · obtain ⟨x7, g7, h1⟩ := z_lt (z_f h1 czz)
      obtain ⟨x8, g8, h2⟩ := z_lt (z_f h2 czz)
      have exzz : x8 = x7 := g8.trans g7.symm
      rw [exzz] at h2
      refine few_in hk (fun xzz qzz q' _ hE' h1 h2 => ihzz N' xzz qzz q' hE' h1 h2) zfu zfu x7 o o' kzz (by rw [g7]; exact i32_sub ek (by decide) (by omega) (by omega)) (Nat.le_refl _) (fun xzz hx => ⟨fun qzz => by omega, fun qzz => by omega, fun qzz => by omega, fun _ => hE xzz hx⟩) h1 h2
set_option maxHeartbeats 200000 in
theorem tf_few {pl : List CR} {o0zz o1 o4zz o5zz o8zz o6 o11 o9 st : Ob} {im0 im1 : Option IR} {p0zz p1zz : Int32} {yzz y' : Int64 × Ob} (ht : TF pl o0zz o1 o4zz o5zz o8zz o6 o11 o9 im0 im1) (h1 : f_X8_few o0zz o4zz st p0zz p1zz = some yzz) (h2 : f_X9_few o9 p0zz p1zz = some y') : yzz.1 = y'.1 := by
  have n0zz : (0 : Int32).toNatClampNeg = 0 := by decide
  unfold f_X8_few at h1
  unfold f_X9_few at h2
  obtain ⟨q1zz, g1, h2⟩ := z_lt h2
  obtain ⟨w2zz, l2, h2⟩ := z_bd h2
  have i2zz := in9 (m := 1) (n := 20) (by decide) (by decide) l2
  have no : ∀ zzz : Ob, some ((-1 : Int64), zzz) = some yzz → (¬ (1 ≤ p0zz.toInt ∧ p0zz.toInt ≤ 20) ∨ ¬ (0 ≤ p1zz.toInt ∧ p1zz.toInt ≤ 99)) → yzz.1 = y'.1 := by
    intro zzz h1 hn
    rw [← Option.some.inj h1]
    rcases i2zz with ⟨uzz, -⟩ | ⟨uzz, vzz⟩
    · rw [← Option.some.inj (z_t h2 uzz)]
    · obtain ⟨w3zz, l3, h2⟩ := z_bd (z_f h2 uzz)
      rcases in9 (m := 0) (n := 99) (by decide) (by decide) l3 with ⟨u3, -⟩ | ⟨-, v3⟩
      · rw [← Option.some.inj (z_t h2 u3)]
      · rcases hn with hn | hn
        · exact absurd vzz hn
        · exact absurd v3 hn
  by_cases c1zz : p0zz < (1 : Int32)
  · have d := cv_lt (a := p0zz.toInt) (b := 1) rfl (by decide) c1zz
    exact no _ (z_t h1 c1zz) (Or.inl (by omega))
  have h1 := z_f h1 c1zz
  have d1zz := cv_nlt (a := p0zz.toInt) (b := 1) rfl (by decide) c1zz
  by_cases c2zz : (20 : Int32) < p0zz
  · have d := cv_lt (a := 20) (b := p0zz.toInt) (by decide) rfl c2zz
    exact no _ (z_t h1 c2zz) (Or.inl (by omega))
  have h1 := z_f h1 c2zz
  have d2zz := cv_nlt (a := 20) (b := p0zz.toInt) (by decide) rfl c2zz
  by_cases c3zz : p1zz < (0 : Int32)
  · have d := cv_lt (a := p1zz.toInt) (b := 0) rfl (by decide) c3zz
    exact no _ (z_t h1 c3zz) (Or.inr (by omega))
  have h1 := z_f h1 c3zz
  have d3zz := cv_nlt (a := p1zz.toInt) (b := 0) rfl (by decide) c3zz
  by_cases c4zz : p1zz ≤ (99 : Int32)
  · have d4zz := cv_le (a := p1zz.toInt) (b := 99) rfl (by decide) c4zz
    obtain ⟨z1, k1zz, h1⟩ := z_bd (z_t h1 c4zz)
    have h1 := Option.some.inj h1
    rcases i2zz with ⟨-, uzz⟩ | ⟨uzz, -⟩
    · exact absurd ⟨d1zz, d2zz⟩ uzz
    · obtain ⟨w3zz, l3, h2⟩ := z_bd (z_f h2 uzz)
      rcases in9 (m := 0) (n := 99) (by decide) (by decide) l3 with ⟨-, u3⟩ | ⟨u3, -⟩
      · exact absurd ⟨d3zz, d4zz⟩ u3
      · have h2 := z_f h2 u3
        obtain ⟨o', h2, e3zz, E'zz⟩ := few_ini zfu 0 q1zz 0 (by decide) (by decide) h2
        unfold f_X7_chanceOfFewer at k1zz
        rw [n0zz] at k1zz
        obtain ⟨z5, k5zz, k1zz⟩ := z_bd k1zz
        obtain ⟨o2, g2, k1zz⟩ := z_lt k1zz
        obtain ⟨x3, g3zz, k1zz⟩ := z_lt k1zz
        rw [if_neg c2zz] at g3zz
        rw [g3zz] at k1zz
        unfold f_J7_fill_d0a16_AX7_8 at k5zz
        have Ezz := few_fill zfu 0 st 0 (by decide) (by decide) k5zz
        have eT : gA o' 3 5 = gI o4zz 11 := by rw [e3zz, g1]; exact ht.2.2.2.2.2.2.1.2.1.2.2.2.1.1.symm
        rw [eT] at h2
        obtain ⟨kzz, ek⟩ : ∃ kzz : Nat, p0zz.toInt = (kzz : Int) := ⟨p0zz.toInt.toNat, by omega⟩
        rw [← h1]
        refine few_out ek (by omega) (by omega) zfu zfu 0 o2 o' (fun xzz hx => ?_) k1zz h2
        rw [E'zz xzz (by omega), if_pos (Nat.zero_le _), g2, m8_at, Ezz xzz (by omega), if_pos (Nat.zero_le _)]
  · have d := cv_nle (a := p1zz.toInt) (b := 99) rfl (by decide) c4zz
    exact no _ (z_f h1 c4zz) (Or.inr (by omega))
