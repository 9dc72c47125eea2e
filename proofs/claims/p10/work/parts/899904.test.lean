-- canBe
set_option maxHeartbeats 200000 in
/-- what asking a law of a person takes -/
def AsB (pl : List CR) (isl mv o : Ob) (n : Nat) : Prop := (∀ zzz, f_X2_lawInForce isl = some zzz → LwP pl zzz (gA o 3) (gA o 3 3)) ∧ WtL isl mv (gA o 3) ∧ gI o 20 = 0 ∧ (gA o 3 0).toInt = (n : Int)
set_option maxHeartbeats 200000 in
theorem AsB.eq {pl : List CR} {isl mv o o' : Ob} {n : Nat} (hzz : AsB pl isl mv o n) (e3zz : gA o' 3 = gA o 3) (e20 : gI o' 20 = gI o 20) : AsB pl isl mv o' n := by
  unfold AsB
  rw [e3zz, e20]; exact hzz
set_option maxHeartbeats 200000 in
theorem AsB.ask {pl : List CR} {isl mv o : Ob} {n Pzz R : Nat} {zzz : Option Nat} {pzz rzz : Int32} (hzz : AsB pl isl mv o n) (kzz : f_X2_lawInForce isl = some zzz) (eP : pzz.toInt = (Pzz : Int)) (hP : Pzz < n) (eR : rzz.toInt = (R : Int)) (hR : R < 4) : Asked pl zzz isl mv o pzz rzz :=
  ⟨hzz.1 zzz kzz, hzz.2.1, hzz.2.2.1, ⟨Pzz, eP, by rw [hzz.2.1.1.1, hzz.2.2.2]; omega⟩, R, eR, hR⟩
set_option maxHeartbeats 200000 in
theorem AsB.ppl {pl : List CR} {isl mv o : Ob} {n : Nat} (hzz : AsB pl isl mv o n) : gI isl 7 = gA o 3 0 ∧ n ≤ 7 := by
  have qzz := hzz.2.1.1
  have rzz := hzz.2.2.2
  exact ⟨qzz.1, by omega⟩
set_option maxHeartbeats 200000 in
theorem TzS.asb {pl : List CR} {isl mv pa o : Ob} {n : Nat} (hzz : TzS pl isl mv pa o n) : AsB pl isl mv o n := ⟨hzz.2.2.2.1, WtL.of hzz.1 hzz.2.1, hzz.2.2.2.2.1, hzz.2.2.2.2.2.1⟩
/-- what was seen, in both -/
def SeT (isl : Ob) (Gzz : Nat → Int32) (s : Nat) : Prop := gI isl 8 = Gzz 1 ∧ (Gzz 1).toInt = (s : Int) ∧ s ≤ 6 ∧ ∀ jzz, jzz < 6 → (gA isl 4 jzz = Gzz (71 + 2 * jzz) ∧ gA isl 5 jzz = Gzz (72 + 2 * jzz)) ∧ 0 ≤ (gA isl 4 jzz).toInt ∧ (gA isl 4 jzz).toInt ≤ 3
set_option maxHeartbeats 200000 in
theorem cb_zero {rec4 : Int32 × Int32 × Ob → Option (Int32 × Ob)} {v1zz v2 v4zz : Int32} {o : Ob} {y' : Int32 × Ob} : ∀ N', lp_X9_thatCanBe_19 rec4 N' (v1zz, v2, 0, v4zz, o) = some y' → bk_X9_thatCanBe_92 rec4 v2 0 v1zz o = some y' := by
  intro N' hzz
  cases N' with
  | zero => cases hzz
  | succ N' =>
  have hzz : lb_X9_thatCanBe_19 rec4 (lp_X9_thatCanBe_19 rec4 N') v1zz v2 0 v4zz o = some y' := hzz
  unfold lb_X9_thatCanBe_19 at hzz
  have ezz : bk_X9_thatCanBe_80 rec4 v1zz v2 0 o = some y' := by
    rcases z_if hzz with ⟨-, hzz⟩ | ⟨-, hzz⟩
    · exact hzz
    · exact z_t hzz rfl
  unfold bk_X9_thatCanBe_80 at ezz
  exact z_t ezz rfl
set_option maxHeartbeats 200000 in
theorem cb_in {pl : List CR} {st czz isl mv : Ob} {rec4 : Int32 × Int32 × Ob → Option (Int32 × Ob)} {v1zz pzz : Int32} {n s Pzz : Nat} {y' : Int32 × Ob} {zzz : Int32 × Ob} (eP : pzz.toInt = (Pzz : Int)) (hP : Pzz < n) :
    ∀ (Nzz N' : Nat) (v2 : Int32) (mezz o : Ob) (izz : Nat), v2.toInt = (izz : Int) → izz ≤ s → AsB pl isl mv o n → SeT isl (gA o 3) s → lp_X7_fitsAllSeen_2 st czz isl mv pl Nzz (pzz, v2, mezz) = some zzz → lp_X9_thatCanBe_19 rec4 N' (v1zz, pzz, 1, v2, o) = some y' → ∃ o' : Ob, gA o' 3 = gA o 3 ∧ gI o' 20 = gI o 20 ∧ ((zzz.1 = 0 ∧ bk_X9_thatCanBe_92 rec4 pzz 0 v1zz o' = some y') ∨ (¬ zzz.1 = 0 ∧ bk_X9_thatCanBe_92 rec4 pzz ((1 : Int32) <<< (pzz &&& 31)) v1zz o' = some y')) := by
  have n1zz : (1 : Int32).toNatClampNeg = 1 := by decide
  intro Nzz
  induction Nzz with
  | zero => intro N' v2 mezz o izz _ _ _ _ hzz; cases hzz
  | succ Nzz ihzz =>
    intro N' v2 mezz o izz ezz hizz hA hSzz h1 h2
    cases N' with
    | zero => cases h2
    | succ N' =>
    have h1 : lb_X7_fitsAllSeen_2 st czz isl mv pl (lp_X7_fitsAllSeen_2 st czz isl mv pl Nzz) pzz v2 mezz = some zzz := h1
    have h2 : lb_X9_thatCanBe_19 rec4 (lp_X9_thatCanBe_19 rec4 N') v1zz pzz 1 v2 o = some y' := h2
    unfold lb_X7_fitsAllSeen_2 at h1
    unfold lb_X9_thatCanBe_19 at h2
    rw [n1zz] at h2
    rw [hSzz.1] at h1
    by_cases cs : gA o 3 1 ≤ v2
    · have h1 := Option.some.inj (z_t h1 cs)
      have h2 := z_t h2 cs
      unfold bk_X9_thatCanBe_80 at h2
      exact ⟨o, rfl, rfl, Or.inr ⟨by rw [← h1]; show ¬ (1 : Int32) = 0; decide, z_f h2 (by decide)⟩⟩
    · have d := cv_nle (a := (s : Int)) (b := (izz : Int)) hSzz.2.1 ezz cs
      have hs6 := hSzz.2.2.1
      obtain ⟨lz, kz, h1⟩ := z_bd (z_f h1 cs)
      have h1 := (z_gd h1).2
      have ii : v2.toNatClampNeg = izz := tnc_eq ezz
      rw [ii] at h1
      obtain ⟨z3, k3zz, h1⟩ := z_bd h1
      have h1 := (z_gd h1).2
      have h2 := (z_gd (z_f (z_f h2 cs) (by decide))).2
      have j7zz : ((71 : Int32) + ((2 : Int32) * v2)).toInt = 71 + 2 * (izz : Int) := i32_add (by decide) (i32_mul (by decide : (2 : Int32).toInt = 2) ezz (by omega) (by omega)) (by omega) (by omega)
      have j7n : ((71 : Int32) + ((2 : Int32) * v2)).toNatClampNeg = 71 + 2 * izz := tnc_eq (by rw [j7zz]; omega)
      have j8n : (((71 : Int32) + ((2 : Int32) * v2)) + (1 : Int32)).toNatClampNeg = 72 + 2 * izz := tnc_eq (by rw [i32_add j7zz (by decide : (1 : Int32).toInt = 1) (by omega) (by omega)]; omega)
      rw [j7n, j8n] at h2
      obtain ⟨w4zz, l4, h2⟩ := z_bd h2
      have h2 := (z_gd h2).2
      obtain ⟨⟨s1zz, s2zz⟩, s3zz, s4zz⟩ := hSzz.2.2.2 izz (by omega)
      rw [← s1zz] at l4
      obtain ⟨R, eR⟩ : ∃ R : Nat, (gA isl 4 izz).toInt = (R : Int) := ⟨(gA isl 4 izz).toInt.toNat, by omega⟩
      have te := turns_eq (hA.ask kz eP hP eR (by omega)) k3zz l4
      have f4zz := fr_f_X9_turnsOf l4
      have e3zz : gA w4zz.2 3 = gA o 3 := f4zz.A 3 rfl
      have e20 : gI w4zz.2 20 = gI o 20 := f4zz.I 20 rfl
      rw [te.1] at h1
      rw [e3zz, ← s2zz] at h2
      by_cases ce : w4zz.1 = gA isl 5 izz
      · obtain ⟨x5zz, g5zz, h1⟩ := z_lt (z_t h1 ce)
        have h2 := z_t h2 ce
        unfold bk_X9_thatCanBe_73 at h2
        obtain ⟨x6, g6, h2⟩ := z_lt h2
        have exzz : x6 = x5zz := g6.trans g5zz.symm
        rw [exzz] at h2
        obtain ⟨o', r1zz, r2, r3⟩ := ihzz N' x5zz z3.2 w4zz.2 (izz + 1) (by rw [g5zz]; exact Eq.trans (i32_add ezz (by decide : (1 : Int32).toInt = 1) (by omega) (by omega)) (by omega)) (by omega) (hA.eq e3zz e20) (by rw [e3zz]; exact hSzz) h1 h2
        exact ⟨o', r1zz.trans e3zz, r2.trans e20, r3⟩
      · have h1 := Option.some.inj (z_f h1 ce)
        have h2 := z_f h2 ce
        unfold bk_X9_thatCanBe_73 at h2
        obtain ⟨x6, g6, h2⟩ := z_lt h2
        exact ⟨w4zz.2, e3zz, e20, Or.inl ⟨by rw [← h1], cb_zero N' h2⟩⟩
set_option maxHeartbeats 200000 in
theorem cb_out {pl : List CR} {st czz isl mv : Ob} {n s : Nat} {zzz wzz : Int32 × Ob} : ∀ (Nzz N' : Nat) (v1zz v2 : Int32) (mezz o : Ob) (izz : Nat), v2.toInt = (izz : Int) → izz ≤ n → AsB pl isl mv o n → SeT isl (gA o 3) s → lp_X7_suspects_4 st czz isl mv pl Nzz (v1zz, v2, mezz) = some zzz → lp_X9_thatCanBe_4 N' (v1zz, v2, o) = some wzz → zzz.1 = wzz.1 ∧ gA wzz.2 3 = gA o 3 ∧ gI wzz.2 20 = gI o 20 := by
  have n0zz : (0 : Int32).toNatClampNeg = 0 := by decide
  intro Nzz
  induction Nzz with
  | zero => intro N' v1zz v2 mezz o izz _ _ _ _ hzz; cases hzz
  | succ Nzz ihzz =>
    intro N' v1zz v2 mezz o izz ezz hizz hA hSzz h1 h2
    cases N' with
    | zero => cases h2
    | succ N' =>
    have h1 : lb_X7_suspects_4 st czz isl mv pl (lp_X7_suspects_4 st czz isl mv pl Nzz) v1zz v2 mezz = some zzz := h1
    have h2 : lb_X9_thatCanBe_4 (lp_X9_thatCanBe_4 N') v1zz v2 o = some wzz := h2
    unfold lb_X7_suspects_4 at h1
    unfold lb_X9_thatCanBe_4 at h2
    rw [n0zz] at h2
    have pp := hA.ppl
    rw [pp.1] at h1
    by_cases c1zz : gA o 3 0 ≤ v2
    · rw [← Option.some.inj (z_t h1 c1zz), ← Option.some.inj (z_t h2 c1zz)]
      exact ⟨rfl, rfl, rfl⟩
    · have d := cv_nle (a := (n : Int)) (b := (izz : Int)) hA.2.2.2 ezz c1zz
      obtain ⟨z1, k1zz, h1⟩ := z_bd (z_f h1 c1zz)
      unfold f_X7_fitsAllSeen at k1zz
      obtain ⟨o', r1zz, r2, r3⟩ := cb_in ezz (by omega) zfu zfu 0 mezz o 0 (by decide) (Nat.zero_le _) hA hSzz k1zz (z_f h2 c1zz)
      rcases r3 with ⟨b1, b2⟩ | ⟨b1, b2⟩
      · have h1 := z_t h1 b1
        unfold bk_X7_suspects_29 at h1
        obtain ⟨x2zz, g2, h1⟩ := z_lt h1
        unfold bk_X9_thatCanBe_92 at b2
        obtain ⟨x1zz, l1, b2⟩ := z_lt b2
        obtain ⟨x3, l3, b2⟩ := z_lt b2
        have exzz : x3 = x2zz := l3.trans g2.symm
        have evzz : x1zz = v1zz := by rw [l1, Int32.or_zero]
        rw [exzz, evzz] at b2
        obtain ⟨q1zz, q2zz, q3zz⟩ := ihzz N' v1zz x2zz z1.2 o' (izz + 1) (by rw [g2]; exact Eq.trans (i32_add ezz (by decide : (1 : Int32).toInt = 1) (by omega) (by omega)) (by omega)) (by omega) (hA.eq r1zz r2) (by rw [r1zz]; exact hSzz) h1 b2
        exact ⟨q1zz, q2zz.trans r1zz, q3zz.trans r2⟩
      · obtain ⟨x4zz, g4, h1⟩ := z_lt (z_f h1 b1)
        unfold bk_X7_suspects_29 at h1
        obtain ⟨x2zz, g2, h1⟩ := z_lt h1
        unfold bk_X9_thatCanBe_92 at b2
        obtain ⟨x1zz, l1, b2⟩ := z_lt b2
        obtain ⟨x3, l3, b2⟩ := z_lt b2
        have exzz : x3 = x2zz := l3.trans g2.symm
        have evzz : x1zz = x4zz := l1.trans g4.symm
        rw [exzz, evzz] at b2
        obtain ⟨q1zz, q2zz, q3zz⟩ := ihzz N' x4zz x2zz z1.2 o' (izz + 1) (by rw [g2]; exact Eq.trans (i32_add ezz (by decide : (1 : Int32).toInt = 1) (by omega) (by omega)) (by omega)) (by omega) (hA.eq r1zz r2) (by rw [r1zz]; exact hSzz) h1 b2
        exact ⟨q1zz, q2zz.trans r1zz, q3zz.trans r2⟩
set_option maxHeartbeats 200000 in
theorem TF.set {pl : List CR} {o0zz o1 o4zz o5zz o8zz o6 o11 o9 : Ob} {im0 im1 : Option IR} (hzz : TF pl o0zz o1 o4zz o5zz o8zz o6 o11 o9 im0 im1) (h4 : IvX2 pl o4zz) : ∃ s : Nat, SeT o4zz (gA o9 3) s := by
  obtain ⟨t1zz, t2zz, t3zz, t4zz⟩ := hzz.2.2.2.2.2.2.1
  have r8 := h4.2.1
  have e8 := t1zz.2.1
  rw [e8] at r8
  refine ⟨(gA o9 3 1).toInt.toNat, e8, by omega, by omega, fun jzz hj => ⟨t2zz.2.2.2.2.1 jzz hj, ?_⟩⟩
  exact h4.2.2.2.2.1.1 jzz (by omega) (by omega)
set_option maxHeartbeats 200000 in
theorem can_eq {pl : List CR} {st czz isl mv mezz o : Ob} {n s : Nat} {zzz wzz : Int32 × Ob} (hA : AsB pl isl mv o n) (hSzz : SeT isl (gA o 3) s) (h1 : f_X7_suspects st czz isl mv mezz pl = some zzz) (h2 : f_X9_thatCanBe o = some wzz) : zzz.1 = wzz.1 ∧ gA wzz.2 3 = gA o 3 ∧ gI wzz.2 20 = gI o 20 := by
  unfold f_X7_suspects at h1
  unfold f_X9_thatCanBe at h2
  exact cb_out zfu zfu 0 0 mezz o 0 (by decide) (Nat.zero_le _) hA hSzz h1 h2
set_option maxHeartbeats 200000 in
theorem tf_canBe {pl : List CR} {o0zz o1 mezz o4zz o5zz czz st o8zz o6 o11 o9 : Ob} {im0 im1 : Option IR} {yzz y' : Int32 × Ob} (ht : TF pl o0zz o1 o4zz o5zz o8zz o6 o11 o9 im0 im1) (h4 : IvX2 pl o4zz) (h20 : gI o9 20 = 0) (h1 : f_X8_canBe o0zz mezz o4zz o5zz czz st pl = some yzz) (h2 : f_X9_canBe o9 = some y') : yzz.1 = y'.1 := by
  unfold f_X8_canBe at h1
  unfold f_X9_canBe at h2
  obtain ⟨q1zz, g1, h2⟩ := z_lt h2
  have ht1 : TF pl o0zz o1 o4zz o5zz o8zz o6 o11 q1zz im0 im1 := by rw [g1]; exact ht.sI0
  obtain ⟨s, hs⟩ := ht1.set h4
  obtain ⟨z1, k1zz, h1⟩ := z_bd h1
  obtain ⟨w1zz, l1, h2⟩ := z_bd h2
  rw [← Option.some.inj h1, ← Option.some.inj h2]
  exact (can_eq (ht1.s (by rw [g1]; exact h20)).asb hs k1zz l1).1
-- look
set_option maxHeartbeats 200000 in
theorem a6_at {o : Ob} {jzz xzz : Nat} {vzz : Int32} : gA (tA o 6 jzz vzz) 6 xzz = if xzz = jzz then vzz else gA o 6 xzz := rfl
set_option maxHeartbeats 200000 in
theorem a45_at {o : Ob} {jzz xzz : Nat} {vzz : Int32} : gA (tA o 45 jzz vzz) 45 xzz = if xzz = jzz then vzz else gA o 45 xzz := rfl
set_option maxHeartbeats 200000 in
theorem lk_fill {yzz : Ob} {vzz : Int32} : ∀ (Nzz : Nat) (v3 : Int32) (o : Ob) (izz : Nat), v3.toInt = (izz : Int) → izz ≤ 10 → lp_J7_fill_53178_AX7_6_5 Nzz (vzz, v3, 10, o) = some yzz → (∀ xzz, xzz < 10 → gA yzz 6 xzz = if izz ≤ xzz then vzz else gA o 6 xzz) ∧ gI yzz 9 = gI o 9 := by
  intro Nzz
  induction Nzz with
  | zero => intro v3 o izz _ _ hzz; cases hzz
  | succ Nzz ihzz =>
    intro v3 o izz ezz hizz hzz
    have hzz : lb_J7_fill_53178_AX7_6_5 (lp_J7_fill_53178_AX7_6_5 Nzz) vzz v3 10 o = some yzz := hzz
    unfold lb_J7_fill_53178_AX7_6_5 at hzz
    by_cases czz : (10 : Int32) ≤ v3
    · have d := cv_le (a := 10) (b := (izz : Int)) (by decide) ezz czz
      rw [← Option.some.inj (z_t hzz czz)]
      exact ⟨fun xzz hx => by rw [if_neg (by omega)], rfl⟩
    · have d := cv_nle (a := 10) (b := (izz : Int)) (by decide) ezz czz
      have hzz := (z_gd (z_f hzz czz)).2
      obtain ⟨qzz, gzz, hzz⟩ := z_lt hzz
      obtain ⟨wzz, gw, hzz⟩ := z_lt hzz
      have ii : v3.toNatClampNeg = izz := tnc_eq ezz
      rw [ii] at gzz
      obtain ⟨k1zz, k2zz⟩ := ihzz wzz qzz (izz + 1) (by rw [gw]; exact Eq.trans (i32_add ezz (by decide : (1 : Int32).toInt = 1) (by omega) (by omega)) (by omega)) (by omega) hzz
      refine ⟨fun xzz hx => ?_, k2zz.trans (by rw [gzz]; rfl)⟩
      rw [k1zz xzz hx, gzz, a6_at]
      by_cases cx : izz + 1 ≤ xzz
      · rw [if_pos cx, if_pos (by omega)]
      · rw [if_neg cx]
        by_cases c2zz : xzz = izz
        · rw [if_pos c2zz, if_pos (by omega)]
        · rw [if_neg c2zz, if_neg (by omega)]
def dLk : DD := ([34, 38], [39, 40], [45], [35, 37], [])
set_option maxHeartbeats 200000 in
theorem lk_ini {rec36 : Int32 × Int32 × Int32 × Int32 × Int32 × Ob → Option (Int32 × Ob)} {y' : Int32 × Ob} {v1zz v2 v3 v4zz v5 : Int32} : ∀ (Nzz : Nat) (v6 : Int32) (o : Ob) (izz : Nat), v6.toInt = (izz : Int) → izz ≤ 10 → lp_X9_look_45 rec36 Nzz (v1zz, v2, v3, v4zz, v5, v6, o) = some y' → ∃ o' : Ob, lp_X9_look_72 rec36 zfu (v1zz, v2, v3, v4zz, v5, 0, 0, o') = some y' ∧ FrX dLk o o' ∧ ∀ xzz, xzz < 10 → gA o' 45 xzz = if izz ≤ xzz then 0 else gA o 45 xzz := by
  intro Nzz
  induction Nzz with
  | zero => intro v6 o izz _ _ hzz; cases hzz
  | succ Nzz ihzz =>
    intro v6 o izz ezz hizz hzz
    have hzz : lb_X9_look_45 rec36 (lp_X9_look_45 rec36 Nzz) v1zz v2 v3 v4zz v5 v6 o = some y' := hzz
    unfold lb_X9_look_45 at hzz
    by_cases czz : (10 : Int32) ≤ v6
    · have d := cv_le (a := 10) (b := (izz : Int)) (by decide) ezz czz
      exact ⟨o, z_t hzz czz, FrX.rf, fun xzz hx => by rw [if_neg (by omega)]⟩
    · have d := cv_nle (a := 10) (b := (izz : Int)) (by decide) ezz czz
      have hzz := (z_gd (z_f hzz czz)).2
      obtain ⟨qzz, gzz, hzz⟩ := z_lt hzz
      obtain ⟨wzz, gw, hzz⟩ := z_lt hzz
      have ii : v6.toNatClampNeg = izz := tnc_eq ezz
      rw [ii] at gzz
      obtain ⟨o', k1zz, k2zz, k3zz⟩ := ihzz wzz qzz (izz + 1) (by rw [gw]; exact Eq.trans (i32_add ezz (by decide : (1 : Int32).toInt = 1) (by omega) (by omega)) (by omega)) (by omega) hzz
      refine ⟨o', k1zz, (by rw [gzz]; exact FrX.tA FrX.rf rfl : FrX dLk o qzz).tr k2zz, fun xzz hx => ?_⟩
      rw [k3zz xzz hx, gzz, a45_at]
      by_cases cx : izz + 1 ≤ xzz
      · rw [if_pos cx, if_pos (by omega)]
      · rw [if_neg cx]
        by_cases c2zz : xzz = izz
        · rw [if_pos c2zz, if_pos (by omega)]
        · rw [if_neg c2zz, if_neg (by omega)]
/-- how many would turn alike in one race, in both -/
theorem lk_most {pl : List CR} {czz isl mv : Ob} {rec36 : Int32 × Int32 × Int32 × Int32 × Int32 × Ob → Option (Int32 × Ob)} {y' : Int32 × Ob} {p0zz all l1 l2 rc : Int32} {n R : Nat} {zzz : Int32 × Ob × Ob} (eR : rc.toInt = (R : Int)) (hR : R < 4) :
    ∀ (Nzz N' : Nat) (v3 v4zz : Int32) (st mezz o : Ob) (izz mzz : Nat), v4zz.toInt = (izz : Int) → izz ≤ n → v3.toInt = (mzz : Int) → mzz ≤ izz → AsB pl isl mv o n → (∀ xzz, xzz < 10 → gA st 6 xzz = gA o 45 xzz ∧ 0 ≤ (gA st 6 xzz).toInt ∧ (gA st 6 xzz).toInt ≤ (mzz : Int)) → lp_X7_alikeMost_13 czz isl mv pl Nzz (all, rc, v3, v4zz, st, mezz) = some zzz → lp_X9_look_72 rec36 N' (p0zz, all, l1, l2, rc, v3, v4zz, o) = some y' → ∃ (o' : Ob) (m' : Nat), zzz.1.toInt = (m' : Int) ∧ m' ≤ n ∧ FrX dLk o o' ∧ gI zzz.2.1 9 = gI st 9 ∧ (if l1 ≤ zzz.1 then (bk_X9_look_158 rec36 p0zz all l1 rc zzz.1 l2 o') else (bk_X9_look_158 rec36 p0zz all l1 rc zzz.1 rc o')) = some y' := by
  have n0zz : (0 : Int32).toNatClampNeg = 0 := by decide
  intro Nzz
  induction Nzz with
  | zero => intro N' v3 v4zz st mezz o izz mzz _ _ _ _ _ _ hzz; cases hzz
  | succ Nzz ihzz =>
    intro N' v3 v4zz st mezz o izz mzz ezz hizz e3zz hmzz hA hE h1 h2
    cases N' with
    | zero => cases h2
    | succ N' =>
    have h1 : lb_X7_alikeMost_13 czz isl mv pl (lp_X7_alikeMost_13 czz isl mv pl Nzz) all rc v3 v4zz st mezz = some zzz := h1
    have h2 : lb_X9_look_72 rec36 (lp_X9_look_72 rec36 N') p0zz all l1 l2 rc v3 v4zz o = some y' := h2
    unfold lb_X7_alikeMost_13 at h1
    unfold lb_X9_look_72 at h2
    rw [n0zz] at h2
    have pp := hA.ppl
    rw [pp.1] at h1
    by_cases c1zz : gA o 3 0 ≤ v4zz
    · have h1 := Option.some.inj (z_t h1 c1zz)
      rw [← h1]
      exact ⟨o, mzz, e3zz, by omega, FrX.rf, rfl, z_t h2 c1zz⟩
    · have d := cv_nle (a := (n : Int)) (b := (izz : Int)) hA.2.2.2 ezz c1zz
      have h1 := z_f h1 c1zz
      obtain ⟨w5, l5, h2⟩ := z_bd (z_f h2 c1zz)
      unfold f_X9_is at l5
      have e1zz : (v4zz + (1 : Int32)).toInt = ((izz + 1 : Nat) : Int) := Eq.trans (i32_add ezz (by decide : (1 : Int32).toInt = 1) (by omega) (by omega)) (by omega)
      by_cases cb : ((all >>> (v4zz &&& 31)) &&& (1 : Int32)) = (1 : Int32)
      · have w50 : ¬ w5 = 0 := by rw [← Option.some.inj (z_t l5 cb)]; decide
        obtain ⟨lz, kz, h1⟩ := z_bd (z_t h1 cb)
        obtain ⟨z4, k4zz, h1⟩ := z_bd h1
        obtain ⟨w7zz, l7, h2⟩ := z_bd (z_f h2 w50)
        obtain ⟨te, tr1, tr2⟩ := turns_eq (hA.ask kz ezz (by omega) eR hR) k4zz l7
        have f7zz := fr_f_X9_turnsOf l7
        obtain ⟨T, eT⟩ : ∃ T : Nat, w7zz.1.toInt = (T : Int) := ⟨w7zz.1.toInt.toNat, by omega⟩
        have iT : w7zz.1.toNatClampNeg = T := tnc_eq eT
        rw [te, iT] at h1
        rw [iT] at h2
        have h1 := (z_gd (z_gd h1).2).2
        obtain ⟨s7, g7, h1⟩ := z_lt h1
        have h1 := (z_gd h1).2
        obtain ⟨x9, g9, h1⟩ := z_lt h1
        have h2 := (z_gd (z_gd h2).2).2
        obtain ⟨q10zz, g10, h2⟩ := z_lt h2
        have h2 := (z_gd h2).2
        unfold bk_X7_alikeMost_77 at h1
        obtain ⟨x2zz, g2, h1⟩ := z_lt h1
        have hTzz := hE T (by omega)
        have eAzz : ∀ xzz, gA s7 6 xzz = if xzz = T then gA st 6 T + 1 else gA st 6 xzz := fun xzz => by rw [g7, a6_at]
        have eB : ∀ xzz, gA q10zz 45 xzz = if xzz = T then gA w7zz.2 45 T + 1 else gA w7zz.2 45 xzz := fun xzz => by rw [g10, a45_at]
        have f45 : gA w7zz.2 45 = gA o 45 := f7zz.A 45 rfl
        have tA1 : (gA st 6 T + 1).toInt = (gA st 6 T).toInt + 1 := i32_add rfl (by decide) (by omega) (by omega)
        have eqT : gA q10zz 45 T = gA s7 6 T := by rw [eAzz, eB, if_pos rfl, if_pos rfl, f45, hTzz.1]
        have fq : FrX dLk o q10zz := (f7zz.mono rfl : FrX dLk o w7zz.2).tr (by rw [g10]; exact FrX.tA FrX.rf rfl)
        have hA' : AsB pl isl mv q10zz n := hA.eq (fq.A 3 rfl) (fq.I 20 rfl)
        have es9 : gI s7 9 = gI st 9 := by rw [g7]; rfl
        have ivzz : (gA s7 6 T).toInt = (gA st 6 T).toInt + 1 := by rw [eAzz, if_pos rfl, tA1]
        rw [eqT] at h2
        by_cases cm : gA s7 6 T ≤ v3
        · have dm := cv_le (a := (gA st 6 T).toInt + 1) (b := (mzz : Int)) ivzz e3zz cm
          have nl : ¬ v3 < gA s7 6 T := fun qzz => by have qzz := cv_lt (a := (mzz : Int)) (b := (gA st 6 T).toInt + 1) e3zz ivzz qzz; omega
          rw [if_neg nl] at g9
          have h2 := z_t h2 cm
          unfold bk_X9_look_137 bk_X9_look_139 at h2
          obtain ⟨x6, g6, h2⟩ := z_lt h2
          have exzz : x6 = x2zz := g6.trans g2.symm
          rw [exzz] at h2
          rw [g9] at h1
          obtain ⟨o', m', r1zz, r2, r3, r4, r5zz⟩ := ihzz N' v3 x2zz s7 z4.2 q10zz (izz + 1) mzz (by rw [g2]; exact e1zz) (by omega) e3zz (by omega) hA' (fun xzz hx => by
            have qzz := hE xzz hx
            rw [eAzz, eB]
            by_cases cx : xzz = T
            · rw [if_pos cx, if_pos cx, f45, hTzz.1]
              exact ⟨rfl, by rw [← hTzz.1, tA1]; omega, by rw [← hTzz.1, tA1]; omega⟩
            · rw [if_neg cx, if_neg cx, f45]; exact qzz) h1 h2
          exact ⟨o', m', r1zz, r2, fq.tr r3, r4.trans es9, r5zz⟩
        · have dm := cv_nle (a := (gA st 6 T).toInt + 1) (b := (mzz : Int)) ivzz e3zz cm
          have nl : v3 < gA s7 6 T := Int32.lt_iff_toInt_lt.mpr (by rw [ivzz, e3zz]; omega)
          rw [if_pos nl] at g9
          have h2 := (z_gd (z_f h2 cm)).2
          unfold bk_X9_look_137 bk_X9_look_139 at h2
          obtain ⟨x6, g6, h2⟩ := z_lt h2
          have exzz : x6 = x2zz := g6.trans g2.symm
          rw [exzz] at h2
          rw [g9] at h1
          obtain ⟨o', m', r1zz, r2, r3, r4, r5zz⟩ := ihzz N' (gA s7 6 T) x2zz s7 z4.2 q10zz (izz + 1) (mzz + 1) (by rw [g2]; exact e1zz) (by omega) (by rw [ivzz]; omega) (by omega) hA' (fun xzz hx => by
            have qzz := hE xzz hx
            rw [eAzz, eB]
            by_cases cx : xzz = T
            · rw [if_pos cx, if_pos cx, f45, hTzz.1]
              exact ⟨rfl, by rw [← hTzz.1, tA1]; omega, by rw [← hTzz.1, tA1]; omega⟩
            · rw [if_neg cx, if_neg cx, f45]; exact ⟨qzz.1, qzz.2.1, by omega⟩) h1 h2
          exact ⟨o', m', r1zz, r2, fq.tr r3, r4.trans es9, r5zz⟩
      · have w50 : w5 = 0 := (Option.some.inj (z_f l5 cb)).symm
        have h1 := z_f h1 cb
        have h2 := z_t h2 w50
        unfold bk_X7_alikeMost_77 at h1
        unfold bk_X9_look_139 at h2
        obtain ⟨x2zz, g2, h1⟩ := z_lt h1
        obtain ⟨x6, g6, h2⟩ := z_lt h2
        have exzz : x6 = x2zz := g6.trans g2.symm
        rw [exzz] at h2
        exact ihzz N' v3 x2zz st mezz o (izz + 1) mzz (by rw [g2]; exact e1zz) (by omega) e3zz (by omega) hA hE h1 h2
set_option maxHeartbeats 200000 in
theorem lk_lp {pl : List CR} {czz isl mv : Ob} {y' : Int32 × Ob} {p0zz all : Int32} {n : Nat} {zzz : Int32 × Ob × Ob} : ∀ (Nzz N' : Nat) (l1 l2 v3 : Int32) (st mezz o : Ob) (izz : Nat), v3.toInt = (izz : Int) → izz ≤ 4 → 0 ≤ l2.toInt → gI st 9 = l1 → AsB pl isl mv o n → lp_X7_raceToWatch_25 czz isl mv pl Nzz (all, l2, v3, st, mezz) = some zzz → lp_X9_look_36 N' (p0zz, all, l1, l2, v3, o) = some y' → 0 ≤ zzz.1.toInt ∧ y'.1 = if p0zz = 0 then zzz.1 else gI zzz.2.1 9 := by
  intro Nzz
  induction Nzz with
  | zero => intro N' l1 l2 v3 st mezz o izz _ _ _ _ _ hzz; cases hzz
  | succ Nzz ihzz =>
    intro N' l1 l2 v3 st mezz o izz ezz hizz h0 e9zz hA h1 h2
    cases N' with
    | zero => cases h2
    | succ N' =>
    have h1 : lb_X7_raceToWatch_25 czz isl mv pl (lp_X7_raceToWatch_25 czz isl mv pl Nzz) all l2 v3 st mezz = some zzz := h1
    have h2 : lb_X9_look_36 (lp_X9_look_36 N') p0zz all l1 l2 v3 o = some y' := h2
    unfold lb_X7_raceToWatch_25 at h1
    unfold lb_X9_look_36 at h2
    by_cases c1zz : (4 : Int32) ≤ v3
    · rw [← Option.some.inj (z_t h1 c1zz)]
      refine ⟨h0, ?_⟩
      have h2 := z_t h2 c1zz
      by_cases cp : p0zz = 0
      · rw [← Option.some.inj (z_t h2 cp), if_pos cp]
      · rw [← Option.some.inj (z_f h2 cp), if_neg cp]; exact e9zz.symm
    · have d := cv_nle (a := 4) (b := (izz : Int)) (by decide) ezz c1zz
      have e1zz : (v3 + (1 : Int32)).toInt = ((izz + 1 : Nat) : Int) := Eq.trans (i32_add ezz (by decide : (1 : Int32).toInt = 1) (by omega) (by omega)) (by omega)
      obtain ⟨z4, k4zz, h1⟩ := z_bd (z_f h1 c1zz)
      obtain ⟨o1, h2, f1zz, E1zz⟩ := lk_ini zfu 0 o 0 (by decide) (by decide) (z_f h2 c1zz)
      unfold f_X7_alikeMost at k4zz
      obtain ⟨st1zz, j1, k4zz⟩ := z_bd k4zz
      unfold f_J7_fill_53178_AX7_6 at j1
      obtain ⟨F1zz, F9⟩ := lk_fill zfu 0 st 0 (by decide) (by decide) j1
      obtain ⟨o', m', r1zz, r2, r3, r4, h2⟩ := lk_most ezz (by omega) zfu zfu 0 0 st1zz mezz o1 0 0 (by decide) (Nat.zero_le _) (by decide) (Nat.le_refl _) (hA.eq (f1zz.A 3 rfl) (f1zz.I 20 rfl)) (fun xzz hx => by
        rw [F1zz xzz hx, E1zz xzz hx, if_pos (Nat.zero_le _), if_pos (Nat.zero_le _)]
        exact ⟨rfl, by decide, by decide⟩) k4zz h2
      have fo : FrX dLk o o' := f1zz.tr r3
      have hA' : AsB pl isl mv o' n := hA.eq (fo.A 3 rfl) (fo.I 20 rfl)
      have e9' : gI z4.2.1 9 = l1 := r4.trans (F9.trans e9zz)
      rw [e9'] at h1
      by_cases cl : l1 ≤ z4.1
      · have h1 := z_t h1 cl
        have h2 := z_t h2 cl
        unfold bk_X7_raceToWatch_55 at h1
        unfold bk_X9_look_158 at h2
        have h2 := z_t h2 cl
        unfold bk_X9_look_172 at h2
        obtain ⟨x5zz, g5zz, h1⟩ := z_lt h1
        obtain ⟨x4zz, g4, h2⟩ := z_lt h2
        have exzz : x4zz = x5zz := g4.trans g5zz.symm
        rw [exzz] at h2
        exact ihzz N' l1 l2 x5zz z4.2.1 z4.2.2 o' (izz + 1) (by rw [g5zz]; exact e1zz) (by omega) h0 e9' hA' h1 h2
      · obtain ⟨st6zz, g6, h1⟩ := z_lt (z_f h1 cl)
        have h2 := z_f h2 cl
        unfold bk_X7_raceToWatch_55 at h1
        unfold bk_X9_look_158 at h2
        have h2 := z_f h2 cl
        unfold bk_X9_look_172 at h2
        obtain ⟨x5zz, g5zz, h1⟩ := z_lt h1
        obtain ⟨x4zz, g4, h2⟩ := z_lt h2
        have exzz : x4zz = x5zz := g4.trans g5zz.symm
        rw [exzz] at h2
        exact ihzz N' z4.1 v3 x5zz st6zz z4.2.2 o' (izz + 1) (by rw [g5zz]; exact e1zz) (by omega) (by rw [ezz]; omega) (by rw [g6]; rfl) hA' h1 h2
set_option maxHeartbeats 200000 in
theorem lk_top {pzz all l1 l2 v5 : Int32} {o : Ob} {y' : Int32 × Ob} (hv : ¬ (4 : Int32) ≤ v5) : ∀ N', lp_X9_look_36 N' (pzz, all, l1, l2, v5, o) = some y' → ∃ Nzz, lp_X9_look_45 (lp_X9_look_36 Nzz) zfu (pzz, all, l1, l2, v5, (0 : Int32), o) = some y' := by
  intro N' hzz
  cases N' with
  | zero => cases hzz
  | succ Nzz =>
    have hzz : lb_X9_look_36 (lp_X9_look_36 Nzz) pzz all l1 l2 v5 o = some y' := hzz
    unfold lb_X9_look_36 at hzz
    exact ⟨Nzz, z_f hzz hv⟩
set_option maxHeartbeats 200000 in
theorem tf_look {pl : List CR} {o0zz o1 mezz o4zz o5zz czz st o8zz o6 o11 o9 : Ob} {im0 im1 : Option IR} {pzz : Int32} {yzz : Int32 × Ob × Ob} {y' : Int32 × Ob} (ht : TF pl o0zz o1 o4zz o5zz o8zz o6 o11 o9 im0 im1) (h4 : IvX2 pl o4zz) (h20 : gI o9 20 = 0) (h1 : f_X8_look o0zz mezz o4zz o5zz czz st pl pzz = some yzz) (h2 : f_X9_look o9 pzz = some y') : yzz.1 = y'.1 := by
  unfold f_X8_look at h1
  unfold f_X9_look at h2
  obtain ⟨q1zz, g1, h2⟩ := z_lt h2
  have ht1 : TF pl o0zz o1 o4zz o5zz o8zz o6 o11 q1zz im0 im1 := by rw [g1]; exact ht.sI0
  obtain ⟨s, hs⟩ := ht1.set h4
  have hA := (ht1.s (by rw [g1]; exact h20)).asb
  obtain ⟨w2zz, l2, h2⟩ := z_bd h2
  obtain ⟨w3zz, l3, h2⟩ := z_bd h2
  have i9zz := in9 (m := 0) (n := 1) (by decide) (by decide) l3
  have no : some ((-1 : Int32), mezz, st) = some yzz → ¬ (0 ≤ pzz.toInt ∧ pzz.toInt ≤ 1) → yzz.1 = y'.1 := by
    intro h1 hn
    rcases i9zz with ⟨uzz, -⟩ | ⟨-, uzz⟩
    · rw [← Option.some.inj h1, ← Option.some.inj (z_t h2 uzz)]
    · exact absurd uzz hn
  by_cases c1zz : pzz < (0 : Int32)
  · have d := cv_lt (a := pzz.toInt) (b := 0) rfl (by decide) c1zz
    exact no (z_t h1 c1zz) (by omega)
  have h1 := z_f h1 c1zz
  have d1zz := cv_nlt (a := pzz.toInt) (b := 0) rfl (by decide) c1zz
  by_cases c2zz : pzz ≤ (1 : Int32)
  · have d2zz := cv_le (a := pzz.toInt) (b := 1) rfl (by decide) c2zz
    obtain ⟨z1, k1zz, h1⟩ := z_bd (z_t h1 c2zz)
    rcases i9zz with ⟨-, uzz⟩ | ⟨uzz, -⟩
    · exact absurd ⟨d1zz, d2zz⟩ uzz
    · have h2 := z_f h2 uzz
      unfold f_X7_raceToWatch at k1zz
      obtain ⟨z5, k5zz, k1zz⟩ := z_bd k1zz
      obtain ⟨a1zz, a2, a3⟩ := can_eq hA hs k5zz l2
      rw [← a1zz] at h2
      by_cases c0zz : z5.1 = 0
      · have k1zz := Option.some.inj (z_t k1zz c0zz)
        have h2 := Option.some.inj (z_t h2 c0zz)
        rw [← k1zz] at h1
        unfold bk_X8_look_28 at h1
        rw [← h2]
        by_cases cp : pzz = 0
        · rw [← Option.some.inj (z_t h1 cp)]
        · rw [← Option.some.inj (z_t (z_f h1 cp) rfl)]
      · obtain ⟨z2, k2zz, k1zz⟩ := z_bd (z_f k1zz c0zz)
        obtain ⟨s3zz, g3zz, k1zz⟩ := z_lt k1zz
        have h2 := z_f h2 c0zz
        obtain ⟨Nzz, h2⟩ := lk_top (v5 := 0) (by decide) zfu h2
        have hA2 : AsB pl o4zz o5zz w2zz.2 (gA q1zz 3 0).toInt.toNat := hA.eq a2 a3
        obtain ⟨o1', h2, f1zz, E1zz⟩ := lk_ini zfu 0 w2zz.2 0 (by decide) (by decide) h2
        unfold f_X7_alikeMost at k2zz
        obtain ⟨st1zz, j1, k2zz⟩ := z_bd k2zz
        unfold f_J7_fill_53178_AX7_6 at j1
        obtain ⟨F1zz, F9⟩ := lk_fill zfu 0 st 0 (by decide) (by decide) j1
        obtain ⟨o', m', r1zz, r2, r3, r4, h2⟩ := lk_most (R := 0) (by decide) (by decide) zfu zfu 0 0 st1zz z5.2 o1' 0 0 (by decide) (Nat.zero_le _) (by decide) (Nat.le_refl _) (hA2.eq (f1zz.A 3 rfl) (f1zz.I 20 rfl)) (fun xzz hx => by
          rw [F1zz xzz hx, E1zz xzz hx, if_pos (Nat.zero_le _), if_pos (Nat.zero_le _)]
          exact ⟨rfl, by decide, by decide⟩) k2zz h2
        have n7 := hA.ppl.2
        have cl : ¬ (100000000 : Int32) ≤ z2.1 := fun qzz => by have qzz := cv_le (a := 100000000) (b := (m' : Int)) (by decide) r1zz qzz; omega
        have h2 := z_f h2 cl
        unfold bk_X9_look_158 at h2
        have h2 := z_f h2 cl
        unfold bk_X9_look_172 at h2
        obtain ⟨x4zz, g4, h2⟩ := z_lt h2
        have exzz : x4zz = 1 := g4.trans (by decide)
        rw [exzz] at h2
        have fo : FrX dLk w2zz.2 o' := f1zz.tr r3
        obtain ⟨b1, b2⟩ := lk_lp zfu Nzz z2.1 0 1 s3zz z2.2.2 o' 1 (by decide) (by decide) (by decide) (by rw [g3zz]; rfl) (hA2.eq (fo.A 3 rfl) (fo.I 20 rfl)) k1zz h2
        unfold bk_X8_look_28 at h1
        rw [b2]
        by_cases cp : pzz = 0
        · rw [← Option.some.inj (z_t h1 cp), if_pos cp]
        · have nz : ¬ z1.1 = -1 := fun qzz => by rw [qzz, (by decide : (-1 : Int32).toInt = -1)] at b1; omega
          rw [← Option.some.inj (z_f (z_f h1 cp) nz), if_neg cp]
  · have d := cv_nle (a := pzz.toInt) (b := 1) rfl (by decide) c2zz
    exact no (z_f h1 c2zz) (by omega)
