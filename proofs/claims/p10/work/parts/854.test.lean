-- both go through codes that say the same
def CtE (nc ns : Nat) (oc : Ob) (v3 v6 v2 : Int32) (y1 : Int64 × Ob) (y2 : Ob) (t : Bool) (qzz b1 b2 : Nat) (mezz o : Ob) : Prop :=
  ∃ (N1 N2 : Nat) (v4zz v5 v7 w3zz w4zz : Int32) (me' o' : Ob), lp_X3_worth_O_30 nc ns oc N1 (v3, v4zz, v5, v6, v7, me') = some y1 ∧ lp_X9_reckonAll_10 N2 (v2, w3zz, w4zz, o') = some y2 ∧ v4zz.toInt = (qzz : Int) + 1 ∧ v5.toInt = (b1 : Int) ∧ (0 ≤ v7.toInt ∧ v7.toInt ≤ (b1 : Int)) ∧ w3zz.toInt = (qzz : Int) + 1 ∧ w4zz.toInt = (b2 : Int) ∧ gA me' 0 = gA mezz 0 ∧ SR o o' ∧ gI o' 38 = 0 ∧
    (∀ jzz, jzz < qzz → gM me' 1 jzz = gM mezz 1 jzz ∧ gM o' 37 jzz = gM o 37 jzz) ∧ gM me' 1 qzz = gM o' 37 qzz ∧ (-2147483648 ≤ (gM me' 1 qzz).toInt ∧ (gM me' 1 qzz).toInt ≤ 2147483647) ∧ (t = true → gM me' 1 qzz = 0 ∨ gM me' 1 qzz = 1)
def EvP (od : Bool) (nc ns : Nat) (oc : Ob) (s2zz w2zz : Nat → Int32) (v3 v6 v2 : Int32) (B1 B2 : Nat) (y1 : Int64 × Ob) (y2 : Ob) (t : Bool) (a1zz b1 a2 b2 n : Nat) : Prop :=
  (a1zz < b1 ∧ a2 < b2 ∧ 1 ≤ n) ∧ (b1 ≤ B1 → b2 ≤ B2 → ∀ (N1 N2 : Nat) (v4zz v5 v7 w3zz w4zz : Int32) (mezz o : Ob) (qzz : Nat), lp_X3_worth_O_30 nc ns oc N1 (v3, v4zz, v5, v6, v7, mezz) = some y1 → lp_X9_reckonAll_10 N2 (v2, w3zz, w4zz, o) = some y2 → v4zz.toInt = (qzz : Int) → v5.toInt = (a1zz : Int) → (0 ≤ v7.toInt ∧ v7.toInt ≤ (a1zz : Int)) → w3zz.toInt = (qzz : Int) → w4zz.toInt = (a2 : Int) → qzz + n ≤ 50 → EWo od mezz o → RD s2zz w2zz o → gI o 38 = 0 →
    (y1.1 = -9000000000000000000 ∧ gI y2 38 = 1) ∨ CtE nc ns oc v3 v6 v2 y1 y2 t qzz b1 b2 mezz o)
set_option maxHeartbeats 200000 in
theorem i64_of32 (xzz : Int32) : -2147483648 ≤ xzz.toInt64.toInt ∧ xzz.toInt64.toInt ≤ 2147483647 := by
  have rzz := i32_rg xzz
  rw [Int32.toInt_toInt64]; exact rzz
set_option maxHeartbeats 200000 in
theorem dec1 {xzz : Int32} {kzz : Nat} (hzz : xzz.toInt = (kzz : Int) + 1) (hk : kzz ≤ 400) : ∃ yzz : Int32, yzz = xzz + (-1 : Int32) ∧ yzz.toInt = (kzz : Int) :=
  ⟨_, rfl, Eq.trans (i32_add (a := (kzz : Int) + 1) (b := -1) hzz (by decide) (by omega) (by omega)) (by omega)⟩
set_option maxHeartbeats 200000 in
theorem inc1 {xzz : Int32} {kzz : Int} (hzz : xzz.toInt = kzz) (h0 : 0 ≤ kzz) (hk : kzz ≤ 400) : ∃ yzz : Int32, yzz = xzz + (1 : Int32) ∧ yzz.toInt = kzz + 1 :=
  ⟨_, rfl, i32_add (a := kzz) (b := 1) hzz (by decide) (by omega) (by omega)⟩
set_option maxHeartbeats 200000 in
theorem ev_bin {od : Bool} {nc ns : Nat} {oc : Ob} {s2zz w2zz : Nat → Int32} {v3 v6 v2 : Int32} {B1 B2 : Nat} {y1 : Int64 × Ob} {y2 : Ob} (e6zz : v6.toInt = (B1 : Int)) (e3zz : (B1 : Int) ≤ v3.toInt) (hB1 : B1 ≤ 400) (e2zz : v2.toInt = (B2 : Int)) (hB2 : B2 ≤ 400) {t : Bool} {a1zz m1zz b1 a2 m2zz b2 n n' : Nat}
    (p1zz : EvP od nc ns oc s2zz w2zz v3 v6 v2 B1 B2 y1 y2 false a1zz m1zz a2 m2zz n) (p2zz : EvP od nc ns oc s2zz w2zz v3 v6 v2 B1 B2 y1 y2 false m1zz b1 m2zz b2 n') (hop : opB (gA oc 5 b1) (s2zz b2) ∨ opC (gA oc 5 b1) (s2zz b2)) (ht : t = true → opC (gA oc 5 b1) (s2zz b2)) : EvP od nc ns oc s2zz w2zz v3 v6 v2 B1 B2 y1 y2 t a1zz (b1 + 1) a2 (b2 + 1) (n + n') := by
  have l1 := p1zz.1
  have l2 := p2zz.1
  refine ⟨⟨by omega, by omega, by omega⟩, fun hb1 hb2 N1 N2 v4zz v5 v7 w3zz w4zz mezz o qzz h1 h2 e4zz e5zz e7zz f3zz f4zz hq hE hR h38 => ?_⟩
  have hq4 : qzz + 1 ≤ 400 := by omega
  rcases p1zz.2 (by omega) (by omega) N1 N2 v4zz v5 v7 w3zz w4zz mezz o qzz h1 h2 e4zz e5zz e7zz f3zz f4zz (by omega) hE hR h38 with br | ⟨N1, N2, v4zz, v5, v7, w3zz, w4zz, me1, o1, h1, h2, e4zz, e5zz, e7zz, f3zz, f4zz, g0, gS, g38, gk, gv, -, -⟩
  · exact Or.inl br
  rcases p2zz.2 (by omega) (by omega) N1 N2 v4zz v5 v7 w3zz w4zz me1 o1 (qzz + 1) h1 h2 (by omega) e5zz e7zz (by omega) f4zz (by omega) (hE.sr g0 gS) (hR.sr gS) g38 with br | ⟨N1, N2, v4zz, v5, v7, w3zz, w4zz, me2, o2, h1, h2, e4zz, e5zz, e7zz, f3zz, f4zz, k0zz, kS, k38, kk, kv, -, -⟩
  · exact Or.inl br
  have hs : 4 < (gA oc 5 b1).toInt ∧ 20 ≤ (s2zz b2).toInt ∧ (s2zz b2).toInt < 28 := by
    rcases hop with (⟨x1zz, x2zz⟩ | ⟨x1zz, x2zz⟩ | ⟨x1zz, x2zz⟩ | ⟨x1zz, x2zz⟩ | ⟨x1zz, x2zz⟩) | (⟨x1zz, x2zz⟩ | ⟨x1zz, x2zz⟩ | ⟨x1zz, x2zz⟩) <;> rw [x1zz, x2zz] <;> decide
  cases N1 with
  | zero => cases h1
  | succ N1 =>
  cases N2 with
  | zero => cases h2
  | succ N2 =>
  obtain ⟨zzz, ez, hz⟩ := c_bin (qzz := qzz) e5zz (by omega) (by omega) (by omega) (by omega) hs.1 h1
  have h2 := r_step (hR.sr (gS.tr kS)) f4zz e2zz (by omega) hB2 k38 h2
  obtain ⟨wzz, ew, hw⟩ := r_bin (qzz := qzz) (by omega) (by omega) hs.2.1 hs.2.2 h2
  have ea : gM me2 1 qzz = gM o2 37 qzz := by rw [(kk qzz (by omega)).1, gv, (kk qzz (by omega)).2]
  rw [ea, kv] at ez
  have jzz := join_eq k38 hop ez ew
  rcases hw zzz jzz.1 with ⟨z1, z2⟩ | ⟨z1, zr, o', q1zz, q2zz, q3zz, q4zz⟩
  · rcases hz with ⟨-, hy⟩ | ⟨hn, -⟩
    · exact Or.inl ⟨hy, z2⟩
    · exact absurd z1 hn
  · rcases hz with ⟨hz, -⟩ | ⟨-, h1⟩
    · rw [← z1, hz] at zr; exact absurd zr brk_out
    · obtain ⟨x4zz, g4, t4zz⟩ := dec1 (kzz := qzz + 1) e4zz hq4
      obtain ⟨x3, g3zz, t3zz⟩ := dec1 (kzz := qzz + 1) f3zz hq4
      obtain ⟨x5zz, g5zz, t5zz⟩ := inc1 e5zz (by omega) (by omega)
      obtain ⟨x7, g7, t7⟩ := inc1 (xzz := v7) rfl e7zz.1 (by omega)
      obtain ⟨x8, g8, t8⟩ := inc1 f4zz (by omega) (by omega)
      rw [← g4, ← g5zz, ← g7] at h1
      rw [← g3zz, ← g8] at q1zz
      refine Or.inr ⟨N1, N2, _, _, _, _, _, tM me2 1 qzz zzz, o', h1, q1zz, by omega, by omega, ⟨by omega, by omega⟩, by omega, by omega, k0zz.trans g0, (gS.tr kS).tr q2zz, q3zz, fun jzz hj => ⟨?_, ?_⟩, ?_, ?_, fun czz => ?_⟩
      · rw [m1_at, if_neg (by omega), (kk jzz (by omega)).1, (gk jzz hj).1]
      · rw [q4zz jzz, if_neg (by omega), (kk jzz (by omega)).2, (gk jzz hj).2]
      · rw [m1_at, if_pos rfl, q4zz qzz, if_pos rfl]; exact z1
      · rw [m1_at, if_pos rfl, z1]; omega
      · rw [m1_at, if_pos rfl]; exact jzz.2 (ht czz)
set_option maxHeartbeats 200000 in
theorem ev_num {od : Bool} {nc ns : Nat} {oc : Ob} {s2zz w2zz : Nat → Int32} {v3 v6 v2 : Int32} {B1 B2 : Nat} {y1 : Int64 × Ob} {y2 : Ob} (e6zz : v6.toInt = (B1 : Int)) (e3zz : (B1 : Int) ≤ v3.toInt) (hB1 : B1 ≤ 400) (e2zz : v2.toInt = (B2 : Int)) (hB2 : B2 ≤ 400) {a1zz a2 : Nat} (hs1 : gA oc 5 a1zz = 0) (hs2 : s2zz a2 = 0) (hw : gA oc 6 a1zz = w2zz a2) : EvP od nc ns oc s2zz w2zz v3 v6 v2 B1 B2 y1 y2 false a1zz (a1zz + 1) a2 (a2 + 1) 1 := by
  refine ⟨⟨by omega, by omega, by omega⟩, fun hb1 hb2 N1 N2 v4zz v5 v7 w3zz w4zz mezz o qzz h1 h2 e4zz e5zz e7zz f3zz f4zz hq hE hR h38 => ?_⟩
  cases N1 with
  | zero => cases h1
  | succ N1 =>
  cases N2 with
  | zero => cases h2
  | succ N2 =>
  have h1 := c_num e5zz (by omega) (by omega) e4zz (by omega) hs1 h1
  have h2 := r_step hR f4zz e2zz (by omega) hB2 h38 h2
  rw [hs2] at h2
  have h2 := r_num f3zz h2
  have t4zz : (v4zz + (1 : Int32)).toInt = (qzz : Int) + 1 := i32_add e4zz (by decide) (by omega) (by omega)
  have t3zz : (w3zz + (1 : Int32)).toInt = (qzz : Int) + 1 := i32_add f3zz (by decide) (by omega) (by omega)
  have t5zz : (v5 + (1 : Int32)).toInt = (a1zz : Int) + 1 := i32_add e5zz (by decide) (by omega) (by omega)
  have t7 : (v7 + (1 : Int32)).toInt = v7.toInt + 1 := i32_add rfl (by decide) (by omega) (by omega)
  have t8 : (w4zz + (1 : Int32)).toInt = (a2 : Int) + 1 := i32_add f4zz (by decide) (by omega) (by omega)
  refine Or.inr ⟨N1, N2, _, _, _, _, _, _, _, h1, h2, t4zz, by omega, ⟨by omega, by omega⟩, t3zz, by omega, rfl, SR.tM, h38, fun jzz hj => ⟨?_, ?_⟩, ?_, ?_, fun czz => by cases czz⟩
  · rw [m1_at, if_neg (by omega)]
  · rw [m37_at, if_neg (by omega)]
  · rw [m1_at, if_pos rfl, m37_at, if_pos rfl, hw]
  · rw [m1_at, if_pos rfl]; exact i64_of32 _
set_option maxHeartbeats 200000 in
theorem ev_word {od : Bool} {nc ns : Nat} {oc : Ob} {s2zz w2zz : Nat → Int32} {v3 v6 v2 : Int32} {B1 B2 : Nat} {y1 : Int64 × Ob} {y2 : Ob} (e6zz : v6.toInt = (B1 : Int)) (e3zz : (B1 : Int) ≤ v3.toInt) (hB1 : B1 ≤ 400) (e2zz : v2.toInt = (B2 : Int)) (hB2 : B2 ≤ 400) {a1zz a2 : Nat} (hs1 : gA oc 5 a1zz = 1) (hw : WD od (gA oc 6 a1zz) (s2zz a2) (w2zz a2)) : EvP od nc ns oc s2zz w2zz v3 v6 v2 B1 B2 y1 y2 false a1zz (a1zz + 1) a2 (a2 + 1) 1 := by
  refine ⟨⟨by omega, by omega, by omega⟩, fun hb1 hb2 N1 N2 v4zz v5 v7 w3zz w4zz mezz o qzz h1 h2 e4zz e5zz e7zz f3zz f4zz hq hE hR h38 => ?_⟩
  cases N1 with
  | zero => cases h1
  | succ N1 =>
  cases N2 with
  | zero => cases h2
  | succ N2 =>
  have hwr : 0 ≤ (gA oc 6 a1zz).toInt ∧ (gA oc 6 a1zz).toInt ≤ 18 := by
    rcases hw with ⟨kzz, hk, ew, -⟩ | ⟨-, pzz, hp, -, ⟨ew, -⟩ | ⟨ew, -⟩⟩
    · rcases hk with hk | ⟨-, hk⟩ <;> omega
    · omega
    · omega
  have h1 := c_word e5zz (by omega) (by omega) e4zz (by omega) hs1 hwr h1
  have h2 := r_word hE hw f3zz (r_step hR f4zz e2zz (by omega) hB2 h38 h2)
  have t4zz : (v4zz + (1 : Int32)).toInt = (qzz : Int) + 1 := i32_add e4zz (by decide) (by omega) (by omega)
  have t3zz : (w3zz + (1 : Int32)).toInt = (qzz : Int) + 1 := i32_add f3zz (by decide) (by omega) (by omega)
  have t5zz : (v5 + (1 : Int32)).toInt = (a1zz : Int) + 1 := i32_add e5zz (by decide) (by omega) (by omega)
  have t7 : (v7 + (1 : Int32)).toInt = v7.toInt + 1 := i32_add rfl (by decide) (by omega) (by omega)
  have t8 : (w4zz + (1 : Int32)).toInt = (a2 : Int) + 1 := i32_add f4zz (by decide) (by omega) (by omega)
  refine Or.inr ⟨N1, N2, _, _, _, _, _, _, _, h1, h2, t4zz, by omega, ⟨by omega, by omega⟩, t3zz, by omega, rfl, SR.tM, h38, fun jzz hj => ⟨?_, ?_⟩, ?_, ?_, fun czz => by cases czz⟩
  · rw [m1_at, if_neg (by omega)]
  · rw [m37_at, if_neg (by omega)]
  · rw [m1_at, if_pos rfl, m37_at, if_pos rfl]
  · rw [m1_at, if_pos rfl]; exact i64_of32 _
set_option maxHeartbeats 200000 in
theorem ev_ao {od : Bool} {nc ns : Nat} {oc : Ob} {s2zz w2zz : Nat → Int32} {v3 v6 v2 : Int32} {B1 B2 : Nat} {y1 : Int64 × Ob} {y2 : Ob} (e6zz : v6.toInt = (B1 : Int)) (e3zz : (B1 : Int) ≤ v3.toInt) (hB1 : B1 ≤ 400) (e2zz : v2.toInt = (B2 : Int)) (hB2 : B2 ≤ 400) {a1zz m1zz b1 a2 m2zz b2 n n' : Nat} (p1zz : EvP od nc ns oc s2zz w2zz v3 v6 v2 B1 B2 y1 y2 true a1zz m1zz a2 m2zz n) (p2zz : EvP od nc ns oc s2zz w2zz v3 v6 v2 B1 B2 y1 y2 true (m1zz + 1) b1 (m2zz + 1) b2 n') (hop : opA (gA oc 5 m1zz) (s2zz m2zz)) (hj1 : (gA oc 6 m1zz).toInt = (b1 : Int)) (hj2 : (w2zz m2zz).toInt = (b2 : Int)) : EvP od nc ns oc s2zz w2zz v3 v6 v2 B1 B2 y1 y2 true a1zz b1 a2 b2 (n + n') := by
  have l1 := p1zz.1
  have l2 := p2zz.1
  refine ⟨⟨by omega, by omega, by omega⟩, fun hb1 hb2 N1 N2 v4zz v5 v7 w3zz w4zz mezz o qzz h1 h2 e4zz e5zz e7zz f3zz f4zz hq hE hR h38 => ?_⟩
  have hq4 : qzz ≤ 400 := by omega
  rcases p1zz.2 (by omega) (by omega) N1 N2 v4zz v5 v7 w3zz w4zz mezz o qzz h1 h2 e4zz e5zz e7zz f3zz f4zz (by omega) hE hR h38 with br | ⟨N1, N2, v4zz, v5, v7, w3zz, w4zz, me1, o1, h1, h2, e4zz, e5zz, e7zz, f3zz, f4zz, g0, gS, g38, gk, gv, gr, gt⟩
  · exact Or.inl br
  have hv := gt rfl
  have hvo : gM o1 37 qzz = 0 ∨ gM o1 37 qzz = 1 := by rw [← gv]; exact hv
  cases N1 with
  | zero => cases h1
  | succ N1 =>
  cases N2 with
  | zero => cases h2
  | succ N2 =>
  have hs : (2 ≤ (gA oc 5 m1zz).toInt ∧ (gA oc 5 m1zz).toInt ≤ 4) ∧ (gA oc 5 m1zz = 3 ∨ gA oc 5 m1zz = 4) ∧ (s2zz m2zz = 29 ∨ s2zz m2zz = 30) := by
    rcases hop with ⟨x1zz, x2zz⟩ | ⟨x1zz, x2zz⟩ <;> rw [x1zz, x2zz] <;> decide
  have h2 := r_ao (qzz := qzz) f3zz (by omega) hs.2.2 hvo (r_step (hR.sr gS) f4zz e2zz (by omega) hB2 g38 h2)
  obtain ⟨x5zz, g5zz, t5zz⟩ := inc1 e5zz (by omega) (by omega)
  obtain ⟨x7, g7, t7⟩ := inc1 (xzz := v7) rfl e7zz.1 (by omega)
  obtain ⟨x8, g8, t8⟩ := inc1 f4zz (by omega) (by omega)
  obtain ⟨x4zz, g4, t4zz⟩ := dec1 (kzz := qzz) e4zz hq4
  obtain ⟨x3, g3zz, t3zz⟩ := dec1 (kzz := qzz) f3zz hq4
  have stayzz : ∀ xzz : Int32, xzz.toInt = (b1 : Int) → lp_X3_worth_O_30 nc ns oc N1 (v3, v4zz, xzz, v6, x7, me1) = some y1 → lp_X9_reckonAll_10 N2 (v2, w3zz, w2zz m2zz, o1) = some y2 → CtE nc ns oc v3 v6 v2 y1 y2 true qzz b1 b2 mezz o := fun xzz exzz k1zz k2zz => ⟨N1, N2, v4zz, xzz, x7, w3zz, w2zz m2zz, me1, o1, k1zz, k2zz, e4zz, exzz, ⟨by omega, by omega⟩, f3zz, hj2, g0, gS, g38, gk, gv, gr, fun _ => hv⟩
  have gozz : lp_X3_worth_O_30 nc ns oc N1 (v3, x4zz, x5zz, v6, x7, me1) = some y1 → lp_X9_reckonAll_10 N2 (v2, x3, x8, o1) = some y2 → (y1.1 = -9000000000000000000 ∧ gI y2 38 = 1) ∨ CtE nc ns oc v3 v6 v2 y1 y2 true qzz b1 b2 mezz o := fun k1zz k2zz => by
    rcases p2zz.2 (by omega) (by omega) N1 N2 _ _ _ _ _ me1 o1 qzz k1zz k2zz (by omega) (by omega) ⟨by omega, by omega⟩ (by omega) (by omega) (by omega) (hE.sr g0 gS) (hR.sr gS) g38 with br | ⟨M1zz, M2zz, u4zz, u5, u7, m3zz, m4zz, me2, o2, k1zz, k2zz, d4zz, d5zz, d7zz, c3zz, c4zz, k0zz, kS, k38, kk, kv, kr, kt⟩
    · exact Or.inl br
    · exact Or.inr ⟨M1zz, M2zz, u4zz, u5, u7, m3zz, m4zz, me2, o2, k1zz, k2zz, d4zz, d5zz, d7zz, c3zz, c4zz, k0zz.trans g0, gS.tr kS, k38, fun jzz hj => ⟨(kk jzz hj).1.trans (gk jzz hj).1, (kk jzz hj).2.trans (gk jzz hj).2⟩, kv, kr, kt⟩
  have n01 : ¬ (0 : Int64) = 1 := by decide
  rcases c_one (qzz := qzz) e5zz (by omega) (by omega) e4zz (by omega) hs.1 hv h1 with ⟨cv, h1⟩ | ⟨cv, h1⟩
  · rcases c_ao hs.2.1 (Or.inr rfl) hj1 (by rw [← g5zz]; omega) h1 with ⟨czz, xzz, exzz, h1⟩ | ⟨czz, h1⟩
    · rcases czz with ⟨-, czz⟩ | ⟨czz, -⟩
      · exact absurd czz (by decide)
      · rcases h2 with ⟨-, h2⟩ | ⟨d, -⟩
        · exact Or.inr (stayzz xzz exzz (by rw [g7]; exact h1) h2)
        · rcases hop with ⟨x1zz, -⟩ | ⟨-, x2zz⟩
          · rw [x1zz] at czz; exact absurd czz (by decide)
          · rcases d with ⟨d, -⟩ | ⟨-, d⟩
            · rw [x2zz] at d; exact absurd d (by decide)
            · rw [← gv, cv] at d; exact absurd d.symm n01
    · rcases czz with ⟨czz, -⟩ | ⟨-, czz⟩
      · rcases h2 with ⟨d, -⟩ | ⟨-, h2⟩
        · rcases hop with ⟨-, x2zz⟩ | ⟨x1zz, -⟩
          · rcases d with ⟨-, d⟩ | ⟨d, -⟩
            · rw [← gv, cv] at d; exact absurd d.symm n01
            · rw [x2zz] at d; exact absurd d (by decide)
          · rw [x1zz] at czz; exact absurd czz (by decide)
        · exact gozz (by rw [g4, g5zz, g7]; exact h1) (by rw [g3zz, g8]; exact h2)
      · exact absurd czz (by decide)
  · rcases c_ao hs.2.1 (Or.inl rfl) hj1 (by rw [← g5zz]; omega) h1 with ⟨czz, xzz, exzz, h1⟩ | ⟨czz, h1⟩
    · rcases czz with ⟨czz, -⟩ | ⟨-, czz⟩
      · rcases h2 with ⟨-, h2⟩ | ⟨d, -⟩
        · exact Or.inr (stayzz xzz exzz (by rw [g7]; exact h1) h2)
        · rcases hop with ⟨-, x2zz⟩ | ⟨x1zz, -⟩
          · rcases d with ⟨-, d⟩ | ⟨d, -⟩
            · rw [← gv, cv] at d; exact absurd d n01
            · rw [x2zz] at d; exact absurd d (by decide)
          · rw [x1zz] at czz; exact absurd czz (by decide)
      · exact absurd czz (by decide)
    · rcases czz with ⟨-, czz⟩ | ⟨czz, -⟩
      · exact absurd czz (by decide)
      · rcases h2 with ⟨d, -⟩ | ⟨-, h2⟩
        · rcases hop with ⟨x1zz, -⟩ | ⟨-, x2zz⟩
          · rw [x1zz] at czz; exact absurd czz (by decide)
          · rcases d with ⟨d, -⟩ | ⟨-, d⟩
            · rw [x2zz] at d; exact absurd d (by decide)
            · rw [← gv, cv] at d; exact absurd d n01
        · exact gozz (by rw [g4, g5zz, g7]; exact h1) (by rw [g3zz, g8]; exact h2)
set_option maxHeartbeats 200000 in
theorem ev_no1 {od : Bool} {nc ns : Nat} {oc : Ob} {s2zz w2zz : Nat → Int32} {v3 v6 v2 : Int32} {B1 B2 : Nat} {y1 : Int64 × Ob} {y2 : Ob} (e6zz : v6.toInt = (B1 : Int)) (e3zz : (B1 : Int) ≤ v3.toInt) (hB1 : B1 ≤ 400) (e2zz : v2.toInt = (B2 : Int)) (hB2 : B2 ≤ 400) {a1zz b1 a2 b2 n : Nat} (p1zz : EvP od nc ns oc s2zz w2zz v3 v6 v2 B1 B2 y1 y2 true a1zz b1 a2 b2 n) (hs1 : gA oc 5 b1 = 2) (hs2 : s2zz b2 = 28) : EvP od nc ns oc s2zz w2zz v3 v6 v2 B1 B2 y1 y2 true a1zz (b1 + 1) a2 (b2 + 1) n := by
  have l1 := p1zz.1
  refine ⟨⟨by omega, by omega, by omega⟩, fun hb1 hb2 N1 N2 v4zz v5 v7 w3zz w4zz mezz o qzz h1 h2 e4zz e5zz e7zz f3zz f4zz hq hE hR h38 => ?_⟩
  rcases p1zz.2 (by omega) (by omega) N1 N2 v4zz v5 v7 w3zz w4zz mezz o qzz h1 h2 e4zz e5zz e7zz f3zz f4zz (by omega) hE hR h38 with br | ⟨N1, N2, v4zz, v5, v7, w3zz, w4zz, me1, o1, h1, h2, e4zz, e5zz, e7zz, f3zz, f4zz, g0, gS, g38, gk, gv, gr, gt⟩
  · exact Or.inl br
  have hv := gt rfl
  cases N1 with
  | zero => cases h1
  | succ N1 =>
  cases N2 with
  | zero => cases h2
  | succ N2 =>
  have h2 := r_step (hR.sr gS) f4zz e2zz (by omega) hB2 g38 h2
  rw [hs2] at h2
  have h2 := r_not (qzz := qzz) f3zz (by omega) h2
  have h1 : ∃ s0zz : Int32, lp_X3_worth_O_30 nc ns oc N1 (v3, v4zz, v5 + 1, v6, v7 + 1, tM me1 1 qzz (if s0zz = 0 then 1 else 0)) = some y1 ∧ (1 : Int64) - gM o1 37 qzz = (if s0zz = 0 then 1 else 0) := by
    have hs : 2 ≤ (gA oc 5 b1).toInt ∧ (gA oc 5 b1).toInt ≤ 4 := by rw [hs1]; decide
    rcases c_one (qzz := qzz) e5zz (by omega) (by omega) e4zz (by omega) hs hv h1 with ⟨cv, h1⟩ | ⟨cv, h1⟩
    · rw [hs1] at h1
      exact ⟨1, c_not e4zz (by omega) h1, by rw [← gv, cv]; decide⟩
    · rw [hs1] at h1
      exact ⟨0, c_not e4zz (by omega) h1, by rw [← gv, cv]; decide⟩
  obtain ⟨s0zz, h1, evzz⟩ := h1
  have t5zz : (v5 + (1 : Int32)).toInt = (b1 : Int) + 1 := i32_add e5zz (by decide) (by omega) (by omega)
  have t7 : (v7 + (1 : Int32)).toInt = v7.toInt + 1 := i32_add rfl (by decide) (by omega) (by omega)
  have t8 : (w4zz + (1 : Int32)).toInt = (b2 : Int) + 1 := i32_add f4zz (by decide) (by omega) (by omega)
  refine Or.inr ⟨N1, N2, _, _, _, _, _, _, _, h1, h2, e4zz, by omega, ⟨by omega, by omega⟩, f3zz, by omega, g0, gS.tr SR.tM, g38, fun jzz hj => ⟨?_, ?_⟩, ?_, ?_, fun _ => ?_⟩
  · rw [m1_at, if_neg (by omega)]; exact (gk jzz hj).1
  · rw [m37_at, if_neg (by omega)]; exact (gk jzz hj).2
  · rw [m1_at, if_pos rfl, m37_at, if_pos rfl, evzz]
  · rw [m1_at, if_pos rfl]
    by_cases czz : s0zz = 0
    · rw [if_pos czz]; decide
    · rw [if_neg czz]; decide
  · rw [m1_at, if_pos rfl]
    by_cases czz : s0zz = 0
    · rw [if_pos czz]; exact Or.inr rfl
    · rw [if_neg czz]; exact Or.inl rfl
set_option maxHeartbeats 200000 in
theorem ev_no2 {od : Bool} {nc ns : Nat} {oc : Ob} {s2zz w2zz : Nat → Int32} {v3 v6 v2 : Int32} {B1 B2 : Nat} {y1 : Int64 × Ob} {y2 : Ob} (e6zz : v6.toInt = (B1 : Int)) (e3zz : (B1 : Int) ≤ v3.toInt) (hB1 : B1 ≤ 400) (e2zz : v2.toInt = (B2 : Int)) (hB2 : B2 ≤ 400) {a1zz b1 a2 b2 n : Nat} (p1zz : EvP od nc ns oc s2zz w2zz v3 v6 v2 B1 B2 y1 y2 true a1zz b1 a2 b2 n) (hs1 : s2zz b2 = 28) (hs2 : s2zz (b2 + 1) = 28) : EvP od nc ns oc s2zz w2zz v3 v6 v2 B1 B2 y1 y2 true a1zz b1 a2 (b2 + 2) n := by
  have l1 := p1zz.1
  refine ⟨⟨by omega, by omega, by omega⟩, fun hb1 hb2 N1 N2 v4zz v5 v7 w3zz w4zz mezz o qzz h1 h2 e4zz e5zz e7zz f3zz f4zz hq hE hR h38 => ?_⟩
  rcases p1zz.2 (by omega) (by omega) N1 N2 v4zz v5 v7 w3zz w4zz mezz o qzz h1 h2 e4zz e5zz e7zz f3zz f4zz (by omega) hE hR h38 with br | ⟨N1, N2, v4zz, v5, v7, w3zz, w4zz, me1, o1, h1, h2, e4zz, e5zz, e7zz, f3zz, f4zz, g0, gS, g38, gk, gv, gr, gt⟩
  · exact Or.inl br
  have hv := gt rfl
  cases N2 with
  | zero => cases h2
  | succ N2 =>
  have h2 := r_step (hR.sr gS) f4zz e2zz (by omega) hB2 g38 h2
  rw [hs1] at h2
  have h2 := r_not (qzz := qzz) f3zz (by omega) h2
  cases N2 with
  | zero => cases h2
  | succ N2 =>
  have t8 : (w4zz + (1 : Int32)).toInt = ((b2 + 1 : Nat) : Int) := by
    have := i32_add (x := w4zz) (y := 1) (b := 1) f4zz (by decide) (by omega) (by omega)
    omega
  have h2 := r_step (o := tM o1 37 qzz ((1 : Int64) - gM o1 37 qzz)) (hR.sr (gS.tr SR.tM)) t8 e2zz (by omega) hB2 g38 h2
  rw [hs2] at h2
  have h2 := r_not (qzz := qzz) f3zz (by omega) h2
  rw [m37_at, if_pos rfl] at h2
  have evzz : (1 : Int64) - ((1 : Int64) - gM o1 37 qzz) = gM o1 37 qzz := by
    rw [← gv]
    rcases hv with czz | czz <;> rw [czz] <;> decide
  rw [evzz] at h2
  have t9 : ((w4zz + (1 : Int32)) + (1 : Int32)).toInt = ((b2 + 1 : Nat) : Int) + 1 := i32_add t8 (by decide) (by omega) (by omega)
  refine Or.inr ⟨N1, N2, _, _, _, _, _, _, _, h1, h2, e4zz, e5zz, e7zz, f3zz, by omega, g0, (gS.tr SR.tM).tr SR.tM, g38, fun jzz hj => ⟨(gk jzz hj).1, ?_⟩, ?_, gr, fun _ => hv⟩
  · rw [m37_at, if_neg (by omega), m37_at, if_neg (by omega)]; exact (gk jzz hj).2
  · rw [m37_at, if_pos rfl]; exact gv
set_option maxHeartbeats 200000 in
theorem ev_main {od : Bool} {nc ns : Nat} {oc : Ob} {s2zz w2zz : Nat → Int32} {v3 v6 v2 : Int32} {B1 B2 : Nat} {y1 : Int64 × Ob} {y2 : Ob} (e6zz : v6.toInt = (B1 : Int)) (e3zz : (B1 : Int) ≤ v3.toInt) (hB1 : B1 ≤ 400) (e2zz : v2.toInt = (B2 : Int)) (hB2 : B2 ≤ 400) {t : Bool} {a1zz b1 a2 b2 n : Nat} (hzz : Sx od (gA oc 5) (gA oc 6) s2zz w2zz t a1zz b1 a2 b2 n) : EvP od nc ns oc s2zz w2zz v3 v6 v2 B1 B2 y1 y2 t a1zz b1 a2 b2 n := by
  exact hzz (EvP od nc ns oc s2zz w2zz v3 v6 v2 B1 B2 y1 y2) ⟨fun a1zz a2 hs1 hs2 hw => ev_num e6zz e3zz hB1 e2zz hB2 hs1 hs2 hw,
    fun a1zz a2 hs1 hw => ev_word e6zz e3zz hB1 e2zz hB2 hs1 hw,
    fun a1zz m1zz b1 a2 m2zz b2 n n' p1zz p2zz hop => ev_bin e6zz e3zz hB1 e2zz hB2 p1zz p2zz (Or.inl hop) (fun czz => by cases czz),
    fun a1zz m1zz b1 a2 m2zz b2 n n' p1zz p2zz hop => ev_bin e6zz e3zz hB1 e2zz hB2 p1zz p2zz (Or.inr hop) (fun _ => hop),
    fun a1zz m1zz b1 a2 m2zz b2 n n' p1zz p2zz hop hj1 hj2 => ev_ao e6zz e3zz hB1 e2zz hB2 p1zz p2zz hop hj1 hj2,
    fun a1zz b1 a2 b2 n p1zz hs1 hs2 => ev_no1 e6zz e3zz hB1 e2zz hB2 p1zz hs1 hs2,
    fun a1zz b1 a2 b2 n p1zz hs1 hs2 => ev_no2 e6zz e3zz hB1 e2zz hB2 p1zz hs1 hs2⟩
set_option maxHeartbeats 200000 in
/-- what a sum or a test is worth: both say the same -/
theorem ev_all {od : Bool} {nc ns : Nat} {oc mezz o : Ob} {s2zz w2zz : Nat → Int32} {t : Bool} {a1zz b1 a2 b2 n : Nat} {p1zz p2zz r1zz r2 : Int32} {y1 : Int64 × Ob} {y2 : Ob} (hzz : Sx od (gA oc 5) (gA oc 6) s2zz w2zz t a1zz b1 a2 b2 n) (hn : n ≤ 50) (hb1 : b1 ≤ 400) (hb2 : b2 ≤ 400) (hst : (b1 : Int) ≤ (gI oc 8).toInt) (e1zz : p1zz.toInt = (a1zz : Int)) (e2zz : p2zz.toInt = (b1 : Int)) (f1zz : r1zz.toInt = (a2 : Int)) (f2zz : r2.toInt = (b2 : Int)) (hE : EWo od mezz o) (hR : RD s2zz w2zz o) (h1 : f_X3_worth_O nc ns mezz oc p1zz p2zz = some y1) (h2 : f_X9_reckonAll o r1zz r2 = some y2) :
    (y1.1 = -9000000000000000000 ∧ gI y2 38 = 1) ∨ (gI y2 38 = 0 ∧ y1.1 = gL y2 39 ∧ (-2147483648 ≤ y1.1.toInt ∧ y1.1.toInt ≤ 2147483647) ∧ (t = true → y1.1 = 0 ∨ y1.1 = 1)) := by
  have l := hzz.lt
  have z0 : (0 : Int32).toInt = 0 := by decide
  have n0zz : (0 : Int32).toNatClampNeg = 0 := by decide
  unfold f_X3_worth_O at h1
  have h1 := z_t h1 (Int32.lt_iff_toInt_lt.mpr (by omega))
  obtain ⟨x1zz, g1, h1⟩ := z_lt h1
  obtain ⟨x2zz, g2, h1⟩ := z_lt h1
  have t1zz : x1zz.toInt = (a1zz : Int) := by
    rw [g1]
    by_cases czz : (0 : Int32) < p1zz
    · rw [if_pos czz]; exact e1zz
    · have d := cv_nlt (a := 0) (b := (a1zz : Int)) z0 e1zz czz
      rw [if_neg czz, z0]; omega
  have t2zz : x2zz.toInt = (b1 : Int) := by
    rw [g2]
    by_cases czz : gI oc 8 < p2zz
    · have d := cv_lt (a := (gI oc 8).toInt) (b := (b1 : Int)) rfl e2zz czz
      omega
    · rw [if_neg czz]; exact e2zz
  unfold f_X9_reckonAll at h2
  obtain ⟨o1, k1zz, h2⟩ := z_lt h2
  have s1zz : SR o o1 := by rw [k1zz]; exact SR.sI
  have k38 : gI o1 38 = 0 := by rw [k1zz]; rfl
  rcases (ev_main (nc := nc) (ns := ns) (v3 := p2zz) (v6 := x2zz) (v2 := r2) (B1 := b1) (B2 := b2) (y1 := y1) (y2 := y2) t2zz (by omega) hb1 f2zz hb2 hzz).2 (Nat.le_refl _) (Nat.le_refl _) zfu zfu 0 x1zz p1zz 0 r1zz mezz o1 0 h1 h2 (by decide) t1zz ⟨by omega, by omega⟩ (by decide) f1zz (by omega) (hE.sr rfl s1zz) (hR.sr s1zz) k38 with br | ⟨N1, N2, v4zz, v5, v7, w3zz, w4zz, me', o', h1, h2, e4zz, e5zz, e7zz, f3zz, f4zz, -, -, g38, -, gv, gr, gt⟩
  · exact Or.inl br
  · refine Or.inr ?_
    cases N1 with
    | zero => cases h1
    | succ N1 =>
    cases N2 with
    | zero => cases h2
    | succ N2 =>
    have h1 : lb_X3_worth_O_30 nc ns oc (lp_X3_worth_O_30 nc ns oc N1) p2zz v4zz v5 x2zz v7 me' = some y1 := h1
    have h2 : lb_X9_reckonAll_10 (lp_X9_reckonAll_10 N2) r2 w3zz w4zz o' = some y2 := h2
    unfold lb_X3_worth_O_30 at h1
    unfold lb_X9_reckonAll_10 at h2
    have e1' : v4zz = 1 := Int32.toInt_inj.mp ((show v4zz.toInt = 1 by omega).trans (by decide))
    have h287 : bk_X3_worth_O_287 nc ns oc v4zz me' = some y1 := by
      by_cases czz : p2zz ≤ v7
      · exact z_t h1 czz
      · exact z_t (z_f h1 czz) (Int32.le_iff_toInt_le.mpr (by omega))
    unfold bk_X3_worth_O_287 at h287
    have h287 := Option.some.inj (z_t h287 e1')
    have h2 := z_t h2 (Int32.le_iff_toInt_le.mpr (by omega))
    unfold bk_X9_reckonAll_353 at h2
    have h2 := z_f h2 (fun czz => by have czz := cv_le (a := w3zz.toInt) (b := 0) rfl z0 czz; omega)
    unfold bk_X9_reckonAll_368 at h2
    obtain ⟨o2, k2zz, h2⟩ := z_lt h2
    have h2 := Option.some.inj h2
    rw [← h287, ← h2, k2zz, n0zz]
    exact ⟨g38, gv, gr, gt⟩
