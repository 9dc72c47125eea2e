-- beats
def dQ : DD := ([0, 8], [], [3], [], [])
def G8 (o0zz : Ob) (zzz : Int32 × Ob) : Prop := ∃ vzz : Int32, ((vzz = -1 ∨ vzz = -2 ∨ vzz = -3 ∨ vzz = -5 ∨ vzz = -6) ∧ f_X8_refuse o0zz vzz = some zzz) ∨ (0 ≤ vzz.toInt ∧ f_X8_grant o0zz vzz = some zzz)
def G9 (o9 : Ob) (wzz : Int32 × Ob) : Prop := ∃ (vzz : Int32) (qzz : Ob), FrX dQ o9 qzz ∧ f_X9_tell qzz vzz = some wzz
set_option maxHeartbeats 200000 in
theorem G8.st {o0zz o9 : Ob} {zzz wzz : Int32 × Ob} (azz : G8 o0zz zzz) (bzz : G9 o9 wzz) (hzz : StT o0zz o9) (ezz : zzz.1 = wzz.1) : StT zzz.2 wzz.2 ∧ gI zzz.2 13 = gI o0zz 13 ∧ gI zzz.2 14 = gI o0zz 14 ∧ gR zzz.2 7 = gR o0zz 7 ∧ FrX dIs o9 wzz.2 := by
  obtain ⟨v', qzz, fzz, k2zz⟩ := bzz
  have hq : StT o0zz qzz := ⟨by rw [fzz.I 1 rfl]; exact hzz.1, by rw [fzz.A 2 rfl]; exact hzz.2⟩
  have ft := fr_f_X9_tell k2zz
  have f2zz : FrX dIs o9 wzz.2 := (fzz.mono rfl : FrX dIs o9 qzz).tr (ft.mono rfl)
  have e2zz := (tell_3 k2zz).1
  obtain ⟨vzz, ⟨hv, k1zz⟩ | ⟨hv, k1zz⟩⟩ := azz
  · have fa := fr_f_X8_refuse k1zz
    have e1zz : vzz = v' := by rw [← e2zz, ← ezz, refuse_ret k1zz]
    rw [← e1zz] at k2zz
    exact ⟨(st_refuse hq hv k1zz k2zz).2.2, fa.I 13 rfl, fa.I 14 rfl, fa.R 7 rfl, f2zz⟩
  · have fa := fr_f_X8_grant k1zz
    have e1zz : vzz = v' := by rw [← e2zz, ← ezz, grant_d k1zz]
    rw [← e1zz] at k2zz
    exact ⟨(st_grant hq hv k1zz k2zz).2.2, fa.I 13 rfl, fa.I 14 rfl, fa.R 7 rfl, f2zz⟩
set_option maxHeartbeats 200000 in
theorem bt_g8 {o0zz o4zz : Ob} {p0zz p1zz p2zz : Int32} {yzz : Int32 × Ob × Ob} (hzz : f_X8_beats o0zz o4zz p0zz p1zz p2zz = some yzz) : G8 o0zz (yzz.1, yzz.2.1) := by
  have h14 : bk_X8_beats_14 o0zz o4zz = some yzz → G8 o0zz (yzz.1, yzz.2.1) := by
    intro hzz
    unfold bk_X8_beats_14 at hzz
    obtain ⟨zzz, kzz, hzz⟩ := z_bd hzz
    rw [← Option.some.inj hzz]
    exact ⟨_, Or.inl ⟨Or.inl rfl, kzz⟩⟩
  have h42 : bk_X8_beats_42 o0zz o4zz = some yzz → G8 o0zz (yzz.1, yzz.2.1) := by
    intro hzz
    unfold bk_X8_beats_42 at hzz
    obtain ⟨zzz, kzz, hzz⟩ := z_bd hzz
    rw [← Option.some.inj hzz]
    exact ⟨_, Or.inl ⟨Or.inr (Or.inl rfl), kzz⟩⟩
  unfold f_X8_beats at hzz
  by_cases c1zz : p0zz = p1zz
  · exact h14 (z_t hzz c1zz)
  have hzz := z_f hzz c1zz
  by_cases c2zz : p2zz < 0
  · exact h14 (z_t hzz c2zz)
  have hzz := z_f hzz c2zz
  by_cases c3zz : p2zz ≤ 1
  · obtain ⟨z2, k2zz, hzz⟩ := z_bd (z_t hzz c3zz)
    by_cases c4zz : z2 = 0
    · exact h42 (z_t hzz c4zz)
    obtain ⟨z4, k4zz, hzz⟩ := z_bd (z_f hzz c4zz)
    by_cases c5zz : z4 = 0
    · exact h42 (z_t hzz c5zz)
    have hzz := (z_gd (z_f hzz c5zz)).2
    obtain ⟨x6, g6, hzz⟩ := z_lt hzz
    have hzz := (z_gd (z_gd hzz).2).2
    obtain ⟨o9, g9, hzz⟩ := z_lt hzz
    obtain ⟨z10, k10, hzz⟩ := z_bd hzz
    rw [← Option.some.inj hzz]
    exact ⟨_, Or.inr ⟨by rw [g6]; exact (i32_and (m := 1) (by decide)).1, k10⟩⟩
  · exact h14 (z_f hzz c3zz)
set_option maxHeartbeats 200000 in
theorem bt_g9 {o9 : Ob} {p0zz p1zz p2zz : Int32} {yzz : Int32 × Ob} (hzz : f_X9_beats o9 p0zz p1zz p2zz = some yzz) : G9 o9 yzz := by
  unfold f_X9_beats at hzz
  obtain ⟨q1zz, g1, hzz⟩ := z_lt hzz
  have f1zz : FrX dQ o9 q1zz := by rw [g1]; exact FrX.sI FrX.rf rfl
  have h20 : bk_X9_beats_20 q1zz = some yzz → G9 o9 yzz := by
    intro hzz
    unfold bk_X9_beats_20 at hzz
    obtain ⟨zzz, kzz, hzz⟩ := z_bd hzz
    rw [← Option.some.inj hzz]
    exact ⟨_, _, f1zz, kzz⟩
  have h42 : bk_X9_beats_42 q1zz = some yzz → G9 o9 yzz := by
    intro hzz
    unfold bk_X9_beats_42 at hzz
    obtain ⟨zzz, kzz, hzz⟩ := z_bd hzz
    rw [← Option.some.inj hzz]
    exact ⟨_, _, f1zz, kzz⟩
  by_cases c1zz : p0zz = p1zz
  · exact h20 (z_t hzz c1zz)
  obtain ⟨z3, k3zz, hzz⟩ := z_bd (z_f hzz c1zz)
  by_cases c2zz : z3 = 0
  · exact h20 (z_t hzz c2zz)
  obtain ⟨z4, k4zz, hzz⟩ := z_bd (z_f hzz c2zz)
  by_cases c3zz : z4 = 0
  · exact h42 (z_t hzz c3zz)
  obtain ⟨z6, k6zz, hzz⟩ := z_bd (z_f hzz c3zz)
  by_cases c4zz : z6 = 0
  · exact h42 (z_t hzz c4zz)
  have hzz := (z_gd (z_f hzz c4zz)).2
  obtain ⟨x8, g8, hzz⟩ := z_lt hzz
  obtain ⟨x9, g9, hzz⟩ := z_lt hzz
  have hzz := (z_gd hzz).2
  have h87 : ∀ s0zz s1zz : Int32, bk_X9_beats_87 x8 s0zz s1zz x9 q1zz = some yzz → G9 o9 yzz := by
    intro s0zz s1zz hzz
    unfold bk_X9_beats_87 at hzz
    have hzz := (z_gd hzz).2
    obtain ⟨o12, g12, hzz⟩ := z_lt hzz
    obtain ⟨zzz, kzz, hzz⟩ := z_bd hzz
    rw [← Option.some.inj hzz]
    exact ⟨_, _, by rw [g12]; exact FrX.tA f1zz rfl, kzz⟩
  by_cases c5zz : x8 = p2zz
  · exact h87 _ _ (z_t hzz c5zz)
  · exact h87 _ _ (z_f hzz c5zz)
set_option maxHeartbeats 200000 in
theorem tf_beats {pl : List CR} {o0zz o1 o4zz o5zz o8zz o6 o11 o9 : Ob} {im0 im1 : Option IR} {p0zz p1zz p2zz : Int32} {yzz : Int32 × Ob × Ob} {y' : Int32 × Ob} (ht : TF pl o0zz o1 o4zz o5zz o8zz o6 o11 o9 im0 im1) (h4 : IvX2 pl o4zz) (h1 : f_X8_beats o0zz o4zz p0zz p1zz p2zz = some yzz) (h2 : f_X9_beats o9 p0zz p1zz p2zz = some y') : yzz.1 = y'.1 ∧ TF pl yzz.2.1 o1 yzz.2.2 o5zz o8zz o6 o11 y'.2 im0 im1 := by
  obtain ⟨t1zz, t2zz, t3zz, t4zz⟩ := ht.2.2.2.2.2.2.1
  obtain ⟨a1zz, a2⟩ := t_beats h4 t1zz h1 h2
  obtain ⟨n, en, hn⟩ := people_n h4
  have en9 : (gA o9 3 0).toInt = (n : Int) := by rw [← t1zz.1]; exact en
  have ec : p0zz.toNatClampNeg = p0zz.toInt.toNat := rfl
  have Ezz : ∀ jzz, ¬ (64 ≤ jzz ∧ jzz < 71) → gA y'.2 3 jzz = gA o9 3 jzz := by
    intro jzz hj
    rcases beats9 en9 hn h2 with ⟨-, -, czz⟩ | ⟨-, ⟨-, -, czz⟩ | ⟨bzz, -, czz⟩⟩
    · rw [czz]
    · rw [czz]
    · rw [czz jzz, if_neg (by rw [ec]; omega)]
  have Dzz : ∃ (izz : Nat) (vzz : Int32), yzz.2.2 = o4zz ∨ yzz.2.2 = tA o4zz 3 izz vzz := by
    rcases beats8 en hn h1 with ⟨-, -, czz⟩ | ⟨-, ⟨-, -, czz⟩ | ⟨-, -, czz⟩⟩
    · exact ⟨0, 0, Or.inl czz⟩
    · exact ⟨0, 0, Or.inl czz⟩
    · exact ⟨_, _, Or.inr czz⟩
  obtain ⟨s1zz, s2zz, s3zz, s4zz, s5⟩ := (bt_g8 h1).st (bt_g9 h2) ht.2.2.2.1 a1zz
  obtain ⟨izz, vzz, Dzz⟩ := Dzz
  refine ⟨a1zz, ht.isl s5 ⟨a2, ?_, t3zz.ext (fun _ _ => rfl) (fun _ _ => rfl) rfl rfl rfl (fun jzz j1 j2zz => Ezz jzz (by omega)), fun jzz hj => ?_⟩ ?_ s1zz s2zz s3zz s4zz⟩
  · rcases Dzz with Dzz | Dzz <;> rw [Dzz] <;> exact t2zz.ext rfl rfl rfl rfl rfl (fun _ _ => rfl) (fun _ _ => rfl) (fun _ _ => rfl) (fun _ _ => rfl) (fun jzz hj => Ezz jzz (by omega))
  · rw [Ezz 0 (by omega)] at hj
    rw [Ezz jzz (by omega)]
    exact t4zz jzz hj
  · have fb := fr_f_X9_beats h2
    rw [Ezz 0 (by omega)]
    exact ht.2.2.2.2.2.2.2.1.cell (fb.I 8 rfl) (fb.A 6 rfl) (fb.A 7 rfl) (fun jzz hj => Ezz jzz (by omega))
-- seen
set_option maxHeartbeats 200000 in
theorem tf_seen {pl : List CR} {o0zz o1 o4zz o5zz o8zz o6 o11 o9 : Ob} {im0 im1 : Option IR} {p0zz p1zz : Int32} {yzz : Int32 × Ob × Ob} {y' : Int32 × Ob} (ht : TF pl o0zz o1 o4zz o5zz o8zz o6 o11 o9 im0 im1) (h4 : IvX2 pl o4zz) (h1 : f_X8_seen o0zz o4zz p0zz p1zz = some yzz) (h2 : f_X9_seen o9 p0zz p1zz = some y') : yzz.1 = y'.1 ∧ TF pl yzz.2.1 o1 yzz.2.2 o5zz o8zz o6 o11 y'.2 im0 im1 := by
  obtain ⟨a1zz, a2⟩ := t_seen h4 ht.2.2.2.2.2.2.1.1 h1 h2
  have n1zz : (1 : Int32).toNatClampNeg = 1 := by decide
  unfold f_X8_seen at h1
  unfold f_X9_seen at h2
  obtain ⟨q1zz, g1, h2⟩ := z_lt h2
  have ht1 : TF pl o0zz o1 o4zz o5zz o8zz o6 o11 q1zz im0 im1 := by rw [g1]; exact ht.sI0
  obtain ⟨t1zz, t2zz, t3zz, t4zz⟩ := ht1.2.2.2.2.2.2.1
  obtain ⟨z1, k1zz, h1⟩ := z_bd h1
  obtain ⟨w2zz, l2, h2⟩ := z_bd h2
  have no : bk_X8_seen_14 o0zz o4zz = some yzz → bk_X9_seen_24 q1zz = some y' → yzz.1 = y'.1 ∧ TF pl yzz.2.1 o1 yzz.2.2 o5zz o8zz o6 o11 y'.2 im0 im1 := by
    intro h1 h2
    unfold bk_X8_seen_14 at h1
    unfold bk_X9_seen_24 at h2
    obtain ⟨z2, k2zz, h1⟩ := z_bd h1
    obtain ⟨w3zz, l3, h2⟩ := z_bd h2
    have h1 := Option.some.inj h1
    have h2 := Option.some.inj h2
    rw [← h1, ← h2]
    exact ht1.no (Or.inl rfl) k2zz l3
  rcases isR9 l2 with ⟨b1, b2⟩ | ⟨b1, b2⟩
  · have c1zz : z1 = 0 := by
      rcases isR8 k1zz with ⟨uzz, -⟩ | ⟨-, uzz⟩
      · exact uzz
      · exact absurd uzz b2
    exact no (z_t h1 c1zz) (z_t h2 b1)
  · have c1zz : ¬ z1 = 0 := by
      rcases isR8 k1zz with ⟨-, uzz⟩ | ⟨uzz, -⟩
      · exact absurd b2 uzz
      · exact uzz
    obtain ⟨z3, k3zz, h1⟩ := z_bd (z_f h1 c1zz)
    obtain ⟨w4zz, l4, h2⟩ := z_bd (z_f h2 b1)
    have i9zz := in9 (m := 0) (n := 9) (by decide) (by decide) l4
    have i8zz := isT8 k3zz
    rcases i9zz with ⟨uzz, vzz⟩ | ⟨uzz, vzz⟩
    · have c3zz : z3 = 0 := by
        rcases i8zz with ⟨wzz, -⟩ | ⟨-, wzz⟩
        · exact wzz
        · exact absurd (by omega) vzz
      exact no (z_t h1 c3zz) (z_t h2 uzz)
    · have c3zz : ¬ z3 = 0 := by
        rcases i8zz with ⟨-, wzz⟩ | ⟨wzz, -⟩
        · exact absurd (by omega) wzz
        · exact wzz
      have h1 := z_f h1 c3zz
      obtain ⟨x5zz, g5zz, h2⟩ := z_lt (z_f h2 uzz)
      rw [n1zz] at g5zz h2
      have e8 : gI o4zz 8 = x5zz := by rw [g5zz]; exact t1zz.2.1
      have r8 := h4.2.1
      rw [e8] at r8
      by_cases c5zz : x5zz = 6
      · obtain ⟨z6, k6zz, h1⟩ := z_bd (z_f h1 (by rw [e8, c5zz]; decide))
        obtain ⟨w12, l12, h2⟩ := z_bd (z_t h2 c5zz)
        have h1 := Option.some.inj h1
        have h2 := Option.some.inj h2
        rw [← h1, ← h2]
        exact ht1.no (Or.inr (Or.inr (Or.inr (Or.inl rfl)))) k6zz l12
      · have d5zz := cv_ne (a := x5zz.toInt) (b := 6) rfl (by decide) c5zz
        obtain ⟨kzz, ek⟩ : ∃ kzz : Nat, x5zz.toInt = (kzz : Int) := ⟨x5zz.toInt.toNat, by omega⟩
        have hk : kzz < 6 := by omega
        have lt : gI o4zz 8 < 6 := by rw [e8]; exact Int32.lt_iff_toInt_lt.mpr (by rw [ek, (by decide : (6 : Int32).toInt = 6)]; omega)
        obtain ⟨z4, k4zz, h1⟩ := z_bd (z_t h1 lt)
        obtain ⟨z5, k5zz, h1⟩ := z_bd h1
        have h1 := Option.some.inj h1
        unfold f_X2_addSeen at k4zz
        have k4zz := (z_gd (z_f k4zz (fun qzz => by rw [e8] at qzz; have qzz := cv_le (a := 6) (b := (kzz : Int)) (by decide) ek qzz; omega))).2
        obtain ⟨m2zz, f2zz, k4zz⟩ := z_lt k4zz
        have k4zz := (z_gd k4zz).2
        obtain ⟨m4zz, f4zz, k4zz⟩ := z_lt k4zz
        obtain ⟨m5zz, f5zz, k4zz⟩ := z_lt k4zz
        unfold bk_X2_addSeen_39 at k4zz
        have k4zz := Option.some.inj k4zz
        have ik : (gI o4zz 8).toNatClampNeg = kzz := by rw [e8]; exact tnc_eq ek
        have ik2 : (gI m2zz 8).toNatClampNeg = kzz := by rw [f2zz]; exact ik
        rw [ik] at f2zz
        rw [ik2] at f4zz
        have v5 : m5zz = sI (tA (tA o4zz 4 kzz p0zz) 5 kzz p1zz) 8 (gI o4zz 8 + 1) := by rw [f5zz, f4zz, f2zz]; rfl
        have h2 := (z_gd (z_f h2 c5zz)).2
        have j7zz : ((71 : Int32) + ((2 : Int32) * x5zz)).toInt = 71 + 2 * (kzz : Int) := i32_add (by decide) (i32_mul (by decide : (2 : Int32).toInt = 2) ek (by omega) (by omega)) (by omega) (by omega)
        have j7n : ((71 : Int32) + ((2 : Int32) * x5zz)).toNatClampNeg = 71 + 2 * kzz := tnc_eq (by rw [j7zz]; omega)
        have j8n : (((71 : Int32) + ((2 : Int32) * x5zz)) + (1 : Int32)).toNatClampNeg = 72 + 2 * kzz := tnc_eq (by rw [i32_add j7zz (by decide : (1 : Int32).toInt = 1) (by omega) (by omega)]; omega)
        rw [j7n, j8n] at h2
        obtain ⟨q7zz, g7, h2⟩ := z_lt h2
        have h2 := (z_gd h2).2
        obtain ⟨q9zz, g9, h2⟩ := z_lt h2
        obtain ⟨q10zz, g10, h2⟩ := z_lt h2
        obtain ⟨w11zz, l11, h2⟩ := z_bd h2
        have h2 := Option.some.inj h2
        have fq : FrX dIs q1zz q10zz := by rw [g10, g9, g7]; exact FrX.tA (FrX.tA (FrX.tA FrX.rf rfl) rfl) rfl
        have ft := fr_f_X9_tell l11
        have Fzz : FrX dIs q1zz w11zz.2 := fq.tr (ft.mono rfl)
        have exzz : z4.1 = x5zz + 1 := by
          rw [← k4zz]
          show gI m5zz 8 = x5zz + 1
          rw [v5, ← e8]; rfl
        rw [exzz] at k5zz
        have sq : StT o0zz q10zz := ht1.2.2.2.1.eq rfl rfl (by rw [g10, g9, g7]; rfl) (by rw [g10, g9, g7]; rfl)
        have tx : (x5zz + 1).toInt = (kzz : Int) + 1 := i32_add ek (by decide) (by omega) (by omega)
        obtain ⟨s1zz, s2zz, s3zz⟩ := st_grant sq (by rw [tx]; omega) k5zz l11
        have fg := fr_f_X8_grant k5zz
        have ez : z4.2 = m5zz := by rw [← k4zz]
        have eW : gA w11zz.2 3 = upd (upd (upd (gA q1zz 3) (71 + 2 * kzz) p0zz) (72 + 2 * kzz) p1zz) 1 (upd (upd (gA q1zz 3) (71 + 2 * kzz) p0zz) (72 + 2 * kzz) p1zz 1 + 1) := by
          rw [ft.A 3 rfl, g10, g9, g7]; rfl
        have Ezz : ∀ jzz, jzz ≠ 1 → jzz ≠ 71 + 2 * kzz → jzz ≠ 72 + 2 * kzz → gA w11zz.2 3 jzz = gA q1zz 3 jzz := fun jzz j1 j2zz j3zz => by rw [eW, updA, if_neg j1, updA, if_neg j3zz, updA, if_neg j2zz]
        have a2' : Tis z4.2 (gA w11zz.2 3) := by rw [← h1, ← h2] at a2; exact a2
        refine ⟨a1zz, ?_⟩
        rw [← h1, ← h2]
        refine ht1.isl Fzz ⟨a2', ?_, t3zz.ext (fun _ _ => rfl) (fun _ _ => rfl) rfl rfl rfl (fun jzz j1 j2zz => Ezz jzz (by omega) (by omega) (by omega)), fun jzz hj => ?_⟩ ?_ s3zz (fg.I 13 rfl) (fg.I 14 rfl) (fg.R 7 rfl)
        · rw [ez, v5]
          obtain ⟨u1zz, u2zz, u3, u4zz, u5, u6⟩ := t2zz
          refine ⟨⟨by rw [Ezz 0 (by omega) (by omega) (by omega)]; exact u1zz.1, fun jzz hj => by rw [Ezz (36 + jzz) (by omega) (by omega) (by omega)]; exact u1zz.2.1 jzz hj, by rw [Ezz 6 (by omega) (by omega) (by omega)]; exact u1zz.2.2⟩, by rw [Ezz 2 (by omega) (by omega) (by omega)]; exact u2zz, by rw [Ezz 3 (by omega) (by omega) (by omega), Ezz 2 (by omega) (by omega) (by omega)]; exact u3, by rw [Ezz 5 (by omega) (by omega) (by omega)]; exact u4zz, fun jzz hj => ?_, fun l hl => ?_⟩
          · show (if jzz = kzz then p0zz else gA o4zz 4 jzz) = _ ∧ (if jzz = kzz then p1zz else gA o4zz 5 jzz) = _
            by_cases qq : jzz = kzz
            · rw [if_pos qq, if_pos qq, eW, updA, if_neg (by omega), updA, if_neg (by omega), updA, if_pos (by omega), updA, if_neg (by omega), updA, if_pos (by omega)]
              exact ⟨rfl, rfl⟩
            · rw [if_neg qq, if_neg qq, Ezz (71 + 2 * jzz) (by omega) (by omega) (by omega), Ezz (72 + 2 * jzz) (by omega) (by omega) (by omega)]
              exact u5 jzz hj
          · rw [Ezz 2 (by omega) (by omega) (by omega)] at hl
            have hl6 := u2zz.2.2
            obtain ⟨aa, cc, r1zz, r2, r3⟩ := u6 l hl
            exact ⟨aa, cc, r1zz, r2, r3.eq (fun jzz hj => Ezz jzz (by omega) (by omega) (by omega))⟩
        · have g0 := t2zz.1.1.2.1
          rw [Ezz 0 (by omega) (by omega) (by omega)] at hj
          rw [Ezz jzz (by omega) (by omega) (by omega)]
          exact t4zz jzz hj
        · rw [Ezz 0 (by omega) (by omega) (by omega)]
          exact ht1.2.2.2.2.2.2.2.1.cell (by rw [ft.I 8 rfl, g10, g9, g7]; rfl) (by rw [ft.A 6 rfl, g10, g9, g7]; rfl) (by rw [ft.A 7 rfl, g10, g9, g7]; rfl) (fun jzz hj => Ezz jzz (by omega) (by omega) (by omega))
