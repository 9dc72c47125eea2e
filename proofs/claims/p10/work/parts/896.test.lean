-- what moves besides: years, entries, the gap
set_option maxHeartbeats 200000 in
/-- the isles' part of a law's words -/
def WiL (isl : Ob) (Gzz : Nat → Int32) : Prop := (gI isl 7 = Gzz 0 ∧ 0 ≤ (Gzz 0).toInt ∧ (Gzz 0).toInt ≤ 7) ∧ (∀ jzz, jzz < 28 → gA isl 2 jzz = Gzz (36 + jzz) ∧ 0 ≤ (Gzz (36 + jzz)).toInt ∧ (Gzz (36 + jzz)).toInt ≤ 9) ∧ gI isl 12 = Gzz 6
set_option maxHeartbeats 200000 in
theorem WtL.of {isl mv : Ob} {Gzz : Nat → Int32} (hzz : WiL isl Gzz) (mzz : TzM mv Gzz) : WtL isl mv Gzz := ⟨hzz.1, hzz.2.1, mzz.1, fun jzz hj => (mzz.2.1 jzz hj).1, mzz.2.2.1.1, mzz.2.2.2.1.1, hzz.2.2⟩
set_option maxHeartbeats 200000 in
theorem WiL.rw' {isl : Ob} {Gzz G' : Nat → Int32} {n : Nat} (hzz : WiL isl Gzz) (rzz : RwC n Gzz G') : WiL isl G' := by
  have e0zz : G' 0 = Gzz 0 := rzz 0 (by omega)
  have e6zz : G' 6 = Gzz 6 := rzz 6 (by omega)
  unfold WiL
  rw [e0zz, e6zz]
  refine ⟨hzz.1, fun jzz hj => ?_, hzz.2.2⟩
  rw [rzz (36 + jzz) (by omega)]
  exact hzz.2.1 jzz hj
set_option maxHeartbeats 200000 in
theorem LwE.eq {oc : Ob} {Gzz G' : Nat → Int32} {l : Nat} (hzz : LwE oc Gzz l) (ezz : ∀ jzz, 84 ≤ jzz → G' jzz = Gzz jzz) : LwE oc G' l := by
  obtain ⟨n, K1, K2, h1, h2, h3, h4, h5, h6, h7⟩ := hzz
  have a1zz : clL G' l = clL Gzz l := funext fun kzz => ezz _ (by omega)
  have a2 : opL G' l = opL Gzz l := funext fun kzz => ezz _ (by omega)
  have a3 : argL G' l = argL Gzz l := funext fun kzz => ezz _ (by omega)
  refine ⟨n, K1, K2, h1, h2, h3, h4, h5, by rw [ezz _ (by omega)]; exact h6, ?_⟩
  rw [a1zz, a2, a3]
  exact h7
set_option maxHeartbeats 200000 in
theorem LwP.eq {pl : List CR} {rzz : Option Nat} {Gzz G' : Nat → Int32} {lw : Int32} (hzz : LwP pl rzz Gzz lw) (ezz : ∀ jzz, 84 ≤ jzz → G' jzz = Gzz jzz) : LwP pl rzz G' lw := by
  rcases hzz with hzz | ⟨l, azz, czz, h1, h2, h3, h4, h5⟩
  · exact Or.inl hzz
  · exact Or.inr ⟨l, azz, czz, h1, h2, h3, h4, h5.eq ezz⟩
set_option maxHeartbeats 200000 in
theorem LwP.rw' {pl : List CR} {rzz : Option Nat} {Gzz G' : Nat → Int32} {n : Nat} (hzz : LwP pl rzz Gzz (Gzz 3)) (wzz : RwC n Gzz G') : LwP pl rzz G' (G' 3) := by
  rw [wzz 3 (by omega)]
  exact hzz.eq (fun jzz hj => wzz jzz (by omega))
set_option maxHeartbeats 200000 in
theorem lower_lp {czz isl mv : Ob} {pzz zzz : Int32} {Pzz : Nat} (eP : pzz.toInt = (Pzz : Int)) (hP : Pzz < 7) : ∀ (Nzz : Nat) (vzz : Int32) (izz : Nat), vzz.toInt = (izz : Int) → izz ≤ Pzz → (∀ qzz, qzz < izz → ¬ gA mv 0 qzz = gA mv 0 Pzz) → lp_X1_hasTradeOfLower_2 czz isl mv Nzz (pzz, vzz) = some zzz → (¬ zzz = 0 ∧ ∃ qzz, qzz < Pzz ∧ gA mv 0 qzz = gA mv 0 Pzz) ∨ (zzz = 0 ∧ ∀ qzz, qzz < Pzz → ¬ gA mv 0 qzz = gA mv 0 Pzz) := by
  intro Nzz
  induction Nzz with
  | zero => intro vzz izz _ _ _ hzz; cases hzz
  | succ Nzz ihzz =>
    intro vzz izz evzz hizz hno hzz
    have hzz : lb_X1_hasTradeOfLower_2 czz isl mv (lp_X1_hasTradeOfLower_2 czz isl mv Nzz) pzz vzz = some zzz := hzz
    unfold lb_X1_hasTradeOfLower_2 at hzz
    have ivzz : vzz.toNatClampNeg = izz := tnc_eq evzz
    have ip : pzz.toNatClampNeg = Pzz := tnc_eq eP
    rw [ivzz, ip] at hzz
    rcases z_if hzz with ⟨c0zz, hzz⟩ | ⟨c0zz, hzz⟩
    · have c0zz := cv_le (a := (Pzz : Int)) (b := (izz : Int)) eP evzz c0zz
      exact Or.inr ⟨(Option.some.inj hzz).symm, fun qzz hq => hno qzz (by omega)⟩
    · have c0zz := cv_nle (a := (Pzz : Int)) (b := (izz : Int)) eP evzz c0zz
      have hzz := (z_gd (z_gd hzz).2).2
      rcases z_if hzz with ⟨c1zz, hzz⟩ | ⟨c1zz, hzz⟩
      · have hzz := Option.some.inj hzz
        exact Or.inl ⟨by rw [← hzz]; decide, izz, by omega, c1zz⟩
      · obtain ⟨xzz, exzz, hzz⟩ := z_lt hzz
        refine ihzz xzz (izz + 1) (by rw [exzz]; exact Eq.trans (i32_add evzz (by decide : (1 : Int32).toInt = 1) (by omega) (by omega)) (by omega)) (by omega) (fun qzz hq => ?_) hzz
        by_cases wzz : qzz = izz
        · rw [wzz]; exact c1zz
        · exact hno qzz (by omega)
set_option maxHeartbeats 200000 in
theorem like_lp {o : Ob} {pzz zzz : Int32} {Pzz : Nat} (eP : pzz.toInt = (Pzz : Int)) (hP : Pzz < 7) : ∀ (Nzz : Nat) (s vzz : Int32) (izz : Nat), vzz.toInt = (izz : Int) → izz ≤ Pzz → ((¬ s = 0 ∧ ∃ qzz, qzz < Pzz ∧ gA o 3 (8 + qzz) = gA o 3 (8 + Pzz)) ∨ (s = 0 ∧ ∀ qzz, qzz < izz → ¬ gA o 3 (8 + qzz) = gA o 3 (8 + Pzz))) → lp_X9_hasLike_4 o Nzz (pzz, s, vzz) = some zzz → (¬ zzz = 0 ∧ ∃ qzz, qzz < Pzz ∧ gA o 3 (8 + qzz) = gA o 3 (8 + Pzz)) ∨ (zzz = 0 ∧ ∀ qzz, qzz < Pzz → ¬ gA o 3 (8 + qzz) = gA o 3 (8 + Pzz)) := by
  intro Nzz
  induction Nzz with
  | zero => intro s vzz izz _ _ _ hzz; cases hzz
  | succ Nzz ihzz =>
    intro s vzz izz evzz hizz hs hzz
    have hzz : lb_X9_hasLike_4 o (lp_X9_hasLike_4 o Nzz) pzz s vzz = some zzz := hzz
    unfold lb_X9_hasLike_4 at hzz
    have ivzz : ((8 : Int32) + vzz).toNatClampNeg = 8 + izz := tnc_eq (by rw [i32_add (by decide : (8 : Int32).toInt = 8) evzz (by omega) (by omega)]; omega)
    have ip : ((8 : Int32) + pzz).toNatClampNeg = 8 + Pzz := tnc_eq (by rw [i32_add (by decide : (8 : Int32).toInt = 8) eP (by omega) (by omega)]; omega)
    rw [ivzz, ip] at hzz
    have tx : (vzz + (1 : Int32)).toInt = ((izz + 1 : Nat) : Int) := Eq.trans (i32_add evzz (by decide : (1 : Int32).toInt = 1) (by omega) (by omega)) (by omega)
    rcases z_if hzz with ⟨c0zz, hzz⟩ | ⟨c0zz, hzz⟩
    · have c0zz := cv_le (a := (Pzz : Int)) (b := (izz : Int)) eP evzz c0zz
      have hzz := Option.some.inj (z_gd hzz).2
      rw [← hzz]
      rcases hs with hs | ⟨s1zz, s2zz⟩
      · exact Or.inl hs
      · exact Or.inr ⟨s1zz, fun qzz hq => s2zz qzz (by omega)⟩
    · have c0zz := cv_nle (a := (Pzz : Int)) (b := (izz : Int)) eP evzz c0zz
      rcases z_if hzz with ⟨c1zz, hzz⟩ | ⟨c1zz, hzz⟩
      · have hzz := (z_gd (z_gd hzz).2).2
        rcases z_if hzz with ⟨c2zz, hzz⟩ | ⟨c2zz, hzz⟩
        · unfold bk_X9_hasLike_34 bk_X9_hasLike_39 at hzz
          obtain ⟨xzz, exzz, hzz⟩ := z_lt hzz
          rw [← exzz] at tx
          exact ihzz 1 xzz (izz + 1) tx (by omega) (Or.inl ⟨by decide, izz, by omega, c2zz⟩) hzz
        · unfold bk_X9_hasLike_39 at hzz
          obtain ⟨xzz, exzz, hzz⟩ := z_lt hzz
          rw [← exzz] at tx
          refine ihzz 0 xzz (izz + 1) tx (by omega) (Or.inr ⟨rfl, fun qzz hq => ?_⟩) hzz
          by_cases wzz : qzz = izz
          · rw [wzz]; exact c2zz
          · rcases hs with ⟨gzz, -⟩ | ⟨-, gzz⟩
            · exact absurd c1zz gzz
            · exact gzz qzz (by omega)
      · unfold bk_X9_hasLike_34 bk_X9_hasLike_39 at hzz
        obtain ⟨xzz, exzz, hzz⟩ := z_lt hzz
        rw [← exzz] at tx
        rcases hs with ⟨-, gzz⟩ | ⟨gzz, -⟩
        · exact ihzz 1 xzz (izz + 1) tx (by omega) (Or.inl ⟨by decide, gzz⟩) hzz
        · exact absurd gzz c1zz
set_option maxHeartbeats 200000 in
theorem pass_lp {czz isl : Ob} {pl : List CR} {lz : Option Nat} {n : Nat} {yzz : Int32 × Ob × Ob} {y' : Int32 × Ob} :
    ∀ (Nzz N' : Nat) (t vzz : Int32) (mv mezz o : Ob) (izz mzz : Nat), vzz.toInt = (izz : Int) → izz ≤ n → t.toInt = (mzz : Int) → mzz ≤ izz → LwP pl lz (gA o 3) (gA o 3 3) → WiL isl (gA o 3) → TzM mv (gA o 3) → gI o 20 = 0 → (gA o 3 0).toInt = (n : Int) → (gA o 3 4).toInt < 999 → lp_X1_passedYear_12 czz isl pl Nzz (lz, t, vzz, mv, mezz) = some yzz → lp_X9_passIt_4 N' (t, vzz, o) = some y' → yzz.1 = y'.1 ∧ 0 ≤ y'.1.toInt ∧ TzM yzz.2.1 (gA y'.2 3) ∧ RwC n (gA o 3) (gA y'.2 3) := by
  intro Nzz
  induction Nzz with
  | zero => intro N' t vzz mv mezz o izz mzz _ _ _ _ _ _ _ _ _ _ h1; cases h1
  | succ Nzz ihzz =>
    intro N' t vzz mv mezz o izz mzz evzz hizz et hmzz hL hI hMzz h20 en hy h1 h2
    cases N' with
    | zero => cases h2
    | succ N' =>
    have hn7 : n ≤ 7 := by have := hI.1.2.2; omega
    have n0zz : (0 : Int32).toNatClampNeg = 0 := by decide
    have n4zz : (4 : Int32).toNatClampNeg = 4 := by decide
    have h1 : lb_X1_passedYear_12 czz isl pl (lp_X1_passedYear_12 czz isl pl Nzz) lz t vzz mv mezz = some yzz := h1
    have h2 : lb_X9_passIt_4 (lp_X9_passIt_4 N') t vzz o = some y' := h2
    unfold lb_X1_passedYear_12 at h1
    unfold lb_X9_passIt_4 at h2
    rw [n0zz, n4zz, ← hI.1.1] at h2
    by_cases c0zz : gI isl 7 ≤ vzz
    · have h1 := z_t h1 c0zz
      have h2 := z_t h2 c0zz
      obtain ⟨m2zz, g2, h1⟩ := z_lt h1
      obtain ⟨o1, k1zz, h2⟩ := z_lt h2
      have h1 := Option.some.inj h1
      have h2 := Option.some.inj h2
      have eG : gA o1 3 = upd (gA o 3) 4 (gA o 3 4 + 1) := by rw [k1zz]; rfl
      rw [← h1, ← h2]
      have hyr := hMzz.2.2.2.1
      have tyzz : (gA o 3 4 + (1 : Int32)).toInt = (gA o 3 4).toInt + 1 := i32_add rfl (by decide) (by omega) (by omega)
      refine ⟨rfl, by show 0 ≤ t.toInt; omega, ?_, ?_⟩
      · show TzM m2zz (gA o1 3)
        rw [g2, eG, hyr.1]
        exact hMzz.year ⟨by rw [tyzz]; omega, by rw [tyzz]; omega⟩
      · show RwC n (gA o 3) (gA o1 3)
        rw [eG]; exact RwC.up (by omega)
    · have h1 := z_f h1 c0zz
      have h2 := z_f h2 c0zz
      have c0zz := cv_nle (a := (n : Int)) (b := (izz : Int)) (by rw [hI.1.1]; exact en) evzz c0zz
      obtain ⟨z3, e3zz, h1⟩ := z_bd h1
      obtain ⟨w2zz, e2zz, h2⟩ := z_bd h2
      unfold f_X1_hasTradeOfLower at e3zz
      unfold f_X9_hasLike at e2zz
      have a1zz := lower_lp evzz (by omega) zfu 0 0 (by decide) (Nat.zero_le _) (fun qzz hq => absurd hq (by omega)) e3zz
      have a2 := like_lp evzz (by omega) zfu 0 0 0 (by decide) (Nat.zero_le _) (Or.inr ⟨rfl, fun qzz hq => absurd hq (by omega)⟩) e2zz
      have tx : (vzz + (1 : Int32)).toInt = ((izz + 1 : Nat) : Int) := Eq.trans (i32_add evzz (by decide : (1 : Int32).toInt = 1) (by omega) (by omega)) (by omega)
      have tr : ∀ qzz, qzz < 7 → gA mv 0 qzz = gA o 3 (8 + qzz) := fun qzz hq => (hMzz.1 qzz hq).1
      by_cases c1zz : w2zz = 0
      · have z30 : z3 = 0 := by
          rcases a1zz with ⟨-, qzz, hq, eq⟩ | ⟨uzz, -⟩
          · rcases a2 with ⟨uzz, -⟩ | ⟨-, uzz⟩
            · exact absurd c1zz uzz
            · exact absurd (by rw [← tr qzz (by omega), ← tr izz (by omega)]; exact eq) (uzz qzz hq)
          · exact uzz
        have h1 := z_t h1 z30
        have h2 := z_t h2 c1zz
        unfold bk_X1_passedYear_53 at h1
        unfold bk_X9_passIt_40 at h2
        obtain ⟨x1zz, q1zz, h1⟩ := z_lt h1
        obtain ⟨x2zz, q2zz, h2⟩ := z_lt h2
        have qx : x2zz = x1zz := q2zz.trans q1zz.symm
        rw [qx] at h2
        rw [← q1zz] at tx
        exact ihzz N' t x1zz mv mezz o (izz + 1) mzz tx (by omega) et (by omega) hL hI hMzz h20 en hy h1 h2
      · have z30 : ¬ z3 = 0 := by
          rcases a1zz with ⟨uzz, -⟩ | ⟨-, uzz⟩
          · exact uzz
          · rcases a2 with ⟨-, qzz, hq, eq⟩ | ⟨wzz, -⟩
            · exact absurd (by rw [tr qzz (by omega), tr izz (by omega)]; exact eq) (uzz qzz hq)
            · exact absurd wzz c1zz
        have h1 := z_f h1 z30
        have h2 := z_f h2 c1zz
        obtain ⟨z5, e5zz, h1⟩ := z_bd h1
        obtain ⟨w4zz, e4zz, h2⟩ := z_bd h2
        have hA : Asked pl lz isl mv o vzz 0 := ⟨hL, WtL.of hI hMzz, h20, ⟨izz, evzz, by rw [hI.1.1]; omega⟩, 0, by decide, by decide⟩
        obtain ⟨u1zz, u2zz⟩ := turns_eq hA e5zz e4zz
        have f4zz := fr_f_X9_turnsOf e4zz
        have h1 := (z_gd h1).2
        have h2 := (z_gd h2).2
        have ivzz : vzz.toNatClampNeg = izz := tnc_eq evzz
        have i8zz : ((8 : Int32) + vzz).toNatClampNeg = 8 + izz := tnc_eq (by rw [i32_add (by decide : (8 : Int32).toInt = 8) evzz (by omega) (by omega)]; omega)
        rw [ivzz, u1zz] at h1
        rw [i8zz] at h2
        obtain ⟨m7zz, g7, h1⟩ := z_lt h1
        obtain ⟨x8, q8zz, h1⟩ := z_lt h1
        obtain ⟨o6, k6zz, h2⟩ := z_lt h2
        obtain ⟨x7, q7zz, h2⟩ := z_lt h2
        have q78 : x7 = x8 := q7zz.trans q8zz.symm
        rw [q78] at h2
        unfold bk_X1_passedYear_53 at h1
        unfold bk_X9_passIt_40 at h2
        obtain ⟨x1zz, q1zz, h1⟩ := z_lt h1
        obtain ⟨x2zz, q2zz, h2⟩ := z_lt h2
        have qx : x2zz = x1zz := q2zz.trans q1zz.symm
        rw [qx] at h2
        rw [← q1zz] at tx
        have eG : gA o6 3 = upd (gA o 3) (8 + izz) w4zz.1 := by
          rw [k6zz]
          show upd (gA w4zz.2 3) (8 + izz) w4zz.1 = _
          rw [f4zz.A 3 rfl]
        have rw1 : RwC n (gA o 3) (gA o6 3) := by rw [eG]; exact RwC.up (by omega)
        have hM7 : TzM m7zz (gA o6 3) := by rw [g7, eG]; exact hMzz.trade (by omega) u2zz
        have e60 : gA o6 3 0 = gA o 3 0 := rw1 0 (by omega)
        have e64 : gA o6 3 4 = gA o 3 4 := by rw [eG, updA, if_neg (by omega)]
        obtain ⟨r1zz, r2, r3, r4⟩ := ihzz N' x8 x1zz m7zz z5.2 o6 (izz + 1) (mzz + 1) tx (by omega) (by rw [q8zz]; exact Eq.trans (i32_add et (by decide : (1 : Int32).toInt = 1) (by omega) (by omega)) (by omega)) (by omega) (hL.rw' rw1) (hI.rw' rw1) hM7 (by rw [k6zz]; exact (f4zz.I 20 rfl).trans h20) (by rw [e60]; exact en) (by rw [e64]; exact hy) h1 h2
        exact ⟨r1zz, r2, r3, rw1.tr r4⟩
set_option maxHeartbeats 200000 in
theorem pass_eq {czz isl mv mezz o : Ob} {pl : List CR} {n : Nat} {yzz : Int32 × Ob × Ob} {y' : Int32 × Ob} (hLW : ∀ zzz, f_X2_lawInForce isl = some zzz → LwP pl zzz (gA o 3) (gA o 3 3)) (hI : WiL isl (gA o 3)) (hMzz : TzM mv (gA o 3)) (h20 : gI o 20 = 0) (en : (gA o 3 0).toInt = (n : Int)) (hy : (gA o 3 4).toInt < 999) (h1 : f_X1_passedYear czz isl mv mezz pl = some yzz) (h2 : f_X9_passIt o = some y') : yzz.1 = y'.1 ∧ 0 ≤ y'.1.toInt ∧ TzM yzz.2.1 (gA y'.2 3) ∧ RwC n (gA o 3) (gA y'.2 3) := by
  unfold f_X1_passedYear at h1
  unfold f_X9_passIt at h2
  obtain ⟨lz, el, h1⟩ := z_bd h1
  exact pass_lp zfu zfu 0 0 mv mezz o 0 0 (by decide) (Nat.zero_le _) (by decide) (Nat.le_refl _) (hLW lz el) hI hMzz h20 en hy h1 h2
/-- an entry turned -/
theorem entr_eq {czz isl mv o o5zz : Ob} {pzz : Int32} {n Pzz : Nat} {yzz : Int32 × Ob} (hMzz : TzM mv (gA o 3)) (eP : pzz.toInt = (Pzz : Int)) (hP : Pzz < n) (hn : n ≤ 7) (h1 : f_X1_changedEntry czz isl mv pzz = some yzz) (e5zz : gA o5zz 3 = upd (gA o 3) (22 + Pzz) ((1 : Int32) - gA o 3 (22 + Pzz))) : yzz.1 = gA o5zz 3 (22 + Pzz) ∧ 0 ≤ (gA o5zz 3 (22 + Pzz)).toInt ∧ TzM yzz.2 (gA o5zz 3) ∧ RwC n (gA o 3) (gA o5zz 3) := by
  unfold f_X1_changedEntry at h1
  obtain ⟨m1zz, g1, h1⟩ := z_lt h1
  have h1 := Option.some.inj h1
  have ip : pzz.toNatClampNeg = Pzz := tnc_eq eP
  have btzz := bits_turn (Ezz := gI mv 2) hMzz.2.2.2.2.2 eP (by omega)
  have en : gA o 3 (22 + Pzz) = ((gI mv 2) >>> (pzz &&& 31)) &&& (1 : Int32) := by
    have wzz := hMzz.2.2.2.2.1 pzz (by omega) (by omega)
    rw [ip] at wzz; exact wzz
  have hM1 : TzM m1zz (gA o5zz 3) := by
    rw [g1, e5zz, en]
    exact hMzz.ent btzz.2 btzz.1 (by omega)
  have v1zz : ((gI m1zz 2) >>> (pzz &&& 31)) &&& (1 : Int32) = gA o5zz 3 (22 + Pzz) := by
    have wzz := hM1.2.2.2.2.1 pzz (by omega) (by omega)
    rw [ip] at wzz; exact wzz.symm
  rw [← h1]
  refine ⟨v1zz, ?_, hM1, by rw [e5zz]; exact RwC.up (by omega)⟩
  rw [← v1zz]
  exact (i32_and (x := (gI m1zz 2) >>> (pzz &&& 31)) (y := 1) (m := 1) (by decide)).1
set_option maxHeartbeats 200000 in
/-- the gap taken -/
theorem take_eq {czz isl mv o o' : Ob} {pzz : Int32} {n Pzz : Nat} {yzz : Int32 × Ob} (hMzz : TzM mv (gA o 3)) (eP : pzz.toInt = (Pzz : Int)) (hP : Pzz < n) (hn : n ≤ 7) (h1 : f_X1_takenGap czz isl mv pzz = some yzz) (h2 : f_X9_takeIt o pzz = some o') : yzz.1 = gA o 3 7 ∧ 0 ≤ (gA o 3 7).toInt ∧ TzM yzz.2 (gA o' 3) ∧ RwC n (gA o 3) (gA o' 3) := by
  have n7 : (7 : Int32).toNatClampNeg = 7 := by decide
  have i15 : ((15 : Int32) + pzz).toNatClampNeg = 15 + Pzz := tnc_eq (by rw [i32_add (by decide : (15 : Int32).toInt = 15) eP (by omega) (by omega)]; omega)
  unfold f_X1_takenGap at h1
  unfold f_X9_takeIt at h2
  rw [n7, i15] at h2
  obtain ⟨x1zz, q1zz, h1⟩ := z_lt h1
  obtain ⟨z2, e2zz, h1⟩ := z_bd h1
  obtain ⟨m3zz, g3zz, h1⟩ := z_lt h1
  have h1 := Option.some.inj h1
  have h2 := (z_gd h2).2
  obtain ⟨w2zz, k2zz, h2⟩ := z_bd h2
  have h2 := (z_gd h2).2
  obtain ⟨o4zz, k4zz, h2⟩ := z_lt h2
  obtain ⟨o5zz, k5zz, h2⟩ := z_lt h2
  have h2 := Option.some.inj h2
  have hg := hMzz.2.2.1
  have x7 : x1zz = gA o 3 7 := by rw [q1zz]; exact hg.1
  rw [x7] at e2zz
  have eG : gA o5zz 3 = upd (upd (gA o 3) (15 + Pzz) w2zz) 7 0 := by rw [k5zz, k4zz]; rfl
  have hM2 := hMzz.prize eP (by omega) ⟨hg.2.1, hg.2.2⟩ e2zz k2zz
  rw [← h1, ← h2]
  refine ⟨x7, hg.2.1, ?_, ?_⟩
  · show TzM m3zz (gA o5zz 3)
    rw [g3zz, eG]
    exact hM2.gap (by decide)
  · show RwC n (gA o 3) (gA o5zz 3)
    rw [eG]
    exact RwC.tr (RwC.up (azz := 15 + Pzz) (by omega)) (RwC.up (azz := 7) (by omega))
