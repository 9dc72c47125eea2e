-- who runs, placed: the class's lineUp, the reference's layPlaces
set_option maxHeartbeats 200000 in
/-- who entered -/
def EnT (mv : Ob) (Gzz : Nat → Int32) : Prop := ∀ pzz : Int32, 0 ≤ pzz.toInt → pzz.toInt < 7 → Gzz (22 + pzz.toNatClampNeg) = ((gI mv 2) >>> (pzz &&& 31)) &&& (1 : Int32)
def LUe (czz o : Ob) (n : Nat) (jzz : Nat) : Prop := gA czz 2 jzz = gA o 42 jzz ∧ 0 ≤ (gA czz 2 jzz).toInt ∧ (gA czz 2 jzz).toInt < (n : Int) ∧ gA czz 3 (gA czz 2 jzz).toNatClampNeg = gA o 41 (gA czz 2 jzz).toNatClampNeg
def LUt (czz o : Ob) (n kzz : Nat) : Prop := gI czz 4 = gI o 43 ∧ (gI czz 4).toInt = (kzz : Int) ∧ ∀ jzz, jzz < kzz → LUe czz o n jzz
set_option maxHeartbeats 200000 in
theorem LUe.of {czz o c' o' : Ob} {n jzz : Nat} (hzz : LUe czz o n jzz) (e2zz : gA c' 2 jzz = gA czz 2 jzz) (e2' : gA o' 42 jzz = gA o 42 jzz) (e3zz : gA c' 3 (gA czz 2 jzz).toNatClampNeg = gA o' 41 (gA czz 2 jzz).toNatClampNeg) : LUe c' o' n jzz := by
  unfold LUe
  rw [e2zz, e2']
  exact ⟨hzz.1, hzz.2.1, hzz.2.2.1, e3zz⟩
set_option maxHeartbeats 200000 in
theorem lin61 {isl mv : Ob} {pl : List CR} {rzz : Option Nat} {rc pzz : Int32} {Pzz n kzz : Nat} {rec7 : Option Nat × Int32 × Int32 × Ob × Ob → Option (Int32 × Ob × Ob)} {rec9 : Int32 × Int32 × Ob → Option Ob} {yzz : Int32 × Ob × Ob} {y' : Ob} {Qzz : Prop} {Gzz : Nat → Int32} (eP : pzz.toInt = (Pzz : Int)) (hP : Pzz < n) (hn7 : n ≤ 7) (hk : kzz < 7)
    (hrec : ∀ (xzz : Int32) (c' me' o' : Ob), xzz = pzz + 1 → LUt c' o' n (kzz + 1) → gA o' 3 = Gzz → gI o' 20 = 0 → rec7 (rzz, rc, xzz, c', me') = some yzz → rec9 (rc, xzz, o') = some y' → Qzz) :
    ∀ (Nzz N' : Nat) (vzz : Int32) (czz mezz o : Ob) (azz : Nat), vzz.toInt = (azz : Int) → azz ≤ kzz → gI czz 4 = gI o 43 → (gI czz 4).toInt = (kzz : Int) → (∀ jzz, jzz < kzz → LUe czz o n jzz) → (∀ jzz, azz < jzz → jzz ≤ kzz → LUe czz o n jzz) → gA czz 3 Pzz = gA o 41 Pzz → gA o 3 = Gzz → gI o 20 = 0 →
      lp_X1_lineUp_Q_61 isl mv pl rec7 Nzz (rzz, rc, pzz, vzz, czz, mezz) = some yzz → lp_X9_layPlaces_56 rec9 N' (rc, pzz, vzz, o) = some y' → Qzz := by
  intro Nzz
  induction Nzz with
  | zero => intro N' vzz czz mezz o azz _ _ _ _ _ _ _ _ _ h1; cases h1
  | succ Nzz ihzz =>
    intro N' vzz czz mezz o azz evzz hazz e4zz ek hlt hup hp hG h20 h1 h2
    cases N' with
    | zero => cases h2
    | succ N' =>
    have h1 : lb_X1_lineUp_Q_61 isl mv pl rec7 (lp_X1_lineUp_Q_61 isl mv pl rec7 Nzz) rzz rc pzz vzz czz mezz = some yzz := h1
    have h2 : lb_X9_layPlaces_56 rec9 (lp_X9_layPlaces_56 rec9 N') rc pzz vzz o = some y' := h2
    have iP : pzz.toNatClampNeg = Pzz := tnc_eq eP
    have ivzz : vzz.toNatClampNeg = azz := tnc_eq evzz
    have finzz : bk_X1_lineUp_Q_111 isl mv pl rec7 rzz rc pzz vzz czz mezz = some yzz → bk_X9_layPlaces_102 rec9 rc pzz vzz o = some y' → Qzz := by
      intro h1 h2
      unfold bk_X1_lineUp_Q_111 at h1
      unfold bk_X9_layPlaces_102 at h2
      rw [ivzz] at h1 h2
      have h1 := (z_gd h1).2
      have h2 := (z_gd h2).2
      obtain ⟨c1zz, f1zz, h1⟩ := z_lt h1
      obtain ⟨c2zz, f2zz, h1⟩ := z_lt h1
      obtain ⟨o1, g1, h2⟩ := z_lt h2
      obtain ⟨o2, g2, h2⟩ := z_lt h2
      unfold bk_X1_lineUp_Q_129 at h1
      unfold bk_X9_layPlaces_119 at h2
      obtain ⟨x1zz, q1zz, h1⟩ := z_lt h1
      obtain ⟨x2zz, q2zz, h2⟩ := z_lt h2
      have qx : x2zz = x1zz := q2zz.trans q1zz.symm
      rw [qx] at h2
      have A2 : ∀ jzz, gA c2zz 2 jzz = if jzz = azz then pzz else gA czz 2 jzz := fun jzz => by rw [f2zz, f1zz]; rfl
      have A3 : gA c2zz 3 = gA czz 3 := by rw [f2zz, f1zz]; rfl
      have A4 : gI c2zz 4 = gI czz 4 + 1 := by rw [f2zz, f1zz]; rfl
      have B2 : ∀ jzz, gA o2 42 jzz = if jzz = azz then pzz else gA o 42 jzz := fun jzz => by rw [g2, g1]; rfl
      have B3 : gA o2 41 = gA o 41 := by rw [g2, g1]; rfl
      have B4 : gI o2 43 = gI o 43 + 1 := by rw [g2, g1]; rfl
      refine hrec x1zz c2zz mezz o2 q1zz ⟨by rw [A4, B4, e4zz], ?_, fun jzz hj => ?_⟩ (by rw [g2, g1]; exact hG) (by rw [g2, g1]; exact h20) h1 h2
      · rw [A4]
        exact Eq.trans (i32_add ek (by decide : (1 : Int32).toInt = 1) (by omega) (by omega)) (by omega)
      · by_cases qa : jzz = azz
        · unfold LUe
          rw [A2, B2, if_pos qa, if_pos qa, A3, B3, iP]
          exact ⟨rfl, by omega, by omega, hp⟩
        · have hj' : LUe czz o n jzz := by
            by_cases qk : jzz < kzz
            · exact hlt jzz qk
            · exact hup jzz (by omega) (by omega)
          exact hj'.of (by rw [A2, if_neg qa]) (by rw [B2, if_neg qa]) (by rw [A3, B3]; exact hj'.2.2.2)
    unfold lb_X1_lineUp_Q_61 at h1
    unfold lb_X9_layPlaces_56 at h2
    by_cases c0zz : vzz ≤ 0
    · exact finzz (z_t h1 c0zz) (z_t h2 c0zz)
    · have h1 := z_f h1 c0zz
      have h2 := z_f h2 c0zz
      have c0zz := cv_nle (a := (azz : Int)) (b := 0) evzz (by decide) c0zz
      obtain ⟨bzz, eb⟩ : ∃ bzz, azz = bzz + 1 := ⟨azz - 1, by omega⟩
      subst eb
      have tbzz : (vzz - (1 : Int32)).toInt = (bzz : Int) := Eq.trans (i32_sub evzz (by decide : (1 : Int32).toInt = 1) (by omega) (by omega)) (by omega)
      have ib : (vzz - (1 : Int32)).toNatClampNeg = bzz := tnc_eq tbzz
      rw [ib, iP, ivzz] at h1 h2
      have h1 := (z_gd (z_gd (z_gd h1).2).2).2
      have h2 := (z_gd (z_gd (z_gd h2).2).2).2
      have hbzz := hlt bzz (by omega)
      rw [← hbzz.1, ← hbzz.2.2.2, ← hp] at h2
      by_cases c1zz : gA czz 3 Pzz ≤ gA czz 3 (gA czz 2 bzz).toNatClampNeg
      · exact finzz (z_t h1 c1zz) (z_t h2 c1zz)
      · have h1 := (z_gd (z_gd (z_f h1 c1zz)).2).2
        have h2 := (z_gd (z_gd (z_f h2 c1zz)).2).2
        obtain ⟨c1', f1zz, h1⟩ := z_lt h1
        obtain ⟨x1zz, q1zz, h1⟩ := z_lt h1
        obtain ⟨o1, g1, h2⟩ := z_lt h2
        obtain ⟨x2zz, q2zz, h2⟩ := z_lt h2
        have qx : x2zz = x1zz := q2zz.trans q1zz.symm
        rw [qx] at h2
        have A2 : ∀ jzz, gA c1' 2 jzz = if jzz = bzz + 1 then gA czz 2 bzz else gA czz 2 jzz := fun jzz => by rw [f1zz]; rfl
        have A3 : gA c1' 3 = gA czz 3 := by rw [f1zz]; rfl
        have B2 : ∀ jzz, gA o1 42 jzz = if jzz = bzz + 1 then gA czz 2 bzz else gA o 42 jzz := fun jzz => by rw [g1]; rfl
        have B3 : gA o1 41 = gA o 41 := by rw [g1]; rfl
        have step : ∀ jzz, (jzz = bzz + 1 ∨ LUe czz o n jzz) → LUe c1' o1 n jzz := by
          intro jzz hj
          by_cases qa : jzz = bzz + 1
          · unfold LUe
            rw [A2, B2, if_pos qa, if_pos qa, A3, B3]
            exact ⟨rfl, hbzz.2.1, hbzz.2.2.1, hbzz.2.2.2⟩
          · rcases hj with hj | hj
            · exact absurd hj qa
            · exact hj.of (by rw [A2, if_neg qa]) (by rw [B2, if_neg qa]) (by rw [A3, B3]; exact hj.2.2.2)
        refine ihzz N' x1zz c1' mezz o1 bzz ?_ (by omega) (by rw [f1zz, g1]; exact e4zz) (by rw [f1zz]; exact ek) (fun jzz hj => step jzz (Or.inr (hlt jzz hj))) (fun jzz h1 h2 => step jzz ?_) (by rw [A3, B3]; exact hp) (by rw [g1]; exact hG) (by rw [g1]; exact h20) h1 h2
        · rw [q1zz]
          exact Eq.trans (i32_add evzz (by decide : (-1 : Int32).toInt = -1) (by omega) (by omega)) (by omega)
        · by_cases qa : jzz = bzz + 1
          · exact Or.inl qa
          · exact Or.inr (hup jzz (by omega) h2)
set_option maxHeartbeats 200000 in
theorem lin7 {isl mv : Ob} {pl : List CR} {rzz : Option Nat} {rc : Int32} {Gzz : Nat → Int32} {n R : Nat} {yzz : Int32 × Ob × Ob} {y' : Ob} (hL : LwP pl rzz Gzz (Gzz 3)) (hw : WtL isl mv Gzz) (hE : EnT mv Gzz) (en : (Gzz 0).toInt = (n : Int)) (eR : rc.toInt = (R : Int)) (hR : R < 4) :
    ∀ (Nzz N' : Nat) (vzz : Int32) (czz mezz o : Ob) (izz kzz : Nat), vzz.toInt = (izz : Int) → izz ≤ n → kzz ≤ izz → gA o 3 = Gzz → gI o 20 = 0 → LUt czz o n kzz → lp_X1_lineUp_Q_7 isl mv pl Nzz (rzz, rc, vzz, czz, mezz) = some yzz → lp_X9_layPlaces_7 N' (rc, vzz, o) = some y' → ∃ k', k' ≤ n ∧ LUt yzz.2.1 y' n k' ∧ yzz.1 = gI yzz.2.1 4 := by
  have hn7 : n ≤ 7 := by have := hw.1.2.2; omega
  intro Nzz
  induction Nzz with
  | zero => intro N' vzz czz mezz o izz kzz _ _ _ _ _ _ h1; cases h1
  | succ Nzz ihzz =>
    intro N' vzz czz mezz o izz kzz evzz hizz hki hG h20 hTzz h1 h2
    cases N' with
    | zero => cases h2
    | succ N' =>
    have h1 : lb_X1_lineUp_Q_7 isl mv pl (lp_X1_lineUp_Q_7 isl mv pl Nzz) rzz rc vzz czz mezz = some yzz := h1
    have h2 : lb_X9_layPlaces_7 (lp_X9_layPlaces_7 N') rc vzz o = some y' := h2
    unfold lb_X1_lineUp_Q_7 at h1
    unfold lb_X9_layPlaces_7 at h2
    have n0zz : (0 : Int32).toNatClampNeg = 0 := by decide
    rw [n0zz, hG, ← hw.1.1] at h2
    by_cases c0zz : gI isl 7 ≤ vzz
    · have h1 := Option.some.inj (z_t h1 c0zz)
      have h2 := Option.some.inj (z_t h2 c0zz)
      rw [← h1, ← h2]
      exact ⟨kzz, by omega, hTzz, rfl⟩
    · have h1 := z_f h1 c0zz
      have h2 := z_f h2 c0zz
      have c0zz := cv_nle (a := (n : Int)) (b := (izz : Int)) (by rw [hw.1.1]; exact en) evzz c0zz
      have i22 : ((22 : Int32) + vzz).toNatClampNeg = 22 + izz := tnc_eq (by rw [i32_add (by decide : (22 : Int32).toInt = 22) evzz (by omega) (by omega)]; omega)
      have ivzz : vzz.toNatClampNeg = izz := tnc_eq evzz
      have h2 := (z_gd h2).2
      have hen := hE vzz (by omega) (by omega)
      rw [ivzz] at hen
      rw [i22, hen] at h2
      obtain ⟨z2, e2zz, h1⟩ := z_bd h1
      unfold f_X4_isIn at e2zz
      -- the next one
      have nxtzz : ∀ (c' me' o' : Ob), gA o' 3 = Gzz → gI o' 20 = 0 → LUt c' o' n kzz → bk_X1_lineUp_Q_129 isl mv pl (lp_X1_lineUp_Q_7 isl mv pl Nzz) rzz rc vzz c' me' = some yzz → bk_X9_layPlaces_119 (lp_X9_layPlaces_7 N') rc vzz o' = some y' → ∃ k', k' ≤ n ∧ LUt yzz.2.1 y' n k' ∧ yzz.1 = gI yzz.2.1 4 := by
        intro c' me' o' hG' h20' hT' h1 h2
        unfold bk_X1_lineUp_Q_129 at h1
        unfold bk_X9_layPlaces_119 at h2
        obtain ⟨x1zz, q1zz, h1⟩ := z_lt h1
        obtain ⟨x2zz, q2zz, h2⟩ := z_lt h2
        have qx : x2zz = x1zz := q2zz.trans q1zz.symm
        rw [qx] at h2
        exact ihzz N' x1zz c' me' o' (izz + 1) kzz (by rw [q1zz]; exact Eq.trans (i32_add evzz (by decide : (1 : Int32).toInt = 1) (by omega) (by omega)) (by omega)) (by omega) (by omega) hG' h20' hT' h1 h2
      by_cases c1zz : ((gI mv 2) >>> (vzz &&& 31)) &&& (1 : Int32) = 1
      · have e2zz := Option.some.inj (z_t e2zz c1zz)
        have h1 := z_f h1 (by rw [← e2zz]; decide)
        have h2 := z_t h2 c1zz
        obtain ⟨z4, e4zz, h1⟩ := z_bd h1
        obtain ⟨w4zz, e4', h2⟩ := z_bd h2
        have hA : ∀ o' : Ob, gA o' 3 = Gzz → gI o' 20 = 0 → Asked pl rzz isl mv o' vzz rc := fun o' g1 g2 => ⟨by rw [g1]; exact hL, by rw [g1]; exact hw, g2, ⟨izz, evzz, by rw [hw.1.1]; omega⟩, R, eR, hR⟩
        have eb := barred_eq (hA o hG h20) e4zz e4'
        have f4zz := fr_f_X9_isBarred e4'
        have hG4 : gA w4zz.2 3 = Gzz := (f4zz.A 3 rfl).trans hG
        have h24 : gI w4zz.2 20 = 0 := (f4zz.I 20 rfl).trans h20
        have hT4 : LUt czz w4zz.2 n kzz := by
          refine ⟨hTzz.1.trans (f4zz.I 43 rfl).symm, hTzz.2.1, fun jzz hj => ?_⟩
          have hj := hTzz.2.2 jzz hj
          exact hj.of rfl (by rw [f4zz.A 42 rfl]) (by rw [f4zz.A 41 rfl]; exact hj.2.2.2)
        rw [eb] at h1
        by_cases c2zz : w4zz.1 = 0
        · have h1 := z_t h1 c2zz
          have h2 := z_t h2 c2zz
          obtain ⟨z5, e5zz, h1⟩ := z_bd h1
          obtain ⟨w5, e5', h2⟩ := z_bd h2
          have er := runs_eq (hA w4zz.2 hG4 h24) e5zz e5'
          have f5zz := fr_f_X9_runsOf e5'
          have h1 := (z_gd h1).2
          have h2 := (z_gd h2).2
          rw [ivzz] at h1 h2
          obtain ⟨c7zz, g7, h1⟩ := z_lt h1
          obtain ⟨x8, g8, h1⟩ := z_lt h1
          obtain ⟨o7, k7zz, h2⟩ := z_lt h2
          obtain ⟨x9, k9, h2⟩ := z_lt h2
          have A4 : gI c7zz 4 = gI czz 4 := by rw [g7]; rfl
          have B4 : gI o7 43 = gI w4zz.2 43 := by rw [k7zz]; exact f5zz.I 43 rfl
          have A2 : gA c7zz 2 = gA czz 2 := by rw [g7]; rfl
          have B2 : gA o7 42 = gA w4zz.2 42 := by rw [k7zz]; exact f5zz.A 42 rfl
          have A3 : ∀ jzz, gA c7zz 3 jzz = if jzz = izz then w5.1 else gA czz 3 jzz := fun jzz => by rw [g7, er]; rfl
          have B3 : ∀ jzz, gA o7 41 jzz = if jzz = izz then w5.1 else gA w4zz.2 41 jzz := fun jzz => by
            rw [k7zz]
            show (if jzz = izz then w5.1 else gA w5.2 41 jzz) = _
            rw [f5zz.A 41 rfl]
          have E7 : ∀ jzz, jzz < kzz → LUe c7zz o7 n jzz := by
            intro jzz hj
            have hj := hT4.2.2 jzz hj
            refine hj.of (by rw [A2]) (by rw [B2]) ?_
            rw [A3, B3]
            by_cases qi : (gA czz 2 jzz).toNatClampNeg = izz
            · rw [if_pos qi, if_pos qi]
            · rw [if_neg qi, if_neg qi]; exact hj.2.2.2
          have x98 : x9 = x8 := by rw [k9, g8, A4, B4]; exact hT4.1.symm
          rw [x98] at h2
          have t8 : x8.toInt = (kzz : Int) := by rw [g8, A4]; exact hT4.2.1
          refine lin61 (Gzz := Gzz) (kzz := kzz) evzz (by omega) hn7 (by omega) (fun xzz c' me' o' exzz hT' hG' h20' h1 h2 => ?_) zfu zfu x8 c7zz z5.2 o7 kzz t8 (Nat.le_refl _) (by rw [A4, B4]; exact hT4.1) (by rw [A4]; exact hT4.2.1) E7 (fun jzz h1 h2 => absurd h1 (by omega)) (by rw [A3, B3, if_pos rfl, if_pos rfl]) (by rw [k7zz]; exact (f5zz.A 3 rfl).trans hG4) (by rw [k7zz]; exact (f5zz.I 20 rfl).trans h24) h1 h2
          exact ihzz N' xzz c' me' o' (izz + 1) (kzz + 1) (by rw [exzz]; exact Eq.trans (i32_add evzz (by decide : (1 : Int32).toInt = 1) (by omega) (by omega)) (by omega)) (by omega) (by omega) hG' h20' hT' h1 h2
        · exact nxtzz czz z4.2 w4zz.2 hG4 h24 hT4 (z_f h1 c2zz) (z_f h2 c2zz)
      · have e2zz := Option.some.inj (z_f e2zz c1zz)
        exact nxtzz czz mezz o hG h20 hTzz (z_t h1 e2zz.symm) (z_f h2 c1zz)
/-- both line up alike -/
theorem line_eq {isl mv : Ob} {pl : List CR} {rzz : Option Nat} {czz mezz o : Ob} {rc : Int32} {n R : Nat} {yzz : Int32 × Ob × Ob} {y' : Ob} (hL : LwP pl rzz (gA o 3) (gA o 3 3)) (hw : WtL isl mv (gA o 3)) (hE : EnT mv (gA o 3)) (h20 : gI o 20 = 0) (en : (gA o 3 0).toInt = (n : Int)) (eR : rc.toInt = (R : Int)) (hR : R < 4) (h1 : f_X1_lineUp_Q czz isl mv mezz pl rzz rc = some yzz) (h2 : f_X9_layPlaces o rc = some y') : ∃ kzz, kzz ≤ n ∧ LUt yzz.2.1 y' n kzz ∧ yzz.1 = gI yzz.2.1 4 := by
  unfold f_X1_lineUp_Q at h1
  unfold f_X9_layPlaces at h2
  obtain ⟨c1zz, f1zz, h1⟩ := z_lt h1
  obtain ⟨o1, g1, h2⟩ := z_lt h2
  exact lin7 hL hw hE en eR hR zfu zfu 0 c1zz mezz o1 0 0 (by decide) (Nat.zero_le _) (Nat.le_refl _) (by rw [g1]; rfl) (by rw [g1]; exact h20) ⟨by rw [f1zz, g1]; rfl, by rw [f1zz]; exact (by decide : (0 : Int32).toInt = ((0 : Nat) : Int)), fun jzz hj => absurd hj (by omega)⟩ h1 h2
