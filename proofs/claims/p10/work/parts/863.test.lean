-- the reference's pile: what is settled
def bnd (op : Int32) : Int32 := if op < 31 then (if op = 30 then 1 else if op = 29 then 2 else if op = 28 then 3 else if op < 25 then (if op < 22 then 5 else 6) else 4) else 0
set_option maxHeartbeats 200000 in
theorem bnd_eq {op zzz : Int32} (hzz : f_X9_binds op = some zzz) : zzz = bnd op := by
  unfold f_X9_binds at hzz
  unfold bnd
  by_cases c1zz : op < (31 : Int32)
  · have hzz := z_t hzz c1zz
    rw [if_pos c1zz]
    by_cases c2zz : op = (30 : Int32)
    · rw [if_pos c2zz]; exact (Option.some.inj (z_t hzz c2zz)).symm
    · have hzz := z_f hzz c2zz
      rw [if_neg c2zz]
      by_cases c3zz : op = (29 : Int32)
      · rw [if_pos c3zz]; exact (Option.some.inj (z_t hzz c3zz)).symm
      · have hzz := z_f hzz c3zz
        rw [if_neg c3zz]
        by_cases c4zz : op = (28 : Int32)
        · rw [if_pos c4zz]; exact (Option.some.inj (z_t hzz c4zz)).symm
        · have hzz := z_f hzz c4zz
          rw [if_neg c4zz]
          by_cases c5zz : op < (25 : Int32)
          · have hzz := z_t hzz c5zz
            rw [if_pos c5zz]
            by_cases c6zz : op < (22 : Int32)
            · rw [if_pos c6zz]; exact (Option.some.inj (z_t hzz c6zz)).symm
            · rw [if_neg c6zz]; exact (Option.some.inj (z_f hzz c6zz)).symm
          · rw [if_neg c5zz]; exact (Option.some.inj (z_f hzz c5zz)).symm
  · rw [if_neg c1zz]; exact (Option.some.inj (z_f hzz c1zz)).symm
-- what settling leaves: all but the code, its length, the pile's height
def FP (o o' : Ob) : Prop := (∀ izz, izz ≠ 23 → izz ≠ 29 → gI o' izz = gI o izz) ∧ o'.2.1 = o.2.1 ∧ (∀ izz, izz ≠ 24 → izz ≠ 25 → gA o' izz = gA o izz) ∧ o'.2.2.2 = o.2.2.2
set_option maxHeartbeats 200000 in
theorem FP.rf {o : Ob} : FP o o := ⟨fun _ _ _ => rfl, rfl, fun _ _ _ => rfl, rfl⟩
set_option maxHeartbeats 200000 in
theorem FP.tr {o o' o'' : Ob} (hzz : FP o o') (h' : FP o' o'') : FP o o'' := ⟨fun izz azz bzz => (h'.1 izz azz bzz).trans (hzz.1 izz azz bzz), h'.2.1.trans hzz.2.1, fun izz azz bzz => (h'.2.2.1 izz azz bzz).trans (hzz.2.2.1 izz azz bzz), h'.2.2.2.trans hzz.2.2.2⟩
-- the code below a place stays
def ckp (kzz : Nat) (o o' : Ob) : Prop := ∀ jzz, jzz < kzz → gA o' 24 jzz = gA o 24 jzz ∧ gA o' 25 jzz = gA o 25 jzz
set_option maxHeartbeats 200000 in
theorem ckp.rf {kzz : Nat} {o : Ob} : ckp kzz o o := fun _ _ => ⟨rfl, rfl⟩
set_option maxHeartbeats 200000 in
theorem ckp.tr {kzz : Nat} {o o' o'' : Ob} (hzz : ckp kzz o o') (h' : ckp kzz o' o'') : ckp kzz o o'' := fun jzz hj => ⟨(h' jzz hj).1.trans (hzz jzz hj).1, (h' jzz hj).2.trans (hzz jzz hj).2⟩
set_option maxHeartbeats 200000 in
theorem ckp.le {kzz k' : Nat} {o o' : Ob} (hzz : ckp kzz o o') (hk : k' ≤ kzz) : ckp k' o o' := fun jzz hj => hzz jzz (by omega)
set_option maxHeartbeats 200000 in
theorem emit9 {o o' : Ob} {p0zz p1zz : Int32} {czz : Nat} (ec : (gI o 23).toInt = (czz : Int)) (hczz : czz ≤ 400) (hzz : f_X9_emit o p0zz p1zz = some o') : FP o o' ∧ ckp czz o o' ∧ (gI o' 23).toInt = (czz : Int) + 1 ∧ gI o' 29 = gI o 29 ∧ gA o' 24 czz = p0zz ∧ gA o' 25 czz = p1zz ∧ czz < 400 := by
  unfold f_X9_emit at hzz
  obtain ⟨gzz, hzz⟩ := z_gd hzz
  obtain ⟨o2, e2zz, hzz⟩ := z_lt hzz
  obtain ⟨-, hzz⟩ := z_gd hzz
  obtain ⟨o4zz, e4zz, hzz⟩ := z_lt hzz
  obtain ⟨o5zz, e5zz, hzz⟩ := z_lt hzz
  have gk := (of_decide_eq_true gzz).2
  have ic : (gI o 23).toNatClampNeg = czz := tnc_eq ec
  have k2zz : gI o2 23 = gI o 23 := by rw [e2zz]; rfl
  rw [ic] at e2zz
  rw [k2zz, ic] at e4zz
  rw [← Option.some.inj hzz]
  have k23 : gI o5zz 23 = gI o 23 + 1 := by rw [e5zz, e4zz, e2zz]; rfl
  refine ⟨⟨fun izz azz bzz => ?_, by rw [e5zz, e4zz, e2zz]; rfl, fun izz azz bzz => ?_, by rw [e5zz, e4zz, e2zz]; rfl⟩, fun jzz hj => ⟨?_, ?_⟩, ?_, by rw [e5zz, e4zz, e2zz]; rfl, ?_, ?_, by omega⟩
  · rw [e5zz]; exact (fset_ne azz).trans (by rw [e4zz, e2zz]; rfl)
  · rw [e5zz, e4zz, e2zz]
    have w1zz : gA (tA (tA o 24 czz p0zz) 25 czz p1zz) izz = gA (tA o 24 czz p0zz) izz := fset_ne (f := fun izz => gA (tA o 24 czz p0zz) izz) bzz
    have w2zz : gA (tA o 24 czz p0zz) izz = gA o izz := fset_ne (f := fun izz => gA o izz) azz
    exact w1zz.trans w2zz
  · rw [e5zz, e4zz, e2zz]; exact if_neg (show ¬ jzz = czz by omega)
  · rw [e5zz, e4zz, e2zz]; exact if_neg (show ¬ jzz = czz by omega)
  · rw [k23]; exact i32_add ec (by decide) (by omega) (by omega)
  · rw [e5zz, e4zz, e2zz]; exact if_pos rfl
  · rw [e5zz, e4zz]; exact if_pos rfl
set_option maxHeartbeats 200000 in
theorem st_stop {Nzz : Nat} {lv : Int32} {o yzz : Ob} {bzz : Nat} (eb : (gI o 29).toInt = (bzz : Int)) (hbzz : bzz ≤ 400) (hs : bzz = 0 ∨ (bnd (gA o 27 (bzz - 1))).toInt < lv.toInt) (hzz : lp_X9_settle_0 Nzz (lv, o) = some yzz) : yzz = o := by
  cases Nzz with
  | zero => cases hzz
  | succ Nzz =>
  have hzz : lb_X9_settle_0 (lp_X9_settle_0 Nzz) lv o = some yzz := hzz
  unfold lb_X9_settle_0 at hzz
  by_cases czz : gI o 29 ≤ (0 : Int32)
  · exact (Option.some.inj (z_t hzz czz)).symm
  · have d := cv_nle (a := (bzz : Int)) (b := 0) eb (by decide) czz
    obtain ⟨-, hzz⟩ := z_gd (z_f hzz czz)
    obtain ⟨z2, ez, hzz⟩ := z_bd hzz
    have t : (gI o 29 - (1 : Int32)).toInt = (bzz : Int) - 1 := i32_sub eb (by decide) (by omega) (by omega)
    have izz : (gI o 29 - (1 : Int32)).toNatClampNeg = bzz - 1 := tnc_eq (by omega)
    rw [izz] at ez
    have ezz := bnd_eq ez
    rcases hs with qzz | qzz
    · omega
    · exact (Option.some.inj (z_t hzz (Int32.lt_iff_toInt_lt.mpr (by rw [ezz]; exact qzz)))).symm
set_option maxHeartbeats 200000 in
theorem st_op {Nzz : Nat} {lv : Int32} {o yzz : Ob} {bzz czz : Nat} (eb : (gI o 29).toInt = (bzz : Int) + 1) (hbzz : bzz < 400) (ec : (gI o 23).toInt = (czz : Int)) (hczz : czz ≤ 400) (hop : ¬ gA o 27 bzz = 29 ∧ ¬ gA o 27 bzz = 30) (hl : lv.toInt ≤ (bnd (gA o 27 bzz)).toInt) (hzz : lp_X9_settle_0 Nzz (lv, o) = some yzz) :
    ∃ (N' : Nat) (o' : Ob), lp_X9_settle_0 N' (lv, o') = some yzz ∧ FP o o' ∧ ckp czz o o' ∧ (gI o' 23).toInt = (czz : Int) + 1 ∧ (gI o' 29).toInt = (bzz : Int) ∧ gA o' 24 czz = gA o 27 bzz ∧ gA o' 25 czz = 0 ∧ czz < 400 := by
  cases Nzz with
  | zero => cases hzz
  | succ Nzz =>
  have hzz : lb_X9_settle_0 (lp_X9_settle_0 Nzz) lv o = some yzz := hzz
  unfold lb_X9_settle_0 at hzz
  have t : (gI o 29 - (1 : Int32)).toInt = (bzz : Int) + 1 - 1 := i32_sub eb (by decide) (by omega) (by omega)
  have izz : (gI o 29 - (1 : Int32)).toNatClampNeg = bzz := tnc_eq (by omega)
  have hzz := z_f hzz (fun qzz => by have qzz := cv_le (a := (bzz : Int) + 1) (b := 0) eb (by decide) qzz; omega)
  obtain ⟨-, hzz⟩ := z_gd hzz
  obtain ⟨z2, ez, hzz⟩ := z_bd hzz
  rw [izz] at ez
  have ezz := bnd_eq ez
  have hzz := z_f hzz (fun qzz => by have qzz := cv_lt (a := (bnd (gA o 27 bzz)).toInt) (b := lv.toInt) (by rw [ezz]) rfl qzz; omega)
  obtain ⟨o3zz, e3zz, hzz⟩ := z_lt hzz
  have k29 : gI o3zz 29 = gI o 29 - 1 := by rw [e3zz]; rfl
  have kAzz : gA o3zz 27 = gA o 27 := by rw [e3zz]; rfl
  rw [k29, izz, kAzz] at hzz
  obtain ⟨-, hzz⟩ := z_gd hzz
  have hzz := z_f hzz hop.1
  obtain ⟨-, hzz⟩ := z_gd hzz
  have hzz := z_f hzz hop.2
  obtain ⟨-, hzz⟩ := z_gd hzz
  obtain ⟨z10, ez10, hzz⟩ := z_bd hzz
  have f3zz : FP o o3zz := by rw [e3zz]; exact ⟨fun izz azz bzz => fset_ne bzz, rfl, fun _ _ _ => rfl, rfl⟩
  obtain ⟨g1, g2, g3zz, g4, g5zz, g6, g7⟩ := emit9 (czz := czz) (by rw [e3zz]; exact ec) hczz ez10
  exact ⟨Nzz, z10, hzz, f3zz.tr g1, ckp.tr (by rw [e3zz]; exact ckp.rf) g2, g3zz, by rw [g4, k29, t]; omega, g5zz, g6, g7⟩
set_option maxHeartbeats 200000 in
theorem st_ao {Nzz : Nat} {lv : Int32} {o yzz : Ob} {bzz czz azz : Nat} (eb : (gI o 29).toInt = (bzz : Int) + 1) (hbzz : bzz < 400) (hop : gA o 27 bzz = 29 ∨ gA o 27 bzz = 30) (ea : (gA o 28 bzz).toInt = (azz : Int)) (hl : lv.toInt ≤ (bnd (gA o 27 bzz)).toInt) (hzz : lp_X9_settle_0 Nzz (lv, o) = some yzz) :
    ∃ (N' : Nat) (o' : Ob), lp_X9_settle_0 N' (lv, o') = some yzz ∧ FP o o' ∧ gI o' 23 = gI o 23 ∧ (gI o' 29).toInt = (bzz : Int) ∧ gA o' 24 = gA o 24 ∧ ∀ jzz, gA o' 25 jzz = if jzz = azz then gI o 23 else gA o 25 jzz := by
  cases Nzz with
  | zero => cases hzz
  | succ Nzz =>
  have hzz : lb_X9_settle_0 (lp_X9_settle_0 Nzz) lv o = some yzz := hzz
  unfold lb_X9_settle_0 at hzz
  have t : (gI o 29 - (1 : Int32)).toInt = (bzz : Int) + 1 - 1 := i32_sub eb (by decide) (by omega) (by omega)
  have izz : (gI o 29 - (1 : Int32)).toNatClampNeg = bzz := tnc_eq (by omega)
  have hzz := z_f hzz (fun qzz => by have qzz := cv_le (a := (bzz : Int) + 1) (b := 0) eb (by decide) qzz; omega)
  obtain ⟨-, hzz⟩ := z_gd hzz
  obtain ⟨z2, ez, hzz⟩ := z_bd hzz
  rw [izz] at ez
  have ezz := bnd_eq ez
  have hzz := z_f hzz (fun qzz => by have qzz := cv_lt (a := (bnd (gA o 27 bzz)).toInt) (b := lv.toInt) (by rw [ezz]) rfl qzz; omega)
  obtain ⟨o3zz, e3zz, hzz⟩ := z_lt hzz
  have k29 : gI o3zz 29 = gI o 29 - 1 := by rw [e3zz]; rfl
  have kAzz : gA o3zz 27 = gA o 27 := by rw [e3zz]; rfl
  have kBzz : gA o3zz 28 = gA o 28 := by rw [e3zz]; rfl
  have k23 : gI o3zz 23 = gI o 23 := by rw [e3zz]; rfl
  have f3zz : FP o o3zz := by rw [e3zz]; exact ⟨fun izz azz bzz => fset_ne bzz, rfl, fun _ _ _ => rfl, rfl⟩
  have ia : (gA o 28 bzz).toNatClampNeg = azz := tnc_eq ea
  have h63 : bk_X9_settle_63 (lp_X9_settle_0 Nzz) lv o3zz = some yzz → ∃ (N' : Nat) (o' : Ob), lp_X9_settle_0 N' (lv, o') = some yzz ∧ FP o o' ∧ gI o' 23 = gI o 23 ∧ (gI o' 29).toInt = (bzz : Int) ∧ gA o' 24 = gA o 24 ∧ ∀ jzz, gA o' 25 jzz = if jzz = azz then gI o 23 else gA o 25 jzz := by
    intro hzz
    unfold bk_X9_settle_63 at hzz
    obtain ⟨-, hzz⟩ := z_gd hzz
    obtain ⟨-, hzz⟩ := z_gd hzz
    obtain ⟨o7, e7zz, hzz⟩ := z_lt hzz
    rw [k29, izz, kBzz, ia, k23] at e7zz
    refine ⟨Nzz, o7, hzz, f3zz.tr ?_, by rw [e7zz]; exact k23, by rw [e7zz]; show (gI o3zz 29).toInt = _; rw [k29, t]; omega, by rw [e7zz, e3zz]; rfl, fun jzz => by rw [e7zz, e3zz]; rfl⟩
    rw [e7zz]
    exact ⟨fun _ _ _ => rfl, rfl, fun izz _ bzz => fset_ne (f := fun izz => gA o3zz izz) bzz, rfl⟩
  rw [k29, izz, kAzz] at hzz
  obtain ⟨-, hzz⟩ := z_gd hzz
  by_cases c29zz : gA o 27 bzz = 29
  · exact h63 (z_t hzz c29zz)
  · obtain ⟨-, hzz⟩ := z_gd (z_f hzz c29zz)
    rcases hop with qzz | qzz
    · exact absurd qzz c29zz
    · exact h63 (z_t hzz qzz)
set_option maxHeartbeats 200000 in
/-- settling down to a level goes through a state where the pile is cut to b and R holds; also where only tokens were read since -/
def PEs (L : Int) (o : Ob) (bzz : Nat) (R : Ob → Prop) : Prop := ∀ o' : Ob, FR9 o o' → ∀ (Nzz : Nat) (lv : Int32) (yzz : Ob), 1 ≤ lv.toInt → lv.toInt ≤ L → lp_X9_settle_0 Nzz (lv, o') = some yzz → ∃ (N' : Nat) (o3zz : Ob), lp_X9_settle_0 N' (lv, o3zz) = some yzz ∧ (gI o3zz 29).toInt = (bzz : Int) ∧ FP o' o3zz ∧ R o3zz
set_option maxHeartbeats 200000 in
theorem PEs.none {L : Int} {o : Ob} {bzz : Nat} {R : Ob → Prop} (eb : (gI o 29).toInt = (bzz : Int)) (hzz : ∀ o', FR9 o o' → R o') : PEs L o bzz R := fun o' fzz Nzz lv yzz _ _ hy => ⟨Nzz, o', hy, by rw [fzz.1 29 (by decide) (by decide) (by decide)]; exact eb, FP.rf, hzz o' fzz⟩
set_option maxHeartbeats 200000 in
theorem PEs.le {L L' : Int} {o : Ob} {bzz : Nat} {R : Ob → Prop} (hzz : PEs L o bzz R) (hl : L' ≤ L) : PEs L' o bzz R := fun o' fzz Nzz lv yzz h1 h2 hy => hzz o' fzz Nzz lv yzz h1 (by omega) hy
/-- over a pile whose top binds less: settling gives that state itself -/
theorem PEs.done {L : Int} {o o' yzz : Ob} {bzz : Nat} {R : Ob → Prop} (hzz : PEs L o bzz R) (fzz : FR9 o o') (hbzz : bzz ≤ 400) {Nzz : Nat} {lv : Int32} (h1 : 1 ≤ lv.toInt) (h2 : lv.toInt ≤ L) (hs : bzz = 0 ∨ (bnd (gA o 27 (bzz - 1))).toInt < lv.toInt) (hy : lp_X9_settle_0 Nzz (lv, o') = some yzz) : (gI yzz 29).toInt = (bzz : Int) ∧ FP o' yzz ∧ R yzz := by
  obtain ⟨N', o3zz, q1zz, q2zz, q3zz, q4zz⟩ := hzz o' fzz Nzz lv yzz h1 h2 hy
  have ezz := st_stop q2zz hbzz (by rw [q3zz.2.2.1 27 (by decide) (by decide), fzz.gA 27]; exact hs) q1zz
  rw [ezz]; exact ⟨q2zz, q3zz, q4zz⟩
