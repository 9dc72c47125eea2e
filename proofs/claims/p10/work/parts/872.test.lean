-- comparisons: the pile's walk, the way in and the way out
set_option maxHeartbeats 200000 in
theorem ex_part_inv {Nzz : Nat} {v1zz : Int32} {o yzz : Ob} {zzz : Int32 × Ob} (h19 : gI o 19 = 0) (hz : f_X9_readPart o = some zzz) (hzz : lp_X9_readExpression_20 Nzz (v1zz, zzz.1, zzz.2) = some yzz) : lp_X9_readExpression_20 (Nzz + 1) (v1zz, 1, o) = some yzz := by
  show lb_X9_readExpression_20 (lp_X9_readExpression_20 Nzz) v1zz 1 o = some yzz
  unfold lb_X9_readExpression_20
  rw [if_pos h19, if_neg (show ¬ (1 : Int32) = 4 by decide), if_neg (show ¬ (1 : Int32) = 0 by decide), if_pos rfl, hz]
  exact hzz
set_option maxHeartbeats 200000 in
theorem inn_no {o : Ob} {Bzz : Nat} {zzz : Int32} (eB : (gI o 29).toInt = (Bzz : Int)) (hBzz : Bzz ≤ 400) (hl : ∀ jzz, jzz < Bzz → (gA o 27 jzz).toInt < 31) : ∀ (Nzz : Nat) (v2 : Int32) (izz : Nat), v2.toInt = (izz : Int) → izz ≤ Bzz → lp_X9_inner_4 o Nzz (-1, v2) = some zzz → zzz = -1 := by
  intro Nzz
  induction Nzz with
  | zero => intro v2 izz _ _ hzz; cases hzz
  | succ Nzz ihzz =>
    intro v2 izz e2zz hizz hzz
    have hzz : lb_X9_inner_4 o (lp_X9_inner_4 o Nzz) (-1) v2 = some zzz := hzz
    unfold lb_X9_inner_4 at hzz
    by_cases czz : gI o 29 ≤ v2
    · exact (Option.some.inj (z_t hzz czz)).symm
    · have d := cv_nle (a := (Bzz : Int)) (b := (izz : Int)) eB e2zz czz
      obtain ⟨-, hzz⟩ := z_gd (z_f hzz czz)
      have i2zz : v2.toNatClampNeg = izz := tnc_eq e2zz
      rw [i2zz] at hzz
      have gzz := hl izz (by omega)
      have hzz := z_t hzz (Int32.lt_iff_toInt_lt.mpr (by have c31zz : (31 : Int32).toInt = 31 := (by decide); omega))
      unfold bk_X9_inner_33 at hzz
      obtain ⟨x2zz, ezz, hzz⟩ := z_lt hzz
      have t : x2zz.toInt = (izz : Int) + 1 := by rw [ezz]; exact i32_add e2zz (by decide) (by omega) (by omega)
      exact ihzz x2zz (izz + 1) (by omega) (by omega) hzz
set_option maxHeartbeats 200000 in
/-- the innermost bracket, if there is one, is round -/
def InT (o : Ob) (Bzz : Nat) : Prop := (∀ jzz, jzz < Bzz → (gA o 27 jzz).toInt < 31) ∨ ∃ czz, czz < Bzz ∧ gA o 27 czz = 31 ∧ ∀ jzz, czz < jzz → jzz < Bzz → (gA o 27 jzz).toInt < 31
set_option maxHeartbeats 200000 in
theorem InT.inner {o : Ob} {Bzz : Nat} {zzz : Int32} (hzz : InT o Bzz) (eB : (gI o 29).toInt = (Bzz : Int)) (hBzz : Bzz ≤ 400) (hz : f_X9_inner o = some zzz) : zzz = -1 ∨ zzz = 31 := by
  rcases hzz with hzz | ⟨czz, hczz, h1, h2⟩
  · exact Or.inl (inn_no eB hBzz hzz zfu 0 0 (by decide) (Nat.zero_le _) hz)
  · exact Or.inr ((inn_top eB hBzz hczz (by rw [h1]; decide) h2 hz).trans h1)
set_option maxHeartbeats 200000 in
theorem InT.ext {o o' : Ob} {bzz Bzz : Nat} (hzz : InT o bzz) (hbzz : bzz ≤ Bzz) (ezz : ∀ jzz, jzz < bzz → gA o' 27 jzz = gA o 27 jzz) (hl : ∀ jzz, bzz ≤ jzz → jzz < Bzz → (gA o' 27 jzz).toInt < 31) : InT o' Bzz := by
  rcases hzz with hzz | ⟨czz, hczz, h1, h2⟩
  · refine Or.inl (fun jzz hj => ?_)
    rcases (show jzz < bzz ∨ bzz ≤ jzz by omega) with qzz | qzz
    · rw [ezz jzz qzz]; exact hzz jzz qzz
    · exact hl jzz qzz hj
  · refine Or.inr ⟨czz, by omega, (ezz czz hczz).trans h1, fun jzz x1zz x2zz => ?_⟩
    rcases (show jzz < bzz ∨ bzz ≤ jzz by omega) with qzz | qzz
    · rw [ezz jzz qzz]; exact h2 jzz x1zz qzz
    · exact hl jzz qzz x2zz
set_option maxHeartbeats 200000 in
theorem ic_lp {o : Ob} {bzz Bzz : Nat} {zzz : Int32} (hBzz : Bzz ≤ 400) (hl : ∀ jzz, bzz ≤ jzz → jzz < Bzz → 20 ≤ (gA o 27 jzz).toInt ∧ (gA o 27 jzz).toInt ≤ 24) (hn : bzz = 0 ∨ 25 ≤ (gA o 27 (bzz - 1)).toInt) : ∀ (Nzz : Nat) (vzz : Int32) (izz : Nat), vzz.toInt = (izz : Int) - 1 → bzz ≤ izz → izz ≤ Bzz → lp_X9_isCompared_7 o Nzz vzz = some zzz → ((bzz = 0 ∨ 28 ≤ (gA o 27 (bzz - 1)).toInt) → zzz = 0) ∧ (0 < bzz → (gA o 27 (bzz - 1)).toInt ≤ 27 → ¬ zzz = 0) := by
  have c20zz : (20 : Int64).toInt = 20 := by decide
  have c24zz : (24 : Int64).toInt = 24 := by decide
  have c25zz : (25 : Int64).toInt = 25 := by decide
  have c27zz : (27 : Int64).toInt = 27 := by decide
  intro Nzz
  induction Nzz with
  | zero => intro vzz izz _ _ _ hzz; cases hzz
  | succ Nzz ihzz =>
    intro vzz izz ezz hbi hizz hzz
    have hzz : lb_X9_isCompared_7 o (lp_X9_isCompared_7 o Nzz) vzz = some zzz := hzz
    unfold lb_X9_isCompared_7 at hzz
    have h36 : izz = bzz → bk_X9_isCompared_36 o vzz = some zzz → ((bzz = 0 ∨ 28 ≤ (gA o 27 (bzz - 1)).toInt) → zzz = 0) ∧ (0 < bzz → (gA o 27 (bzz - 1)).toInt ≤ 27 → ¬ zzz = 0) := by
      intro eb kzz
      unfold bk_X9_isCompared_36 at kzz
      by_cases czz : vzz < (0 : Int32)
      · have d := cv_lt (a := (izz : Int) - 1) (b := 0) ezz (by decide) czz
        have ez := (Option.some.inj (z_t kzz czz)).symm
        exact ⟨fun _ => ez, fun qzz => by omega⟩
      · have d := cv_nlt (a := (izz : Int) - 1) (b := 0) ezz (by decide) czz
        obtain ⟨-, kzz⟩ := z_gd (z_f kzz czz)
        obtain ⟨z3, e3zz, kzz⟩ := z_bd kzz
        have ivzz : vzz.toNatClampNeg = bzz - 1 := tnc_eq (by omega)
        rw [ivzz] at e3zz
        rcases in_iff _ _ _ _ e3zz with ⟨a1zz, a2⟩ | ⟨a1zz, a2, a3⟩
        · rw [Int32.toInt_toInt64, c25zz, c27zz] at a2
          have ez := (Option.some.inj (z_t kzz a1zz)).symm
          refine ⟨fun _ => ez, fun q1zz q2zz => ?_⟩
          rcases hn with uzz | uzz
          · omega
          · exact absurd ⟨uzz, q2zz⟩ a2
        · rw [Int32.toInt_toInt64, c25zz] at a2
          rw [Int32.toInt_toInt64, c27zz] at a3
          have ez := (Option.some.inj (z_f kzz a1zz)).symm
          exact ⟨fun qzz => by omega, fun _ _ => by rw [ez]; decide⟩
    by_cases czz : vzz < (0 : Int32)
    · have d := cv_lt (a := (izz : Int) - 1) (b := 0) ezz (by decide) czz
      exact h36 (by omega) (z_t hzz czz)
    · have d := cv_nlt (a := (izz : Int) - 1) (b := 0) ezz (by decide) czz
      obtain ⟨-, hzz⟩ := z_gd (z_f hzz czz)
      obtain ⟨z5, e5zz, hzz⟩ := z_bd hzz
      have ivzz : vzz.toNatClampNeg = izz - 1 := tnc_eq (by omega)
      rw [ivzz] at e5zz
      rcases in_iff _ _ _ _ e5zz with ⟨a1zz, a2⟩ | ⟨a1zz, a2, a3⟩
      · rw [Int32.toInt_toInt64, c20zz, c24zz] at a2
        refine h36 ?_ (z_t hzz a1zz)
        rcases (show izz = bzz ∨ bzz ≤ izz - 1 by omega) with qzz | qzz
        · exact qzz
        · exact absurd (hl (izz - 1) qzz (by omega)) a2
      · rw [Int32.toInt_toInt64, c24zz] at a3
        obtain ⟨x6, e6zz, hzz⟩ := z_lt (z_f hzz a1zz)
        have t : x6.toInt = (izz : Int) - 1 + (-1) := by rw [e6zz]; exact i32_add ezz (by decide) (by omega) (by omega)
        have hbi' : bzz ≤ izz - 1 := by
          rcases (show izz = bzz ∨ bzz ≤ izz - 1 by omega) with qzz | qzz
          · rcases hn with uzz | uzz
            · omega
            · rw [qzz] at a3; omega
          · exact qzz
        exact ihzz x6 (izz - 1) (by omega) hbi' (by omega) hzz
set_option maxHeartbeats 200000 in
theorem ic_of {o : Ob} {bzz Bzz : Nat} {zzz : Int32} (eB : (gI o 29).toInt = (Bzz : Int)) (hbzz : bzz ≤ Bzz) (hBzz : Bzz ≤ 400) (hl : ∀ jzz, bzz ≤ jzz → jzz < Bzz → 20 ≤ (gA o 27 jzz).toInt ∧ (gA o 27 jzz).toInt ≤ 24) (hn : bzz = 0 ∨ 25 ≤ (gA o 27 (bzz - 1)).toInt) (hzz : f_X9_isCompared o = some zzz) : ((bzz = 0 ∨ 28 ≤ (gA o 27 (bzz - 1)).toInt) → zzz = 0) ∧ (0 < bzz → (gA o 27 (bzz - 1)).toInt ≤ 27 → ¬ zzz = 0) := by
  unfold f_X9_isCompared at hzz
  obtain ⟨x1zz, e1zz, hzz⟩ := z_lt hzz
  have t : x1zz.toInt = (Bzz : Int) - 1 := by rw [e1zz]; exact i32_sub eB (by decide) (by omega) (by omega)
  exact ic_lp hBzz hl hn zfu x1zz Bzz t hbzz (Nat.le_refl _) hzz
/-- as GoodT, for tests -/
def GoodC (L : Int) (od : Bool) (rd oc o rd' oc' o' : Ob) (k1zz k2zz pzz bzz n k1' : Nat) : Prop := ∃ k2' b' : Nat, k1zz ≤ k1' ∧ PSt od rd' oc' o' k1' k2' pzz b' ∧ bzz ≤ b' ∧ RF o o' ∧ CF rd oc rd' oc' ∧ (∀ jzz, jzz < bzz → gA o' 27 jzz = gA o 27 jzz ∧ gA o' 28 jzz = gA o 28 jzz) ∧ (∀ jzz, bzz ≤ jzz → jzz < b' → 20 ≤ (gA o' 27 jzz).toInt ∧ (gA o' 27 jzz).toInt ≤ 30) ∧ gI o' 30 = gI o 30 ∧ (∀ jzz, jzz < k1zz → gA oc' 5 jzz = gA oc 5 jzz ∧ gA oc' 6 jzz = gA oc 6 jzz) ∧ ckp k2zz o o' ∧ (gI o' 26).toInt = (gI o 26).toInt + (n : Int) ∧
  PEs L o' bzz (fun o3zz => ∃ k3zz : Nat, (gI o3zz 23).toInt = (k3zz : Int) ∧ k3zz ≤ 400 ∧ ckp k2zz o o3zz ∧ Sx od (gA oc' 5) (gA oc' 6) (gA o3zz 24) (gA o3zz 25) true k1zz k1' k2zz k3zz n)
set_option maxHeartbeats 200000 in
theorem GoodC.le {L L' : Int} {od : Bool} {rd oc o rd' oc' o' : Ob} {k1zz k2zz pzz bzz n k1' : Nat} (hzz : GoodC L od rd oc o rd' oc' o' k1zz k2zz pzz bzz n k1') (hl : L' ≤ L) : GoodC L' od rd oc o rd' oc' o' k1zz k2zz pzz bzz n k1' := by
  obtain ⟨k2', b', h0, h1, h2, h3, h4, h5, h6, h7, h8, h9, h10, h11⟩ := hzz
  exact ⟨k2', b', h0, h1, h2, h3, h4, h5, h6, h7, h8, h9, h10, h11.le hl⟩
/-- a comparison's sign: read, what waits is settled, it is laid on the pile -/
theorem cmp_in {od : Bool} {rd oc o rd1 oc1 o1 rd2 : Ob} {k1zz k2zz pzz bzz n k1' : Nat} {op : Int32} {z10 z11 z12 : Ob} (gzz : GoodT 5 od rd oc o rd1 oc1 o1 k1zz k2zz pzz bzz n k1') (hbzz : bzz ≤ 400) (hbase : bzz = 0 ∨ (bnd (gA o 27 (bzz - 1))).toInt < 5) (hs : gI o1 16 = 3)
    (e10zz : f_X9_next o1 = some z10) (e11zz : f_X9_settle z10 5 = some z11) (e12zz : f_X9_push z11 op 0 = some z12) (ec : f_X6_step rd1 = some rd2) :
    ∃ k3zz : Nat, PSt od rd2 oc1 z12 k1' k3zz (pzz + 1) (bzz + 1) ∧ RF o z12 ∧ CF rd oc rd2 oc1 ∧ (∀ jzz, jzz < bzz → gA z12 27 jzz = gA o 27 jzz ∧ gA z12 28 jzz = gA o 28 jzz) ∧ gA z12 27 bzz = op ∧ gI z12 30 = gI o 30 ∧ ckp k2zz o z12 ∧ (gI z12 26).toInt = (gI o 26).toInt + (n : Int) ∧ Sx od (gA oc1 5) (gA oc1 6) (gA z12 24) (gA z12 25) false k1zz k1' k2zz k3zz n ∧ bzz < 400 := by
  obtain ⟨k2', b', h0, h1, h2, h3, h4, h5, h6, h7, h8, h9, h10, h11⟩ := gzz
  obtain ⟨hTzz, h19, e5zz, hr, ek1, ek2, hp, eb, hb', hk2, hMzz⟩ := h1
  have topzz : bzz = 0 ∨ (bnd (gA o1 27 (bzz - 1))).toInt < (5 : Int32).toInt := by
    rcases (show bzz = 0 ∨ 0 < bzz by omega) with uzz | uzz
    · exact Or.inl uzz
    · rcases hbase with qzz | qzz
      · exact Or.inl qzz
      · exact Or.inr (by rw [(h5 (bzz - 1) (by omega)).1]; exact qzz)
  obtain ⟨azz, bb, ea, ebb, hab, hbb, hx⟩ := hTzz.2.2.2.2
  have hbb' : bb = azz + 1 := by
    rcases hx with ⟨uzz, -⟩ | ⟨uzz, -⟩ | ⟨uzz, -⟩ | ⟨-, uzz, -⟩
    · exact absurd (uzz.symm.trans hs) (by decide)
    · exact absurd (uzz.symm.trans hs) (by decide)
    · exact absurd (uzz.symm.trans hs) (by decide)
    · exact uzz
  obtain ⟨T1, T2, T3, T4⟩ := tk_eq hTzz.1 hTzz.2.2.2.1 (by omega) (by omega) ec e10zz
  obtain ⟨s1zz, s2zz, k3zz, s3zz, s4zz, s5, s6zz⟩ := h11.done T3 hbzz (by decide) (by decide) topzz e11zz
  obtain ⟨p1zz, p2zz, p3zz, p4zz, p5zz, p6zz, p7zz, p8zz, p9zz⟩ := push9 s1zz hbzz e12zz
  have hT2 : TT rd2 z12 := by
    refine T1.cg rfl rfl rfl rfl rfl rfl ?_ ?_ ?_ ?_ ?_ ?_
    · rw [p6zz 13 (by decide)]; exact s2zz.1 13 (by decide) (by decide)
    · rw [p7zz 12 (by decide) (by decide)]; exact s2zz.2.2.1 12 (by decide) (by decide)
    · rw [p6zz 14 (by decide)]; exact s2zz.1 14 (by decide) (by decide)
    · rw [p6zz 15 (by decide)]; exact s2zz.1 15 (by decide) (by decide)
    · rw [p6zz 16 (by decide)]; exact s2zz.1 16 (by decide) (by decide)
    · exact (congrFun p8zz 17).trans (congrFun s2zz.2.1 17)
  have k14 : gI z12 14 = gI z10 14 := (p6zz 14 (by decide)).trans (s2zz.1 14 (by decide) (by decide))
  have rp : RF z11 z12 := ⟨fun izz _ _ _ _ _ _ _ azz _ => p6zz izz azz, fun izz _ _ azz czz => p7zz izz azz czz, p9zz⟩
  have r1zz : RF o1 z12 := T3.rr.tr (s2zz.rr.tr rp)
  have i26 : gI z12 26 = gI o1 26 := (p6zz 26 (by decide)).trans ((s2zz.1 26 (by decide) (by decide)).trans (T3.1 26 (by decide) (by decide) (by decide)))
  have i23 : (gI z12 23).toInt = (k3zz : Int) := by rw [p6zz 23 (by decide)]; exact s3zz
  refine ⟨k3zz, ⟨hT2, ?_, ?_, by rw [i26]; exact hr, ek1, i23, ?_, ?_, by omega, s4zz, hMzz.fr (oc := oc1) (oc' := oc1) T2.cc r1zz⟩, h3.tr r1zz, h4.tr T2.cc, fun jzz hj => ?_, p3zz, ?_, fun jzz hj => ?_, by rw [i26]; exact h10, ?_, p1zz⟩
  · rw [p6zz 19 (by decide), s2zz.1 19 (by decide) (by decide), T3.1 19 (by decide) (by decide) (by decide)]; exact h19
  · rw [T2.1 5 (by decide) (by decide) (by decide) (by decide), i26]; exact e5zz
  · rw [k14]; omega
  · omega
  · rw [(p5zz jzz (by omega)).1, (p5zz jzz (by omega)).2, s2zz.2.2.1 27 (by decide) (by decide), s2zz.2.2.1 28 (by decide) (by decide), T3.gA 27, T3.gA 28]; exact h5 jzz hj
  · rw [p6zz 30 (by decide), s2zz.1 30 (by decide) (by decide), T3.1 30 (by decide) (by decide) (by decide)]; exact h7
  · rw [p7zz 24 (by decide) (by decide), p7zz 25 (by decide) (by decide)]; exact s5 jzz hj
  · rw [p7zz 24 (by decide) (by decide), p7zz 25 (by decide) (by decide)]; exact s6zz
set_option maxHeartbeats 200000 in
/-- the second sum is read, the class has added the comparison -/
theorem cmp_out {L L' : Int} {od : Bool} {rd oc o rd2 oc1 o2 rd3 oc3 o3zz oc4 : Ob} {k1zz k2zz pzz bzz n n' k1' k3zz k1'' : Nat} {op s : Int32} {z7 : Int32 × Ob} (hSzz : Sx od (gA oc1 5) (gA oc1 6) (gA o2 24) (gA o2 25) false k1zz k1' k2zz k3zz n) (rzz : RF o o2) (czz : CF rd oc rd2 oc1) (hpl : ∀ jzz, jzz < bzz → gA o2 27 jzz = gA o 27 jzz ∧ gA o2 28 jzz = gA o 28 jzz) (hop : gA o2 27 bzz = op) (h30 : gI o2 30 = gI o 30) (hck : ckp k2zz o o2) (h26 : (gI o2 26).toInt = (gI o 26).toInt + (n : Int)) (hbzz : bzz < 400) (hk13 : ∀ jzz, jzz < k1zz → gA oc1 5 jzz = gA oc 5 jzz ∧ gA oc1 6 jzz = gA oc 6 jzz)
    (gzz : GoodT L' od rd2 oc1 o2 rd3 oc3 o3zz k1' k3zz (pzz + 1) (bzz + 1) n' k1'') (hL : L ≤ L') (hbn : L ≤ (bnd op).toInt) (hopr : 25 ≤ op.toInt ∧ op.toInt ≤ 27) (hCO : opC s op) (ez : f_X0_add 12 400 oc3 s 0 = some z7) (e4zz : oc4 = z7.2) :
    GoodC L od rd oc o rd3 oc4 o3zz k1zz k2zz pzz bzz (n + n') (k1'' + 1) := by
  have hlt := hSzz.lt
  obtain ⟨k2', b', h0, h1, h2, h3, h4, h5, h6, h7, h8, h9, h10, h11⟩ := gzz
  obtain ⟨hTzz, h19, e5zz, hr, ek1, ek2, hp, eb, hb', hk2, hMzz⟩ := h1
  obtain ⟨azz, bb, ea, ebb, hab, hbb, -⟩ := hTzz.2.2.2.2
  have h400 := hTzz.1.2.2.2
  obtain ⟨d1zz, d2zz, d3zz, d4zz, d5zz, d6zz, d7zz⟩ := add8 ek1 (by omega) ez
  subst e4zz
  have cfzz : CF rd oc rd3 z7.2 := czz.tr (h4.tr (CF.add d6zz d7zz))
  refine ⟨k2', b', by omega, ⟨hTzz, h19, e5zz, hr, by omega, ek2, by omega, eb, hb', hk2, hMzz⟩, by omega, rzz.tr h3, cfzz, fun jzz hj => ?_, fun jzz azz czz => ?_, h7.trans h30, fun jzz hj => ?_, hck.tr (h9.le (by omega)), by omega, fun o3' f3zz Nzz lv yzz hl1 hl2 hy => ?_⟩
  · rw [(h5 jzz (by omega)).1, (h5 jzz (by omega)).2]; exact hpl jzz hj
  · rcases (show jzz = bzz ∨ bzz + 1 ≤ jzz by omega) with qzz | qzz
    · rw [qzz, (h5 bzz (by omega)).1, hop]; omega
    · have := h6 jzz qzz czz; omega
  · have w8 := h8 jzz (by omega)
    have w5 := d5zz jzz (by omega)
    rw [w5.1, w5.2, w8.1, w8.2]; exact hk13 jzz hj
  · obtain ⟨N', o4zz, q1zz, q2zz, q3zz, k4zz, q4zz, q5zz, q6zz, q7zz⟩ := h11 o3' f3zz Nzz lv yzz hl1 (by omega) hy
    have e27zz : gA o4zz 27 bzz = op := by rw [q3zz.2.2.1 27 (by decide) (by decide), f3zz.gA 27, (h5 bzz (by omega)).1]; exact hop
    have lt7 := q7zz.lt
    have n29 : ¬ op = 29 := fun ezz => by rw [ezz] at hopr; revert hopr; decide
    have n30zz : ¬ op = 30 := fun ezz => by rw [ezz] at hopr; revert hopr; decide
    obtain ⟨N'', o5zz, u1zz, u2zz, u3, u4zz, u5, u6, u7, u8⟩ := st_op (bzz := bzz) (czz := k4zz) (by omega) hbzz q4zz q5zz ⟨by rw [e27zz]; exact n29, by rw [e27zz]; exact n30zz⟩ (by rw [e27zz]; omega) q1zz
    refine ⟨N'', o5zz, u1zz, u5, q3zz.tr u2zz, k4zz + 1, by omega, by omega, ?_, ?_⟩
    · exact (hck.tr (q6zz.le (by omega))).tr (u3.le (by omega))
    · have cl := Sx.cl od (gA z7.2 5) (gA z7.2 6) (gA o5zz 24) (gA o5zz 25)
      refine cl.2.2.2.1 k1zz k1' k1'' k2zz k3zz k4zz n n' ?_ ?_ ?_
      · refine hSzz.eq (fun jzz x1zz x2zz => ?_) (fun jzz x1zz x2zz => ?_)
        · have w5 := d5zz jzz (by omega)
          have w8 := h8 jzz x2zz
          rw [w5.1, w5.2]; exact w8
        · have v1zz := u3 jzz (by omega)
          have v2 := q6zz jzz x2zz
          rw [v1zz.1, v1zz.2]; exact v2
      · refine q7zz.eq (fun jzz x1zz x2zz => d5zz jzz (by omega)) (fun jzz x1zz x2zz => u3 jzz x2zz)
      · rw [d3zz, u6, e27zz]; exact hCO
