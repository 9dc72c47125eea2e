set_option maxHeartbeats 200000 in
theorem Bad.tr {rd oc o rd' oc' o' yzz : Ob} {zzz : Int32 × Ob × Ob} (rzz : RF o o') (czz : CF rd oc rd' oc') (hzz : Bad rd' oc' o' zzz yzz) : Bad rd oc o zzz yzz := ⟨hzz.1, hzz.2.1, hzz.2.2.1, rzz.tr hzz.2.2.2.1, czz.tr hzz.2.2.2.2⟩
set_option maxHeartbeats 200000 in
theorem push9 {o o' : Ob} {op at' : Int32} {bzz : Nat} (eb : (gI o 29).toInt = (bzz : Int)) (hbzz : bzz ≤ 400) (hzz : f_X9_push o op at' = some o') : bzz < 400 ∧ (gI o' 29).toInt = (bzz : Int) + 1 ∧ gA o' 27 bzz = op ∧ gA o' 28 bzz = at' ∧ (∀ jzz, jzz ≠ bzz → gA o' 27 jzz = gA o 27 jzz ∧ gA o' 28 jzz = gA o 28 jzz) ∧ (∀ izz, izz ≠ 29 → gI o' izz = gI o izz) ∧ (∀ izz, izz ≠ 27 → izz ≠ 28 → gA o' izz = gA o izz) ∧ o'.2.1 = o.2.1 ∧ o'.2.2.2 = o.2.2.2 := by
  unfold f_X9_push at hzz
  obtain ⟨gzz, hzz⟩ := z_gd hzz
  obtain ⟨o2, e2zz, hzz⟩ := z_lt hzz
  obtain ⟨-, hzz⟩ := z_gd hzz
  obtain ⟨o4zz, e4zz, hzz⟩ := z_lt hzz
  obtain ⟨o5zz, e5zz, hzz⟩ := z_lt hzz
  have gk := (of_decide_eq_true gzz).2
  have ib : (gI o 29).toNatClampNeg = bzz := tnc_eq eb
  have k2zz : gI o2 29 = gI o 29 := by rw [e2zz]; rfl
  rw [ib] at e2zz
  rw [k2zz, ib] at e4zz
  have k29 : gI o5zz 29 = gI o 29 + 1 := by rw [e5zz, e4zz, e2zz]; rfl
  rw [← Option.some.inj hzz]
  refine ⟨by omega, by rw [k29]; exact i32_add eb (by decide) (by omega) (by omega), ?_, ?_, fun jzz hj => ⟨?_, ?_⟩, fun izz hizz => ?_, fun izz azz czz => ?_, by rw [e5zz, e4zz, e2zz]; rfl, by rw [e5zz, e4zz, e2zz]; rfl⟩
  · rw [e5zz, e4zz, e2zz]; exact if_pos rfl
  · rw [e5zz, e4zz]; exact if_pos rfl
  · rw [e5zz, e4zz, e2zz]; exact if_neg hj
  · rw [e5zz, e4zz, e2zz]; exact if_neg hj
  · rw [e5zz]; exact (fset_ne hizz).trans (by rw [e4zz, e2zz]; rfl)
  · have w0zz : gA o5zz izz = gA o4zz izz := by rw [e5zz]; rfl
    have w1zz : gA o4zz izz = gA o2 izz := by rw [e4zz]; exact fset_ne (f := fun izz => gA o2 izz) czz
    have w2zz : gA o2 izz = gA o izz := by rw [e2zz]; exact fset_ne (f := fun izz => gA o izz) azz
    exact w0zz.trans (w1zz.trans w2zz)
def GoodT (L : Int) (od : Bool) (rd oc o rd' oc' o' : Ob) (k1zz k2zz pzz bzz n k1' : Nat) : Prop := ∃ k2' b' : Nat, k1zz ≤ k1' ∧ PSt od rd' oc' o' k1' k2' pzz b' ∧ bzz ≤ b' ∧ RF o o' ∧ CF rd oc rd' oc' ∧ (∀ jzz, jzz < bzz → gA o' 27 jzz = gA o 27 jzz ∧ gA o' 28 jzz = gA o 28 jzz) ∧ (∀ jzz, bzz ≤ jzz → jzz < b' → 20 ≤ (gA o' 27 jzz).toInt ∧ (gA o' 27 jzz).toInt ≤ 24) ∧ gI o' 30 = gI o 30 ∧ (∀ jzz, jzz < k1zz → gA oc' 5 jzz = gA oc 5 jzz ∧ gA oc' 6 jzz = gA oc 6 jzz) ∧ ckp k2zz o o' ∧ (gI o' 26).toInt = (gI o 26).toInt + (n : Int) ∧
  PEs L o' bzz (fun o3zz => ∃ k3zz : Nat, (gI o3zz 23).toInt = (k3zz : Int) ∧ k3zz ≤ 400 ∧ ckp k2zz o o3zz ∧ Sx od (gA oc' 5) (gA oc' 6) (gA o3zz 24) (gA o3zz 25) false k1zz k1' k2zz k3zz n)
set_option maxHeartbeats 200000 in
theorem Good1.t {L : Int} {od : Bool} {rd oc o rd' oc' o' : Ob} {k1zz k2zz pzz bzz n k1' k2' : Nat} (hzz : Good1 od rd oc o rd' oc' o' k1zz k2zz pzz bzz n k1' k2') : GoodT L od rd oc o rd' oc' o' k1zz k2zz pzz bzz n k1' := by
  obtain ⟨h1, h2, h3, h4, h5, h6, h7, h8, h9⟩ := hzz
  have l9 := h9.lt
  exact ⟨k2', bzz, by omega, h1, Nat.le_refl _, h2, h3, h4, fun jzz azz czz => by omega, h5, h6, h7, h8, PEs.none h1.2.2.2.2.2.2.2.1 (fun o'' fzz => ⟨k2', by rw [fzz.1 23 (by decide) (by decide) (by decide)]; exact h1.2.2.2.2.2.1, h1.2.2.2.2.2.2.2.2.2.1, fun jzz hj => by rw [fzz.gA 24, fzz.gA 25]; exact h7 jzz hj, by rw [fzz.gA 24, fzz.gA 25]; exact h9⟩)⟩
set_option maxHeartbeats 200000 in
theorem GoodT.le {L L' : Int} {od : Bool} {rd oc o rd' oc' o' : Ob} {k1zz k2zz pzz bzz n k1' : Nat} (hzz : GoodT L od rd oc o rd' oc' o' k1zz k2zz pzz bzz n k1') (hl : L' ≤ L) : GoodT L' od rd oc o rd' oc' o' k1zz k2zz pzz bzz n k1' := by
  obtain ⟨k2', b', h0, h1, h2, h3, h4, h5, h6, h7, h8, h9, h10, h11⟩ := hzz
  exact ⟨k2', b', h0, h1, h2, h3, h4, h5, h6, h7, h8, h9, h10, h11.le hl⟩
set_option maxHeartbeats 200000 in
theorem op_in {L : Int} {od : Bool} {rd oc o rd1 oc1 o1 rd2 : Ob} {k1zz k2zz pzz bzz n k1' : Nat} {op : Int32} {z19 : Int32} {z20 z21 z22 : Ob} (gzz : GoodT L od rd oc o rd1 oc1 o1 k1zz k2zz pzz bzz n k1') (hbzz : bzz ≤ 400) (hop : 20 ≤ op.toInt ∧ op.toInt ≤ 24) (hl : z19.toInt ≤ L ∧ 1 ≤ z19.toInt) (hbase : bzz = 0 ∨ (bnd (gA o 27 (bzz - 1))).toInt < z19.toInt) (hs : gI o1 16 = 3)
    (e20 : f_X9_settle o1 z19 = some z20) (e21zz : f_X9_push z20 op 0 = some z21) (e22zz : f_X9_next z21 = some z22) (ec : f_X6_step rd1 = some rd2) :
    ∃ k3zz : Nat, PSt od rd2 oc1 z22 k1' k3zz (pzz + 1) (bzz + 1) ∧ RF o z22 ∧ CF rd oc rd2 oc1 ∧ (∀ jzz, jzz < bzz → gA z22 27 jzz = gA o 27 jzz ∧ gA z22 28 jzz = gA o 28 jzz) ∧ gA z22 27 bzz = op ∧ gI z22 30 = gI o 30 ∧ ckp k2zz o z22 ∧ (gI z22 26).toInt = (gI o 26).toInt + (n : Int) ∧ Sx od (gA oc1 5) (gA oc1 6) (gA z22 24) (gA z22 25) false k1zz k1' k2zz k3zz n ∧ bzz < 400 := by
  obtain ⟨k2', b', h0, h1, h2, h3, h4, h5, h6, h7, h8, h9, h10, h11⟩ := gzz
  obtain ⟨hTzz, h19, e5zz, hr, ek1, ek2, hp, eb, hb', hk2, hMzz⟩ := h1
  have topzz : bzz = 0 ∨ (bnd (gA o1 27 (bzz - 1))).toInt < z19.toInt := by
    rcases hbase with qzz | qzz
    · exact Or.inl qzz
    · rcases (show bzz = 0 ∨ 0 < bzz by omega) with uzz | uzz
      · exact Or.inl uzz
      · exact Or.inr (by rw [(h5 (bzz - 1) (by omega)).1]; exact qzz)
  obtain ⟨s1zz, s2zz, k3zz, s3zz, s4zz, s5, s6zz⟩ := h11.done FR9.rf hbzz hl.2 hl.1 topzz e20
  obtain ⟨p1zz, p2zz, p3zz, p4zz, p5zz, p6zz, p7zz, p8zz, p9zz⟩ := push9 s1zz hbzz e21zz
  have hT2 : TT rd1 z21 := by
    refine hTzz.cg rfl rfl rfl rfl rfl rfl ?_ ?_ ?_ ?_ ?_ ?_
    · rw [p6zz 13 (by decide)]; exact s2zz.1 13 (by decide) (by decide)
    · rw [p7zz 12 (by decide) (by decide)]; exact s2zz.2.2.1 12 (by decide) (by decide)
    · rw [p6zz 14 (by decide)]; exact s2zz.1 14 (by decide) (by decide)
    · rw [p6zz 15 (by decide)]; exact s2zz.1 15 (by decide) (by decide)
    · rw [p6zz 16 (by decide)]; exact s2zz.1 16 (by decide) (by decide)
    · exact (congrFun p8zz 17).trans (congrFun s2zz.2.1 17)
  obtain ⟨azz, bb, ea, ebb, hab, hbb, hx⟩ := hT2.2.2.2.2
  have q16zz : gI z21 16 = 3 := by rw [p6zz 16 (by decide), s2zz.1 16 (by decide) (by decide)]; exact hs
  have hbb' : bb = azz + 1 := by
    rcases hx with ⟨uzz, -⟩ | ⟨uzz, -⟩ | ⟨uzz, -⟩ | ⟨-, uzz, -⟩
    · exact absurd (uzz.symm.trans q16zz) (by decide)
    · exact absurd (uzz.symm.trans q16zz) (by decide)
    · exact absurd (uzz.symm.trans q16zz) (by decide)
    · exact uzz
  obtain ⟨T1, T2, T3, T4⟩ := tk_eq hT2.1 hT2.2.2.2.1 (by omega) (by omega) ec e22zz
  have k14 : gI z21 14 = gI o1 14 := (p6zz 14 (by decide)).trans (s2zz.1 14 (by decide) (by decide))
  have rp : RF z20 z21 := ⟨fun izz _ _ _ _ _ _ _ azz _ => p6zz izz azz, fun izz _ _ azz czz => p7zz izz azz czz, p9zz⟩
  have rr : RF o z22 := h3.tr (s2zz.rr.tr (rp.tr T3.rr))
  have cfzz : CF rd oc rd2 oc1 := h4.tr T2.cc
  have i26 : gI z22 26 = gI o1 26 := (T3.1 26 (by decide) (by decide) (by decide)).trans ((p6zz 26 (by decide)).trans (s2zz.1 26 (by decide) (by decide)))
  have i23 : (gI z22 23).toInt = (k3zz : Int) := by rw [T3.1 23 (by decide) (by decide) (by decide), p6zz 23 (by decide)]; exact s3zz
  have cA : ∀ izz, izz ≠ 27 → izz ≠ 28 → gA z22 izz = gA z20 izz := fun izz azz czz => (T3.gA izz).trans (p7zz izz azz czz)
  refine ⟨k3zz, ⟨T1, ?_, ?_, by rw [i26]; exact hr, ek1, i23, ?_, ?_, by omega, s4zz, hMzz.fr (oc := oc1) (oc' := oc1) T2.cc (s2zz.rr.tr (rp.tr T3.rr))⟩, rr, cfzz, fun jzz hj => ?_, ?_, ?_, fun jzz hj => ?_, by rw [i26]; exact h10, ?_, p1zz⟩
  · rw [T3.1 19 (by decide) (by decide) (by decide), p6zz 19 (by decide), s2zz.1 19 (by decide) (by decide)]; exact h19
  · rw [T2.1 5 (by decide) (by decide) (by decide) (by decide), i26]; exact e5zz
  · rw [k14] at ea; omega
  · rw [T3.1 29 (by decide) (by decide) (by decide)]; omega
  · rw [T3.gA 27, T3.gA 28, (p5zz jzz (by omega)).1, (p5zz jzz (by omega)).2, s2zz.2.2.1 27 (by decide) (by decide), s2zz.2.2.1 28 (by decide) (by decide)]; exact h5 jzz hj
  · rw [T3.gA 27]; exact p3zz
  · rw [T3.1 30 (by decide) (by decide) (by decide), p6zz 30 (by decide), s2zz.1 30 (by decide) (by decide)]; exact h7
  · rw [cA 24 (by decide) (by decide), cA 25 (by decide) (by decide)]; exact s5 jzz hj
  · rw [cA 24 (by decide) (by decide), cA 25 (by decide) (by decide)]; exact s6zz
set_option maxHeartbeats 200000 in
theorem op_out {L L' : Int} {od : Bool} {rd oc o rd2 oc1 o2 rd3 oc3 o3zz oc4 : Ob} {k1zz k2zz pzz bzz n n' k1' k3zz k1'' : Nat} {op s : Int32} {z7 : Int32 × Ob} (hSzz : Sx od (gA oc1 5) (gA oc1 6) (gA o2 24) (gA o2 25) false k1zz k1' k2zz k3zz n) (rzz : RF o o2) (czz : CF rd oc rd2 oc1) (hpl : ∀ jzz, jzz < bzz → gA o2 27 jzz = gA o 27 jzz ∧ gA o2 28 jzz = gA o 28 jzz) (hop : gA o2 27 bzz = op) (h30 : gI o2 30 = gI o 30) (hck : ckp k2zz o o2) (h26 : (gI o2 26).toInt = (gI o 26).toInt + (n : Int)) (hbzz : bzz < 400) (hk13 : ∀ jzz, jzz < k1zz → gA oc1 5 jzz = gA oc 5 jzz ∧ gA oc1 6 jzz = gA oc 6 jzz)
    (gzz : GoodT L' od rd2 oc1 o2 rd3 oc3 o3zz k1' k3zz (pzz + 1) (bzz + 1) n' k1'') (hL : L ≤ L') (hbn : L ≤ (bnd op).toInt) (hopr : 20 ≤ op.toInt ∧ op.toInt ≤ 24) (hBO : opB s op) (ez : f_X0_add 12 400 oc3 s 0 = some z7) (e4zz : oc4 = z7.2) :
    GoodT L od rd oc o rd3 oc4 o3zz k1zz k2zz pzz bzz (n + n') (k1'' + 1) := by
  have hlt := hSzz.lt
  obtain ⟨k2', b', h0, h1, h2, h3, h4, h5, h6, h7, h8, h9, h10, h11⟩ := gzz
  obtain ⟨hTzz, h19, e5zz, hr, ek1, ek2, hp, eb, hb', hk2, hMzz⟩ := h1
  obtain ⟨azz, bb, ea, ebb, hab, hbb, -⟩ := hTzz.2.2.2.2
  have h400 := hTzz.1.2.2.2
  obtain ⟨d1zz, d2zz, d3zz, d4zz, d5zz, d6zz, d7zz⟩ := add8 ek1 (by omega) ez
  subst e4zz
  have cfzz : CF rd oc rd3 z7.2 := czz.tr (h4.tr (CF.add d6zz d7zz))
  refine ⟨k2', b', by omega, ⟨hTzz, h19, e5zz, hr, by omega, ek2, by omega, eb, hb', hk2, hMzz⟩, by omega, rzz.tr h3, cfzz, fun jzz hj => ?_, fun jzz azz czz => ?_, h7.trans h30, fun jzz hj => ?_, hck.tr (h9.le (by omega)), by omega, fun o3' f3zz Nzz lv yzz hl1 hl2 hy => ?_⟩
  · rw [(h5 jzz (by omega)).1, (h5 jzz (by omega)).2]; exact hpl jzz hj
  · rcases (show jzz = bzz ∨ bzz + 1 ≤ jzz by omega) with qzz | qzz
    · rw [qzz, (h5 bzz (by omega)).1, hop]; exact hopr
    · exact h6 jzz qzz czz
  · have w8 := h8 jzz (by omega)
    have w5 := d5zz jzz (by omega)
    rw [w5.1, w5.2, w8.1, w8.2]; exact hk13 jzz hj
  · obtain ⟨N', o4zz, q1zz, q2zz, q3zz, k4zz, q4zz, q5zz, q6zz, q7zz⟩ := h11 o3' f3zz Nzz lv yzz hl1 (by omega) hy
    have e27zz : gA o4zz 27 bzz = op := by rw [q3zz.2.2.1 27 (by decide) (by decide), f3zz.gA 27, (h5 bzz (by omega)).1]; exact hop
    have lt7 := q7zz.lt
    have n29 : ¬ op = 29 := fun ezz => by rw [ezz] at hopr; revert hopr; decide
    have n30zz : ¬ op = 30 := fun ezz => by rw [ezz] at hopr; revert hopr; decide
    obtain ⟨N'', o5zz, u1zz, u2zz, u3, u4zz, u5, u6, u7, u8⟩ := st_op (bzz := bzz) (czz := k4zz) (by omega) hbzz q4zz q5zz ⟨by rw [e27zz]; exact n29, by rw [e27zz]; exact n30zz⟩ (by rw [e27zz]; omega) q1zz
    refine ⟨N'', o5zz, u1zz, u5, q3zz.tr u2zz, k4zz + 1, by omega, by omega, ?_, ?_⟩
    · exact (hck.tr (q6zz.le (by omega))).tr (u3.le (by omega))
    · have cl := Sx.cl od (gA z7.2 5) (gA z7.2 6) (gA o5zz 24) (gA o5zz 25)
      refine cl.2.2.1 k1zz k1' k1'' k2zz k3zz k4zz n n' ?_ ?_ ?_
      · refine hSzz.eq (fun jzz x1zz x2zz => ?_) (fun jzz x1zz x2zz => ?_)
        · have w5 := d5zz jzz (by omega)
          have w8 := h8 jzz x2zz
          rw [w5.1, w5.2]; exact w8
        · have v1zz := u3 jzz (by omega)
          have v2 := q6zz jzz x2zz
          rw [v1zz.1, v1zz.2]; exact v2
      · refine q7zz.eq (fun jzz x1zz x2zz => d5zz jzz (by omega)) (fun jzz x1zz x2zz => u3 jzz x2zz)
      · rw [d3zz, u6, e27zz]; exact hBO
set_option maxHeartbeats 200000 in
theorem inn_lp {o : Ob} {bzz Bzz : Nat} {zzz : Int32} (eB : (gI o 29).toInt = (Bzz : Int)) (hBzz : Bzz ≤ 400) (hbzz : bzz < Bzz) (h31 : 31 ≤ (gA o 27 bzz).toInt) (hl : ∀ jzz, bzz < jzz → jzz < Bzz → (gA o 27 jzz).toInt < 31) : ∀ (Nzz : Nat) (v1zz v2 : Int32) (izz : Nat), v2.toInt = (izz : Int) → izz ≤ Bzz → (bzz < izz → v1zz = gA o 27 bzz) → lp_X9_inner_4 o Nzz (v1zz, v2) = some zzz → zzz = gA o 27 bzz := by
  intro Nzz
  induction Nzz with
  | zero => intro v1zz v2 izz _ _ _ hzz; cases hzz
  | succ Nzz ihzz =>
    intro v1zz v2 izz e2zz hizz hv hzz
    have hzz : lb_X9_inner_4 o (lp_X9_inner_4 o Nzz) v1zz v2 = some zzz := hzz
    unfold lb_X9_inner_4 at hzz
    by_cases czz : gI o 29 ≤ v2
    · have d := cv_le (a := (Bzz : Int)) (b := (izz : Int)) eB e2zz czz
      rw [← Option.some.inj (z_t hzz czz)]; exact hv (by omega)
    · have d := cv_nle (a := (Bzz : Int)) (b := (izz : Int)) eB e2zz czz
      obtain ⟨-, hzz⟩ := z_gd (z_f hzz czz)
      have i2zz : v2.toNatClampNeg = izz := tnc_eq e2zz
      rw [i2zz] at hzz
      have hst : ∀ s0zz : Int32, bk_X9_inner_33 o (lp_X9_inner_4 o Nzz) v2 s0zz = some zzz → (bzz < izz + 1 → s0zz = gA o 27 bzz) → zzz = gA o 27 bzz := by
        intro s0zz kzz hs
        unfold bk_X9_inner_33 at kzz
        obtain ⟨x2zz, ezz, kzz⟩ := z_lt kzz
        have t : x2zz.toInt = (izz : Int) + 1 := by rw [ezz]; exact i32_add e2zz (by decide) (by omega) (by omega)
        exact ihzz s0zz x2zz (izz + 1) (by omega) (by omega) hs kzz
      by_cases gzz : gA o 27 izz < (31 : Int32)
      · have g' := cv_lt (a := (gA o 27 izz).toInt) (b := 31) rfl (by decide) gzz
        refine hst v1zz (z_t hzz gzz) (fun qzz => hv ?_)
        rcases (show bzz < izz ∨ bzz = izz by omega) with uzz | uzz
        · exact uzz
        · rw [← uzz] at g'; omega
      · have g' := cv_nlt (a := (gA o 27 izz).toInt) (b := 31) rfl (by decide) gzz
        obtain ⟨-, hzz⟩ := z_gd (z_f hzz gzz)
        refine hst _ hzz (fun qzz => ?_)
        rcases (show bzz < izz ∨ bzz = izz by omega) with uzz | uzz
        · have := hl izz uzz (by omega); omega
        · rw [uzz]
set_option maxHeartbeats 200000 in
theorem inn_top {o : Ob} {bzz Bzz : Nat} {zzz : Int32} (eB : (gI o 29).toInt = (Bzz : Int)) (hBzz : Bzz ≤ 400) (hbzz : bzz < Bzz) (h31 : 31 ≤ (gA o 27 bzz).toInt) (hl : ∀ jzz, bzz < jzz → jzz < Bzz → (gA o 27 jzz).toInt < 31) (hzz : f_X9_inner o = some zzz) : zzz = gA o 27 bzz := inn_lp eB hBzz hbzz h31 hl zfu (-1) 0 0 (by decide) (Nat.zero_le _) (fun qzz => absurd qzz (Nat.not_lt_zero _)) hzz
def NoOp (o : Ob) : Prop := ¬ IsS o 43 ∧ ¬ IsS o 45 ∧ ¬ IsS o 42 ∧ ¬ IsS o 47 ∧ ¬ IsS o 37
set_option maxHeartbeats 200000 in
theorem bs_norm {rd o : Ob} {tst : Int32} {zzz : Int32 × Ob} (hTzz : TT rd o) (hzz : f_X9_behindSum o tst = some zzz) : ∃ op : Int32, bk_X9_behindSum_71 tst op o = some zzz ∧ ((IsS o 43 ∧ op = 20) ∨ (IsS o 45 ∧ op = 21) ∨ (IsS o 42 ∧ op = 22) ∨ (IsS o 47 ∧ op = 23) ∨ (IsS o 37 ∧ op = 24) ∨ (NoOp o ∧ op = -1)) := by
  unfold f_X9_behindSum at hzz
  obtain ⟨z1, e1zz, hzz⟩ := z_bd hzz
  rcases s9 hTzz e1zz with ⟨a1zz, b1⟩ | ⟨a1zz, b1⟩
  · obtain ⟨z2, e2zz, hzz⟩ := z_bd (z_t hzz a1zz)
    rcases s9 hTzz e2zz with ⟨a2, b2⟩ | ⟨a2, b2⟩
    · obtain ⟨z3, e3zz, hzz⟩ := z_bd (z_t hzz a2)
      rcases s9 hTzz e3zz with ⟨a3, b3⟩ | ⟨a3, b3⟩
      · obtain ⟨z4, e4zz, hzz⟩ := z_bd (z_t hzz a3)
        rcases s9 hTzz e4zz with ⟨a4, b4⟩ | ⟨a4, b4⟩
        · obtain ⟨z5, e5zz, hzz⟩ := z_bd (z_t hzz a4)
          rcases s9 hTzz e5zz with ⟨a5, b5⟩ | ⟨a5, b5⟩
          · exact ⟨-1, z_t hzz a5, Or.inr (Or.inr (Or.inr (Or.inr (Or.inr ⟨⟨b1, b2, b3, b4, b5⟩, rfl⟩))))⟩
          · exact ⟨24, z_f hzz a5, Or.inr (Or.inr (Or.inr (Or.inr (Or.inl ⟨b5, rfl⟩))))⟩
        · exact ⟨23, z_f hzz a4, Or.inr (Or.inr (Or.inr (Or.inl ⟨b4, rfl⟩)))⟩
      · exact ⟨22, z_f hzz a3, Or.inr (Or.inr (Or.inl ⟨b3, rfl⟩))⟩
    · exact ⟨21, z_f hzz a2, Or.inr (Or.inl ⟨b2, rfl⟩)⟩
  · exact ⟨20, z_f hzz a1zz, Or.inl ⟨b1, rfl⟩⟩
set_option maxHeartbeats 200000 in
theorem bs_op {o : Ob} {tst op : Int32} {zzz : Int32 × Ob} (hn : ¬ op = -1) (hzz : bk_X9_behindSum_71 tst op o = some zzz) : ∃ z20 z21 z22 : Ob, f_X9_settle o (bnd op) = some z20 ∧ f_X9_push z20 op 0 = some z21 ∧ f_X9_next z21 = some z22 ∧ zzz = (1, z22) := by
  unfold bk_X9_behindSum_71 at hzz
  obtain ⟨z19, e19zz, hzz⟩ := z_bd (z_f hzz hn)
  obtain ⟨z20, e20, hzz⟩ := z_bd hzz
  obtain ⟨z21, e21zz, hzz⟩ := z_bd hzz
  obtain ⟨z22, e22zz, hzz⟩ := z_bd hzz
  rw [bnd_eq e19zz] at e20
  exact ⟨z20, z21, z22, e20, e21zz, e22zz, (Option.some.inj hzz).symm⟩
def SumOut (L : Int) (od : Bool) (rd oc o : Ob) (zzz : Int32 × Ob × Ob) (yzz : Ob) (tst : Int32) (k1zz k2zz pzz bzz : Nat) (Ezz : Ob → Prop) : Prop := Bad rd oc o zzz yzz ∨ (zzz.1 = 1 ∧ ∃ (Nzz : Nat) (o' : Ob) (n k1' : Nat), lp_X9_readExpression_20 Nzz (tst, 3, o') = some yzz ∧ GoodT L od rd oc o zzz.2.1 zzz.2.2 o' k1zz k2zz pzz bzz n k1' ∧ Ezz o')
def SumH (rS : Ob → Ob → Int32 → Option (Int32 × Ob × Ob)) : Prop := ∀ (od : Bool) (rd oc o yzz : Ob) (k1zz k2zz pzz bzz Nzz : Nat) (tst p0zz : Int32) (zzz : Int32 × Ob × Ob), PSt od rd oc o k1zz k2zz pzz bzz → gI o 30 = p0zz → 0 ≤ p0zz.toInt → p0zz.toInt ≤ 8 → (bzz = 0 ∨ (bnd (gA o 27 (bzz - 1))).toInt < 5) → rS rd oc p0zz = some zzz → lp_X9_readExpression_20 Nzz (tst, 1, o) = some yzz → SumOut 5 od rd oc o zzz yzz tst k1zz k2zz pzz bzz NoOp
set_option maxHeartbeats 200000 in
theorem part_eq {rS : Ob → Ob → Int32 → Option (Int32 × Ob × Ob)} (hSzz : SumH rS) {od : Bool} {rd oc o yzz : Ob} {k1zz k2zz pzz bzz Nzz : Nat} {tst p0zz : Int32} {zzz : Int32 × Ob × Ob} (hzz : PSt od rd oc o k1zz k2zz pzz bzz) (h30 : gI o 30 = p0zz) (hp0 : 0 ≤ p0zz.toInt) (hp8 : p0zz.toInt ≤ 8) (h1 : f_X6_readPart rS 12 400 rd oc p0zz = some zzz) (hy : lp_X9_readExpression_20 Nzz (tst, 1, o) = some yzz) : SumOut 6 od rd oc o zzz yzz tst k1zz k2zz pzz bzz (fun _ => True) := by
  have hP := hzz
  obtain ⟨hTzz, h19, e5zz, hr, ek1, ek2, hp, eb, hbzz, hk2, hMzz⟩ := hzz
  obtain ⟨N1, zr, hr2, hy⟩ := ex_part h19 hy
  unfold f_X6_readPart at h1
  obtain ⟨zc, ezc, h1⟩ := z_bd h1
  rcases s8 hTzz ezc with ⟨q1zz, q2zz⟩ | ⟨q1zz, q2zz⟩
  · obtain ⟨z10, ez10, h1⟩ := z_bd (z_t h1 q1zz)
    obtain ⟨-, h1⟩ := z_gd h1
    have ez : zzz = z10 := (Option.some.inj h1).symm
    rw [ez]
    rcases single_eq hP q2zz ez10 hr2 hy with gzz | ⟨g1, g2, g3zz⟩
    · exact Or.inl gzz
    · rw [g2] at hy
      exact Or.inr ⟨g1, N1, zr.2, 1, k1zz + 1, hy, g3zz.t, trivial⟩
  · have h1 := z_f h1 q1zz
    unfold f_X9_readPart at hr2
    obtain ⟨zs, ezs, hr2⟩ := z_bd hr2
    rcases s9 hTzz ezs with ⟨u1zz, u2zz⟩ | ⟨u1zz, -⟩
    · exact absurd q2zz u2zz
    · obtain ⟨z9, ez9, hr2⟩ := z_bd (z_f hr2 u1zz)
      have ezr : zr = (1, z9) := (Option.some.inj hr2).symm
      rw [ezr] at hy
      unfold f_X9_openBracket at ez9
      obtain ⟨azz, bb, ea, ebb, hab, hbb, hx⟩ := hTzz.2.2.2.2
      have hbb' : bb = azz + 1 := by
        rcases hx with ⟨uzz, -⟩ | ⟨uzz, -⟩ | ⟨uzz, -⟩ | ⟨-, uzz, -⟩
        · exact absurd (uzz.symm.trans q2zz.1) (by decide)
        · exact absurd (uzz.symm.trans q2zz.1) (by decide)
        · exact absurd (uzz.symm.trans q2zz.1) (by decide)
        · exact uzz
      have h400 := hTzz.1.2.2.2
      rw [h30] at ez9
      by_cases c8zz : p0zz < (8 : Int32)
      · have d8zz := cv_lt (a := p0zz.toInt) (b := 8) rfl (by decide) c8zz
        have h1 := z_t h1 c8zz
        obtain ⟨zA, ezA, h1⟩ := z_bd h1
        obtain ⟨z3, ez3, h1⟩ := z_bd h1
        have ez9 := z_f ez9 (fun czz => by have czz := cv_le (a := 8) (b := p0zz.toInt) (by decide) rfl czz; omega)
        unfold bk_X9_openBracket_15 at ez9
        obtain ⟨w1zz, ew1, ez9⟩ := z_bd ez9
        have ew1 := mu_ok h19 (by decide) ew1
        obtain ⟨T1, T2, T3, T4⟩ := tk_eq hTzz.1 hTzz.2.2.2.1 (by omega) (by omega) ezA ew1
        have k19 : gI w1zz 19 = 0 := (T3.1 19 (by decide) (by decide) (by decide)).trans h19
        have ez9 := z_t ez9 k19
        obtain ⟨w2zz, ew2, ez9⟩ := z_lt ez9
        obtain ⟨w3zz, ew3, ez9⟩ := z_bd ez9
        have e9zz : z9 = w3zz := (Option.some.inj ez9).symm
        rw [e9zz] at hy
        obtain ⟨p1zz, p2zz, p3zz, p4zz, p5zz, p6zz, p7zz, p8zz, p9zz⟩ := push9 (bzz := bzz) (by rw [ew2]; exact (congrArg Int32.toInt (T3.1 29 (by decide) (by decide) (by decide))).trans eb) hbzz ew3
        have k30 : gI w2zz 30 = p0zz + 1 := by rw [ew2]; show gI w1zz 30 + 1 = _; rw [T3.1 30 (by decide) (by decide) (by decide), h30]
        have t30 : (p0zz + 1).toInt = p0zz.toInt + 1 := i32_add rfl (by decide) (by omega) (by omega)
        have i3zz : ∀ izz, izz ≠ 14 → izz ≠ 15 → izz ≠ 16 → izz ≠ 29 → izz ≠ 30 → gI w3zz izz = gI o izz := fun izz x1zz x2zz x3 x4zz x5zz => by
          rw [p6zz izz x4zz, ew2]; exact (fset_ne x5zz).trans (T3.1 izz x1zz x2zz x3)
        have jA : ∀ izz, izz ≠ 27 → izz ≠ 28 → gA w3zz izz = gA o izz := fun izz x1zz x2zz => by
          rw [p7zz izz x1zz x2zz, ew2]; exact T3.gA izz
        have jM : w3zz.2.2.2 = o.2.2.2 := by rw [p9zz, ew2]; exact congrArg Prod.snd T3.2.2
        have rr : RF o w3zz := ⟨fun izz x1zz x2zz x3 _ _ _ _ x4zz x5zz => i3zz izz x1zz x2zz x3 x4zz x5zz, fun izz _ _ x1zz x2zz => jA izz x1zz x2zz, jM⟩
        have TT3 : TT zA w3zz := T1.cg rfl rfl rfl rfl rfl rfl (by rw [p6zz 13 (by decide), ew2]; rfl) (by rw [p7zz 12 (by decide) (by decide), ew2]; rfl) (by rw [p6zz 14 (by decide), ew2]; rfl) (by rw [p6zz 15 (by decide), ew2]; rfl) (by rw [p6zz 16 (by decide), ew2]; rfl) ((congrFun p8zz 17).trans (by rw [ew2]; rfl))
        have k14 : gI w3zz 14 = gI w1zz 14 := by rw [p6zz 14 (by decide), ew2]; rfl
        have cfA : CF rd oc zA oc := T2.cc
        have hPS : PSt od zA oc w3zz k1zz k2zz (pzz + 1) (bzz + 1) := ⟨TT3, by rw [i3zz 19 (by decide) (by decide) (by decide) (by decide) (by decide)]; exact h19, by rw [T2.1 5 (by decide) (by decide) (by decide) (by decide), i3zz 26 (by decide) (by decide) (by decide) (by decide) (by decide)]; exact e5zz, by rw [i3zz 26 (by decide) (by decide) (by decide) (by decide) (by decide)]; exact hr, ek1, by rw [i3zz 23 (by decide) (by decide) (by decide) (by decide) (by decide)]; exact ek2, by rw [k14]; omega, by omega, by omega, hk2, hMzz.fr (oc := oc) (oc' := oc) cfA rr⟩
        have b32zz : (bnd (gA w3zz 27 bzz)).toInt = 0 := by rw [p3zz]; decide
        have ck0 : ckp k2zz o w3zz := fun jzz hj => by rw [jA 24 (by decide) (by decide), jA 25 (by decide) (by decide)]; exact ⟨rfl, rfl⟩
        rcases hSzz od zA oc w3zz yzz k1zz k2zz (pzz + 1) (bzz + 1) N1 tst (p0zz + 1) z3 hPS (by rw [p6zz 30 (by decide)]; exact k30) (by omega) (by omega) (Or.inr (by rw [Nat.add_sub_cancel, b32zz]; decide)) ez3 hy with gzz | ⟨g1, N2, o4zz, n, k1', hy4, gzz, gno⟩
        · have hz0 : z3.1 = 0 := gzz.1
          have ez : zzz = z3 := by rw [← Option.some.inj (z_t h1 hz0), ← hz0]
          rw [ez]; exact Or.inl (gzz.tr rr cfA)
        · have h1 := z_f h1 (by rw [g1]; decide)
          obtain ⟨k2', b', s0zz, s1zz, s2zz, s3zz, s4zz, s5, s6zz, s7, s8', s9', s10, s11⟩ := gzz
          obtain ⟨zT, z19, ze5, zr', zk1, zk2, zp, zb, zb', zk, zM⟩ := s1zz
          obtain ⟨N3, zb3, hbs, hy4⟩ := ex_sum z19 hy4
          obtain ⟨op, hb71, hop⟩ := bs_norm zT hbs
          have eop : op = -1 := by
            rcases hop with ⟨xzz, -⟩ | ⟨xzz, -⟩ | ⟨xzz, -⟩ | ⟨xzz, -⟩ | ⟨xzz, -⟩ | ⟨-, xzz⟩
            · exact absurd xzz gno.1
            · exact absurd xzz gno.2.1
            · exact absurd xzz gno.2.2.1
            · exact absurd xzz gno.2.2.2.1
            · exact absurd xzz gno.2.2.2.2
            · exact xzz
          rw [eop] at hb71
          unfold bk_X9_behindSum_71 at hb71
          obtain ⟨z6, ez6, hb71⟩ := z_bd (z_t hb71 rfl)
          have e32 : gA o4zz 27 bzz = 32 := by rw [(s5 bzz (by omega)).1]; exact p3zz
          have hz6 := inn_top (bzz := bzz) zb zb' (by omega) (by rw [e32]; decide) (fun jzz x1zz x2zz => by have := s6zz jzz (by omega) x2zz; omega) ez6
          have hb71 := z_t hb71 (by rw [hz6]; exact e32)
          obtain ⟨z14zz, ez14, hb71⟩ := z_bd hb71
          obtain ⟨z15, ez15, hb71⟩ := z_bd hb71
          obtain ⟨zs5, ezs5, h1⟩ := z_bd h1
          have cf4 : CF rd oc z3.2.1 z3.2.2 := cfA.tr s4zz
          have rr4 : RF o o4zz := rr.tr s3zz
          rcases s8 zT ezs5 with ⟨v1zz, v2⟩ | ⟨v1zz, v2⟩ <;> rcases s9 zT ez14 with ⟨w1', w2'⟩ | ⟨w1', w2'⟩
          · rw [w1'] at ez15
            have e15zz := mu_no z19 ez15
            have k19' : gI z15 19 = 1 := by rw [e15zz]; rfl
            have hb71 := Option.some.inj (z_f hb71 (by rw [k19']; decide))
            rw [← hb71] at hy4
            obtain ⟨z6', ez6', h1⟩ := z_bd (z_t h1 v1zz)
            obtain ⟨-, h1⟩ := z_gd h1
            obtain ⟨x1zz, x2zz⟩ := stop8 ez6'
            rw [← Option.some.inj h1, x1zz, x2zz]
            exact Or.inl ((bad_no (oc := z3.2.2) zT e15zz hy4 CF.stop).tr rr4 cf4)
          · exact absurd w2' v2
          · exact absurd v2 w2'
          · have ez15 := mu_ok z19 w1' ez15
            obtain ⟨zBzz, ezB, h1⟩ := z_bd (z_f h1 v1zz)
            obtain ⟨a5, bb5, ea5, ebb5, hab5, hbb5, hx5⟩ := zT.2.2.2.2
            obtain ⟨U1zz, U2, U3, U4⟩ := tk_eq zT.1 zT.2.2.2.1 (by omega) (by omega) ezB ez15
            have k19' : gI z15 19 = 0 := (U3.1 19 (by decide) (by decide) (by decide)).trans z19
            obtain ⟨z16, ez16, hb71⟩ := z_bd (z_t hb71 k19')
            obtain ⟨o17, g17, hb71⟩ := z_lt hb71
            obtain ⟨o18, g18, hb71⟩ := z_lt hb71
            have ezb3 : zb3 = (3, o18) := (Option.some.inj hb71).symm
            rw [ezb3] at hy4
            obtain ⟨y1', y2', k3zz, y3, y4, y5, y6⟩ := s11.done U3 (by omega) (by decide) (by decide) (Or.inr (by rw [Nat.add_sub_cancel, e32]; decide)) ez16
            have i18 : ∀ izz, izz ≠ 29 → izz ≠ 30 → gI o18 izz = gI z16 izz := fun izz x1zz x2zz => by rw [g18, g17]; exact (fset_ne x2zz).trans (fset_ne x1zz)
            have A18 : ∀ izz, gA o18 izz = gA z16 izz := fun izz => by rw [g18, g17]; rfl
            have r18 : RF z16 o18 := ⟨fun izz _ _ _ _ _ _ _ x1zz x2zz => i18 izz x1zz x2zz, fun izz _ _ _ _ => A18 izz, by rw [g18, g17]; rfl⟩
            have rr18 : RF o o18 := rr4.tr (U3.rr.tr (y2'.rr.tr r18))
            have cfB : CF rd oc zBzz z3.2.2 := cf4.tr U2.cc
            have k29 : (gI o18 29).toInt = (bzz : Int) := by
              have : gI o18 29 = gI z16 29 - 1 := by rw [g18, g17]; rfl
              rw [this]
              have := i32_sub (x := gI z16 29) (y := 1) (b := 1) y1' (by decide) (by omega) (by omega)
              omega
            have k30' : gI o18 30 = gI o 30 := by
              have e1zz : gI o18 30 = gI z16 30 - 1 := by rw [g18, g17]; rfl
              have e2zz : gI z16 30 = p0zz + 1 := by rw [y2'.1 30 (by decide) (by decide), U3.1 30 (by decide) (by decide) (by decide), s7, p6zz 30 (by decide)]; exact k30
              rw [e1zz, e2zz, h30]
              exact Int32.toInt_inj.mp (by have := i32_sub (x := p0zz + 1) (y := 1) (b := 1) t30 (by decide) (by omega) (by omega); omega)
            have i26 : gI o18 26 = gI o4zz 26 := (i18 26 (by decide) (by decide)).trans ((y2'.1 26 (by decide) (by decide)).trans (U3.1 26 (by decide) (by decide) (by decide)))
            have T18 : TT zBzz o18 := U1zz.cg rfl rfl rfl rfl rfl rfl ((i18 13 (by decide) (by decide)).trans (y2'.1 13 (by decide) (by decide))) ((A18 12).trans (y2'.2.2.1 12 (by decide) (by decide))) ((i18 14 (by decide) (by decide)).trans (y2'.1 14 (by decide) (by decide))) ((i18 15 (by decide) (by decide)).trans (y2'.1 15 (by decide) (by decide))) ((i18 16 (by decide) (by decide)).trans (y2'.1 16 (by decide) (by decide))) (by rw [g18, g17]; exact congrFun y2'.2.1 17)
            have k14' : gI o18 14 = gI z15 14 := (i18 14 (by decide) (by decide)).trans (y2'.1 14 (by decide) (by decide))
            refine Or.inr ⟨by rw [← Option.some.inj h1], N3, o18, n, k1', hy4, ?_, trivial⟩
            rw [← Option.some.inj h1]
            refine Good1.t (k2' := k3zz) ⟨⟨T18, ?_, ?_, ?_, zk1, ?_, ?_, k29, hbzz, y4, hMzz.fr cfB rr18⟩, rr18, cfB, fun jzz hj => ?_, k30', fun jzz hj => s8' jzz hj, fun jzz hj => ?_, ?_, ?_⟩
            · rw [i18 19 (by decide) (by decide), y2'.1 19 (by decide) (by decide)]; exact k19'
            · rw [U2.1 5 (by decide) (by decide) (by decide) (by decide), i26]; exact ze5
            · rw [i26]; exact zr'
            · rw [i18 23 (by decide) (by decide)]; exact y3
            · rw [k14']; omega
            · rw [A18 27, A18 28, y2'.2.2.1 27 (by decide) (by decide), y2'.2.2.1 28 (by decide) (by decide), U3.gA 27, U3.gA 28, (s5 jzz (by omega)).1, (s5 jzz (by omega)).2]
              have u27 : gA w2zz 27 = gA o 27 := by rw [ew2]; exact T3.gA 27
              have u28 : gA w2zz 28 = gA o 28 := by rw [ew2]; exact T3.gA 28
              have u5 := p5zz jzz (by omega)
              rw [u27, u28] at u5; exact u5
            · rw [A18 24, A18 25, (y5 jzz hj).1, (y5 jzz hj).2]; exact ck0 jzz hj
            · rw [i26, s10, i3zz 26 (by decide) (by decide) (by decide) (by decide) (by decide)]
            · rw [A18 24, A18 25]; exact y6
      · have d8zz := cv_nlt (a := p0zz.toInt) (b := 8) rfl (by decide) c8zz
        have ez9 := z_t ez9 (Int32.le_iff_toInt_le.mpr (by have : (8 : Int32).toInt = 8 := (by decide); omega))
        unfold bk_X9_openBracket_15 at ez9
        obtain ⟨w1zz, ew1, ez9⟩ := z_bd ez9
        have e1zz := mu_no h19 ew1
        have k19 : gI w1zz 19 = 1 := by rw [e1zz]; rfl
        have e9zz : z9 = w1zz := (Option.some.inj (z_f ez9 (by rw [k19]; decide))).symm
        obtain ⟨z8', ez8, h1⟩ := z_bd (z_f h1 c8zz)
        obtain ⟨-, h1⟩ := z_gd h1
        obtain ⟨x1zz, x2zz⟩ := stop8 ez8
        rw [← Option.some.inj h1, x1zz, x2zz]
        exact Or.inl (bad_no hTzz (e9zz.trans e1zz) hy CF.stop)
def NoMul (o : Ob) : Prop := ¬ IsS o 42 ∧ ¬ IsS o 47 ∧ ¬ IsS o 37
set_option maxHeartbeats 200000 in
theorem IsS.lt {rd o : Ob} {czz : Int32} (hzz : TT rd o) (wzz : IsS o czz) : (gI o 14).toInt < 400 := by
  obtain ⟨azz, bzz, ea, eb, hab, hbzz, hx⟩ := hzz.2.2.2.2
  have h4 := hzz.1.2.2.2
  rcases hx with ⟨uzz, -⟩ | ⟨uzz, -⟩ | ⟨uzz, -⟩ | ⟨-, uzz, -⟩
  · exact absurd (uzz.symm.trans wzz.1) (by decide)
  · exact absurd (uzz.symm.trans wzz.1) (by decide)
  · exact absurd (uzz.symm.trans wzz.1) (by decide)
  · omega
set_option maxHeartbeats 200000 in
theorem GoodT.tt {L : Int} {od : Bool} {rd oc o rd' oc' o' : Ob} {k1zz k2zz pzz bzz n k1' : Nat} (hzz : GoodT L od rd oc o rd' oc' o' k1zz k2zz pzz bzz n k1') : TT rd' o' ∧ gI o' 19 = 0 ∧ ((k1' + pzz : Nat) : Int) ≤ (gI o' 14).toInt ∧ (∀ jzz, jzz < k1zz → gA oc' 5 jzz = gA oc 5 jzz ∧ gA oc' 6 jzz = gA oc 6 jzz) ∧ k1zz ≤ k1' := by
  obtain ⟨k2', b', h0, h1, h2, h3, h4, h5, h6, h7, h8, -⟩ := hzz
  exact ⟨h1.1, h1.2.1, h1.2.2.2.2.2.2.1, h8, h0⟩
set_option maxHeartbeats 200000 in
theorem term_lp {rS : Ob → Ob → Int32 → Option (Int32 × Ob × Ob)} (hSzz : SumH rS) {od : Bool} {rd oc o yzz : Ob} {k1zz k2zz pzz bzz : Nat} {tst p0zz : Int32} {zzz : Int32 × Ob × Ob} (h30 : gI o 30 = p0zz) (hp0 : 0 ≤ p0zz.toInt) (hp8 : p0zz.toInt ≤ 8) (hbzz : bzz ≤ 400) (hbase : bzz = 0 ∨ (bnd (gA o 27 (bzz - 1))).toInt < 6) :
    ∀ (Nzz N2 : Nat) (v2 : Int32) (rd1 oc1 o1 : Ob) (n k1' : Nat), GoodT 6 od rd oc o rd1 oc1 o1 k1zz k2zz pzz bzz n k1' → 0 ≤ v2.toInt → v2.toInt ≤ (k1' : Int) → lp_X6_readTerm_12 rS 12 400 Nzz (p0zz, v2, rd1, oc1) = some zzz → lp_X9_readExpression_20 N2 (tst, 3, o1) = some yzz → SumOut 6 od rd oc o zzz yzz tst k1zz k2zz pzz bzz NoMul := by
  intro Nzz
  induction Nzz with
  | zero => intro N2 v2 rd1 oc1 o1 n k1' _ _ _ hzz; cases hzz
  | succ Nzz ihzz =>
    intro N2 v2 rd1 oc1 o1 n k1' gzz hv0 hv h1 hy
    obtain ⟨hTzz, h19, hpos, hk13, hk11⟩ := gzz.tt
    have h1 : lb_X6_readTerm_12 rS 12 400 (lp_X6_readTerm_12 rS 12 400 Nzz) p0zz v2 rd1 oc1 = some zzz := h1
    unfold lb_X6_readTerm_12 at h1
    have hend : NoMul o1 → zzz = (1, rd1, oc1) → SumOut 6 od rd oc o zzz yzz tst k1zz k2zz pzz bzz NoMul := fun qzz ezz => by rw [ezz]; exact Or.inr ⟨rfl, N2, o1, n, k1', hy, gzz, qzz⟩
    by_cases c4zz : (400 : Int32) ≤ v2
    · have d4zz := cv_le (a := 400) (b := v2.toInt) (by decide) rfl c4zz
      refine hend ⟨fun wzz => ?_, fun wzz => ?_, fun wzz => ?_⟩ (Option.some.inj (z_t h1 c4zz)).symm <;> (have := IsS.lt hTzz wzz; omega)
    · have h1 := z_f h1 c4zz
      have hgo : ∀ s op : Int32, opB s op → (op = 22 ∨ op = 23 ∨ op = 24) → gI o1 16 = 3 → (∃ z3 : Int32 × Ob, f_X9_behindSum o1 tst = some z3 ∧ bk_X9_behindSum_71 tst op o1 = some z3 ∧ ∃ N3, lp_X9_readExpression_20 N3 (tst, z3.1, z3.2) = some yzz) → bk_X6_readTerm_76 rS 12 400 (lp_X6_readTerm_12 rS 12 400 Nzz) p0zz v2 s rd1 oc1 = some zzz → SumOut 6 od rd oc o zzz yzz tst k1zz k2zz pzz bzz NoMul := by
        intro s op hso hop h16zz hz3 kzz
        obtain ⟨z3, -, hb71, N3, hy3⟩ := hz3
        have hbn : (bnd op).toInt = 6 := by rcases hop with ezz | ezz | ezz <;> rw [ezz] <;> decide
        have hopr : 20 ≤ op.toInt ∧ op.toInt ≤ 24 := by rcases hop with ezz | ezz | ezz <;> rw [ezz] <;> decide
        have hn1 : ¬ op = -1 := by rcases hop with ezz | ezz | ezz <;> rw [ezz] <;> decide
        obtain ⟨z20, z21, z22, e20, e21zz, e22zz, e3zz⟩ := bs_op hn1 hb71
        rw [e3zz] at hy3
        unfold bk_X6_readTerm_76 at kzz
        obtain ⟨z5, ez5, kzz⟩ := z_bd kzz
        obtain ⟨z6, ez6, kzz⟩ := z_bd kzz
        obtain ⟨k3zz, i1zz, i2zz, i3zz, i4zz, i5zz, i6zz, i7zz, i8zz, i9zz, i10zz⟩ := op_in gzz hbzz hopr ⟨by omega, by omega⟩ (by rw [hbn]; exact hbase) h16zz e20 e21zz e22zz ez5
        rcases part_eq hSzz i1zz (i6zz.trans h30) hp0 hp8 ez6 hy3 with gb | ⟨g1, N4zz, o4zz, n', k1'', hy4, g4, -⟩
        · have ezz : zzz = z6 := by rw [← Option.some.inj (z_t kzz gb.1), ← gb.1]
          rw [ezz]; exact Or.inl (gb.tr i2zz i3zz)
        · have kzz := z_f kzz (by rw [g1]; decide)
          obtain ⟨z7, ez7, kzz⟩ := z_bd kzz
          obtain ⟨x8, e8, kzz⟩ := z_lt kzz
          have g5zz := op_out (L := 6) i9zz i2zz i3zz i4zz i5zz i6zz i7zz i8zz i10zz hk13 g4 (by omega) (by omega) hopr hso ez7 rfl
          have kk := g4.tt.2.2.2.2
          have h400 := hTzz.1.2.2.2
          obtain ⟨aT, bT, xT1, xT2, xT3, xT4, -⟩ := hTzz.2.2.2.2
          have t8 : x8.toInt = v2.toInt + 1 := by rw [e8]; exact i32_add rfl (by decide) (by omega) (by omega)
          exact ihzz N4zz x8 z6.2.1 z7.2 o4zz (n + n') (k1'' + 1) g5zz (by omega) (by omega) kzz hy4
      obtain ⟨N3, z3, hbs, hy3⟩ := ex_sum h19 hy
      obtain ⟨op, hb71, hop⟩ := bs_norm hTzz hbs
      obtain ⟨z2, e2zz, h1⟩ := z_bd h1
      have h46 : ∀ czz : Int32, IsS o1 czz → czz = 42 ∨ czz = 47 ∨ czz = 37 → bk_X6_readTerm_46 rS 12 400 (lp_X6_readTerm_12 rS 12 400 Nzz) p0zz v2 rd1 oc1 = some zzz → SumOut 6 od rd oc o zzz yzz tst k1zz k2zz pzz bzz NoMul := by
        intro czz hczz hcc kzz
        unfold bk_X6_readTerm_46 at kzz
        obtain ⟨za, ea, kzz⟩ := z_bd kzz
        have hop' : (czz = 42 ∧ op = 22) ∨ (czz = 47 ∧ op = 23) ∨ (czz = 37 ∧ op = 24) := by
          have no : ∀ d : Int32, ¬ czz = d → ¬ IsS o1 d := fun d hdzz => hczz.ne hdzz
          rcases hcc with ezz | ezz | ezz <;> subst ezz
          · rcases hop with ⟨xzz, -⟩ | ⟨xzz, -⟩ | ⟨-, xzz⟩ | ⟨xzz, -⟩ | ⟨xzz, -⟩ | ⟨xzz, -⟩
            · exact absurd xzz (no _ (by decide))
            · exact absurd xzz (no _ (by decide))
            · exact Or.inl ⟨rfl, xzz⟩
            · exact absurd xzz (no _ (by decide))
            · exact absurd xzz (no _ (by decide))
            · exact absurd hczz xzz.2.2.1
          · rcases hop with ⟨xzz, -⟩ | ⟨xzz, -⟩ | ⟨xzz, -⟩ | ⟨-, xzz⟩ | ⟨xzz, -⟩ | ⟨xzz, -⟩
            · exact absurd xzz (no _ (by decide))
            · exact absurd xzz (no _ (by decide))
            · exact absurd xzz (no _ (by decide))
            · exact Or.inr (Or.inl ⟨rfl, xzz⟩)
            · exact absurd xzz (no _ (by decide))
            · exact absurd hczz xzz.2.2.2.1
          · rcases hop with ⟨xzz, -⟩ | ⟨xzz, -⟩ | ⟨xzz, -⟩ | ⟨xzz, -⟩ | ⟨-, xzz⟩ | ⟨xzz, -⟩
            · exact absurd xzz (no _ (by decide))
            · exact absurd xzz (no _ (by decide))
            · exact absurd xzz (no _ (by decide))
            · exact absurd xzz (no _ (by decide))
            · exact Or.inr (Or.inr ⟨rfl, xzz⟩)
            · exact absurd hczz xzz.2.2.2.2
        rcases s8 hTzz ea with ⟨q1zz, q2zz⟩ | ⟨q1zz, q2zz⟩
        · obtain ⟨zb, eb', kzz⟩ := z_bd (z_t kzz q1zz)
          rcases s8 hTzz eb' with ⟨r1zz, r2⟩ | ⟨r1zz, r2⟩
          · have ezz : op = 24 := by
              rcases hop' with ⟨xzz, -⟩ | ⟨xzz, -⟩ | ⟨-, xzz⟩
              · rw [xzz] at hczz; exact absurd hczz q2zz
              · rw [xzz] at hczz; exact absurd hczz r2
              · exact xzz
            exact hgo 9 op (Or.inr (Or.inr (Or.inr (Or.inr ⟨rfl, ezz⟩)))) (Or.inr (Or.inr ezz)) hczz.1 ⟨z3, hbs, hb71, N3, hy3⟩ (z_t kzz r1zz)
          · have ezz : op = 23 := by
              rcases hop' with ⟨xzz, -⟩ | ⟨-, xzz⟩ | ⟨xzz, -⟩
              · rw [xzz] at hczz; exact absurd hczz q2zz
              · exact xzz
              · rw [xzz] at hczz; exact absurd r2 (hczz.ne (by decide))
            exact hgo 8 op (Or.inr (Or.inr (Or.inr (Or.inl ⟨rfl, ezz⟩)))) (Or.inr (Or.inl ezz)) hczz.1 ⟨z3, hbs, hb71, N3, hy3⟩ (z_f kzz r1zz)
        · have ezz : op = 22 := by
            rcases hop' with ⟨-, xzz⟩ | ⟨xzz, -⟩ | ⟨xzz, -⟩
            · exact xzz
            · rw [xzz] at hczz; exact absurd q2zz (hczz.ne (by decide))
            · rw [xzz] at hczz; exact absurd q2zz (hczz.ne (by decide))
          exact hgo 7 op (Or.inr (Or.inr (Or.inl ⟨rfl, ezz⟩))) (Or.inl ezz) hczz.1 ⟨z3, hbs, hb71, N3, hy3⟩ (z_f kzz q1zz)
      rcases s8 hTzz e2zz with ⟨q1zz, q2zz⟩ | ⟨q1zz, q2zz⟩
      · obtain ⟨z9, e9zz, h1⟩ := z_bd (z_t h1 q1zz)
        rcases s8 hTzz e9zz with ⟨r1zz, r2⟩ | ⟨r1zz, r2⟩
        · obtain ⟨z10, e10zz, h1⟩ := z_bd (z_t h1 r1zz)
          rcases s8 hTzz e10zz with ⟨u1zz, u2zz⟩ | ⟨u1zz, u2zz⟩
          · exact hend ⟨q2zz, r2, u2zz⟩ (Option.some.inj (z_t h1 u1zz)).symm
          · exact h46 37 u2zz (Or.inr (Or.inr rfl)) (z_f h1 u1zz)
        · exact h46 47 r2 (Or.inr (Or.inl rfl)) (z_f h1 r1zz)
      · exact h46 42 q2zz (Or.inl rfl) (z_f h1 q1zz)
set_option maxHeartbeats 200000 in
theorem term_eq {rS : Ob → Ob → Int32 → Option (Int32 × Ob × Ob)} (hSzz : SumH rS) {od : Bool} {rd oc o yzz : Ob} {k1zz k2zz pzz bzz Nzz : Nat} {tst p0zz : Int32} {zzz : Int32 × Ob × Ob} (hzz : PSt od rd oc o k1zz k2zz pzz bzz) (h30 : gI o 30 = p0zz) (hp0 : 0 ≤ p0zz.toInt) (hp8 : p0zz.toInt ≤ 8) (hbase : bzz = 0 ∨ (bnd (gA o 27 (bzz - 1))).toInt < 6) (h1 : f_X6_readTerm rS 12 400 rd oc p0zz = some zzz) (hy : lp_X9_readExpression_20 Nzz (tst, 1, o) = some yzz) : SumOut 6 od rd oc o zzz yzz tst k1zz k2zz pzz bzz NoMul := by
  unfold f_X6_readTerm at h1
  obtain ⟨z1, ez1, h1⟩ := z_bd h1
  rcases part_eq hSzz hzz h30 hp0 hp8 ez1 hy with gzz | ⟨g1, N4zz, o4zz, n, k1', hy4, g4, -⟩
  · have ezz : zzz = z1 := by rw [← Option.some.inj (z_t h1 gzz.1), ← gzz.1]
    rw [ezz]; exact Or.inl gzz
  · exact term_lp hSzz h30 hp0 hp8 hzz.2.2.2.2.2.2.2.2.1 hbase zfu N4zz 0 _ _ o4zz n k1' g4 (by decide) (by have : (0 : Int32).toInt = 0 := (by decide); omega) (z_f h1 (by rw [g1]; decide)) hy4
set_option maxHeartbeats 200000 in
theorem sum_lp {rS : Ob → Ob → Int32 → Option (Int32 × Ob × Ob)} (hSzz : SumH rS) {od : Bool} {rd oc o yzz : Ob} {k1zz k2zz pzz bzz : Nat} {tst p0zz : Int32} {zzz : Int32 × Ob × Ob} (h30 : gI o 30 = p0zz) (hp0 : 0 ≤ p0zz.toInt) (hp8 : p0zz.toInt ≤ 8) (hbzz : bzz ≤ 400) (hbase : bzz = 0 ∨ (bnd (gA o 27 (bzz - 1))).toInt < 5) :
    ∀ (Nzz N2 : Nat) (v2 : Int32) (rd1 oc1 o1 : Ob) (n k1' : Nat), GoodT 5 od rd oc o rd1 oc1 o1 k1zz k2zz pzz bzz n k1' → NoMul o1 → 0 ≤ v2.toInt → v2.toInt ≤ (k1' : Int) → lp_X6_readSum_12 rS 12 400 Nzz (p0zz, v2, rd1, oc1) = some zzz → lp_X9_readExpression_20 N2 (tst, 3, o1) = some yzz → SumOut 5 od rd oc o zzz yzz tst k1zz k2zz pzz bzz NoOp := by
  intro Nzz
  induction Nzz with
  | zero => intro N2 v2 rd1 oc1 o1 n k1' _ _ _ _ hzz; cases hzz
  | succ Nzz ihzz =>
    intro N2 v2 rd1 oc1 o1 n k1' gzz hnm hv0 hv h1 hy
    obtain ⟨hTzz, h19, hpos, hk13, hk11⟩ := gzz.tt
    have h1 : lb_X6_readSum_12 rS 12 400 (lp_X6_readSum_12 rS 12 400 Nzz) p0zz v2 rd1 oc1 = some zzz := h1
    unfold lb_X6_readSum_12 at h1
    have hend : ¬ IsS o1 43 → ¬ IsS o1 45 → zzz = (1, rd1, oc1) → SumOut 5 od rd oc o zzz yzz tst k1zz k2zz pzz bzz NoOp := fun qzz q' ezz => by rw [ezz]; exact Or.inr ⟨rfl, N2, o1, n, k1', hy, gzz, qzz, q', hnm⟩
    by_cases c4zz : (400 : Int32) ≤ v2
    · have d4zz := cv_le (a := 400) (b := v2.toInt) (by decide) rfl c4zz
      refine hend (fun wzz => ?_) (fun wzz => ?_) (Option.some.inj (z_t h1 c4zz)).symm <;> (have := IsS.lt hTzz wzz; omega)
    · have h1 := z_f h1 c4zz
      obtain ⟨N3, z3, hbs, hy3⟩ := ex_sum h19 hy
      obtain ⟨op, hb71, hop⟩ := bs_norm hTzz hbs
      have hgo : ∀ s : Int32, opB s op → (op = 20 ∨ op = 21) → gI o1 16 = 3 → bk_X6_readSum_52 rS 12 400 (lp_X6_readSum_12 rS 12 400 Nzz) p0zz v2 s rd1 oc1 = some zzz → SumOut 5 od rd oc o zzz yzz tst k1zz k2zz pzz bzz NoOp := by
        intro s hso hop h16zz kzz
        have hbn : (bnd op).toInt = 5 := by rcases hop with ezz | ezz <;> rw [ezz] <;> decide
        have hopr : 20 ≤ op.toInt ∧ op.toInt ≤ 24 := by rcases hop with ezz | ezz <;> rw [ezz] <;> decide
        have hn1 : ¬ op = -1 := by rcases hop with ezz | ezz <;> rw [ezz] <;> decide
        obtain ⟨z20, z21, z22, e20, e21zz, e22zz, e3zz⟩ := bs_op hn1 hb71
        have hy3 := hy3
        rw [e3zz] at hy3
        unfold bk_X6_readSum_52 at kzz
        obtain ⟨z4, ez4, kzz⟩ := z_bd kzz
        obtain ⟨z5, ez5, kzz⟩ := z_bd kzz
        obtain ⟨k3zz, i1zz, i2zz, i3zz, i4zz, i5zz, i6zz, i7zz, i8zz, i9zz, i10zz⟩ := op_in gzz hbzz hopr ⟨by omega, by omega⟩ (by rw [hbn]; exact hbase) h16zz e20 e21zz e22zz ez4
        rcases term_eq hSzz i1zz (i6zz.trans h30) hp0 hp8 (Or.inr (by rw [Nat.add_sub_cancel, i5zz, hbn]; decide)) ez5 hy3 with gb | ⟨g1, N4zz, o4zz, n', k1'', hy4, g4, gmzz⟩
        · have ezz : zzz = z5 := by rw [← Option.some.inj (z_t kzz gb.1), ← gb.1]
          rw [ezz]; exact Or.inl (gb.tr i2zz i3zz)
        · have kzz := z_f kzz (by rw [g1]; decide)
          obtain ⟨z6, ez6, kzz⟩ := z_bd kzz
          obtain ⟨x7, e7zz, kzz⟩ := z_lt kzz
          have g5zz := op_out (L := 5) i9zz i2zz i3zz i4zz i5zz i6zz i7zz i8zz i10zz hk13 g4 (by omega) (by omega) hopr hso ez6 rfl
          have kk := g4.tt.2.2.2.2
          have h400 := hTzz.1.2.2.2
          obtain ⟨aT, bT, xT1, xT2, xT3, xT4, -⟩ := hTzz.2.2.2.2
          have t7 : x7.toInt = v2.toInt + 1 := by rw [e7zz]; exact i32_add rfl (by decide) (by omega) (by omega)
          exact ihzz N4zz x7 z5.2.1 z6.2 o4zz (n + n') (k1'' + 1) g5zz gmzz (by omega) (by omega) kzz hy4
      have h37 : ∀ czz : Int32, IsS o1 czz → czz = 43 ∨ czz = 45 → bk_X6_readSum_37 rS 12 400 (lp_X6_readSum_12 rS 12 400 Nzz) p0zz v2 rd1 oc1 = some zzz → SumOut 5 od rd oc o zzz yzz tst k1zz k2zz pzz bzz NoOp := by
        intro czz hczz hcc kzz
        have hop' : (czz = 43 ∧ op = 20) ∨ (czz = 45 ∧ op = 21) := by
          have no : ∀ d : Int32, ¬ czz = d → ¬ IsS o1 d := fun d hdzz => hczz.ne hdzz
          rcases hcc with ezz | ezz <;> subst ezz
          · rcases hop with ⟨-, xzz⟩ | ⟨xzz, -⟩ | ⟨xzz, -⟩ | ⟨xzz, -⟩ | ⟨xzz, -⟩ | ⟨xzz, -⟩
            · exact Or.inl ⟨rfl, xzz⟩
            · exact absurd xzz (no _ (by decide))
            · exact absurd xzz (no _ (by decide))
            · exact absurd xzz (no _ (by decide))
            · exact absurd xzz (no _ (by decide))
            · exact absurd hczz xzz.1
          · rcases hop with ⟨xzz, -⟩ | ⟨-, xzz⟩ | ⟨xzz, -⟩ | ⟨xzz, -⟩ | ⟨xzz, -⟩ | ⟨xzz, -⟩
            · exact absurd xzz (no _ (by decide))
            · exact Or.inr ⟨rfl, xzz⟩
            · exact absurd xzz (no _ (by decide))
            · exact absurd xzz (no _ (by decide))
            · exact absurd xzz (no _ (by decide))
            · exact absurd hczz xzz.2.1
        unfold bk_X6_readSum_37 at kzz
        obtain ⟨za, ea, kzz⟩ := z_bd kzz
        rcases s8 hTzz ea with ⟨q1zz, q2zz⟩ | ⟨q1zz, q2zz⟩
        · have ezz : op = 21 := by
            rcases hop' with ⟨xzz, -⟩ | ⟨-, xzz⟩
            · rw [xzz] at hczz; exact absurd hczz q2zz
            · exact xzz
          exact hgo 6 (Or.inr (Or.inl ⟨rfl, ezz⟩)) (Or.inr ezz) hczz.1 (z_t kzz q1zz)
        · have ezz : op = 20 := by
            rcases hop' with ⟨-, xzz⟩ | ⟨xzz, -⟩
            · exact xzz
            · rw [xzz] at hczz; exact absurd q2zz (hczz.ne (by decide))
          exact hgo 5 (Or.inl ⟨rfl, ezz⟩) (Or.inl ezz) hczz.1 (z_f kzz q1zz)
      obtain ⟨z2, e2zz, h1⟩ := z_bd h1
      rcases s8 hTzz e2zz with ⟨q1zz, q2zz⟩ | ⟨q1zz, q2zz⟩
      · obtain ⟨z8, e8, h1⟩ := z_bd (z_t h1 q1zz)
        rcases s8 hTzz e8 with ⟨r1zz, r2⟩ | ⟨r1zz, r2⟩
        · exact hend q2zz r2 (Option.some.inj (z_t h1 r1zz)).symm
        · exact h37 45 r2 (Or.inr rfl) (z_f h1 r1zz)
      · exact h37 43 q2zz (Or.inl rfl) (z_f h1 q1zz)
set_option maxHeartbeats 200000 in
theorem sum_eq {rS : Ob → Ob → Int32 → Option (Int32 × Ob × Ob)} (hSzz : SumH rS) : SumH (fun rd oc p0zz => f_X6_readSum rS 12 400 rd oc p0zz) := by
  intro od rd oc o yzz k1zz k2zz pzz bzz Nzz tst p0zz zzz hzz h30 hp0 hp8 hbase h1 hy
  have h1 : f_X6_readSum rS 12 400 rd oc p0zz = some zzz := h1
  unfold f_X6_readSum at h1
  obtain ⟨z1, ez1, h1⟩ := z_bd h1
  rcases term_eq hSzz hzz h30 hp0 hp8 (by rcases hbase with qzz | qzz; exact Or.inl qzz; exact Or.inr (by omega)) ez1 hy with gzz | ⟨g1, N4zz, o4zz, n, k1', hy4, g4, gmzz⟩
  · have ezz : zzz = z1 := by rw [← Option.some.inj (z_t h1 gzz.1), ← gzz.1]
    rw [ezz]; exact Or.inl gzz
  · exact sum_lp hSzz h30 hp0 hp8 hzz.2.2.2.2.2.2.2.2.1 hbase zfu N4zz 0 _ _ o4zz n k1' (g4.le (by decide)) gmzz (by decide) (by have : (0 : Int32).toInt = 0 := (by decide); omega) (z_f h1 (by rw [g1]; decide)) hy4
set_option maxHeartbeats 200000 in
theorem sums_all : ∀ d : Nat, SumH (fx_X6_readSum 12 400 d) := by
  intro d
  induction d with
  | zero => intro od rd oc o yzz k1zz k2zz pzz bzz Nzz tst p0zz zzz _ _ _ _ _ hzz; cases hzz
  | succ d ihzz =>
    have hzz := sum_eq ihzz
    exact hzz
set_option maxHeartbeats 200000 in
theorem ex_part_inv {Nzz : Nat} {v1zz : Int32} {o yzz : Ob} {zzz : Int32 × Ob} (h19 : gI o 19 = 0) (hz : f_X9_readPart o = some zzz) (hzz : lp_X9_readExpression_20 Nzz (v1zz, zzz.1, zzz.2) = some yzz) : lp_X9_readExpression_20 (Nzz + 1) (v1zz, 1, o) = some yzz := by
  show lb_X9_readExpression_20 (lp_X9_readExpression_20 Nzz) v1zz 1 o = some yzz
  unfold lb_X9_readExpression_20
  rw [if_pos h19, if_neg (show ¬ (1 : Int32) = 4 by decide), if_neg (show ¬ (1 : Int32) = 0 by decide), if_pos rfl, hz]
  exact hzz
set_option maxHeartbeats 200000 in
theorem inn_no {o : Ob} {Bzz : Nat} {zzz : Int32} (eB : (gI o 29).toInt = (Bzz : Int)) (hBzz : Bzz ≤ 400) (hl : ∀ jzz, jzz < Bzz → (gA o 27 jzz).toInt < 31) : ∀ (Nzz : Nat) (v2 : Int32) (izz : Nat), v2.toInt = (izz : Int) → izz ≤ Bzz → lp_X9_inner_4 o Nzz (-1, v2) = some zzz → zzz = -1 := by
  intro Nzz
  induction Nzz with
  | zero => intro v2 izz _ _ hzz; cases hzz
  | succ Nzz ihzz =>
    intro v2 izz e2zz hizz hzz
    have hzz : lb_X9_inner_4 o (lp_X9_inner_4 o Nzz) (-1) v2 = some zzz := hzz
    unfold lb_X9_inner_4 at hzz
    by_cases czz : gI o 29 ≤ v2
    · exact (Option.some.inj (z_t hzz czz)).symm
    · have d := cv_nle (a := (Bzz : Int)) (b := (izz : Int)) eB e2zz czz
      obtain ⟨-, hzz⟩ := z_gd (z_f hzz czz)
      have i2zz : v2.toNatClampNeg = izz := tnc_eq e2zz
      rw [i2zz] at hzz
      have gzz := hl izz (by omega)
      have hzz := z_t hzz (Int32.lt_iff_toInt_lt.mpr (by have c31zz : (31 : Int32).toInt = 31 := (by decide); omega))
      unfold bk_X9_inner_33 at hzz
      obtain ⟨x2zz, ezz, hzz⟩ := z_lt hzz
      have t : x2zz.toInt = (izz : Int) + 1 := by rw [ezz]; exact i32_add e2zz (by decide) (by omega) (by omega)
      exact ihzz x2zz (izz + 1) (by omega) (by omega) hzz
def InT (o : Ob) (Bzz : Nat) : Prop := (∀ jzz, jzz < Bzz → (gA o 27 jzz).toInt < 31) ∨ ∃ czz, czz < Bzz ∧ gA o 27 czz = 31 ∧ ∀ jzz, czz < jzz → jzz < Bzz → (gA o 27 jzz).toInt < 31
set_option maxHeartbeats 200000 in
theorem InT.inner {o : Ob} {Bzz : Nat} {zzz : Int32} (hzz : InT o Bzz) (eB : (gI o 29).toInt = (Bzz : Int)) (hBzz : Bzz ≤ 400) (hz : f_X9_inner o = some zzz) : zzz = -1 ∨ zzz = 31 := by
  rcases hzz with hzz | ⟨czz, hczz, h1, h2⟩
  · exact Or.inl (inn_no eB hBzz hzz zfu 0 0 (by decide) (Nat.zero_le _) hz)
  · exact Or.inr ((inn_top eB hBzz hczz (by rw [h1]; decide) h2 hz).trans h1)
set_option maxHeartbeats 200000 in
theorem InT.ext {o o' : Ob} {bzz Bzz : Nat} (hzz : InT o bzz) (hbzz : bzz ≤ Bzz) (ezz : ∀ jzz, jzz < bzz → gA o' 27 jzz = gA o 27 jzz) (hl : ∀ jzz, bzz ≤ jzz → jzz < Bzz → (gA o' 27 jzz).toInt < 31) : InT o' Bzz := by
  rcases hzz with hzz | ⟨czz, hczz, h1, h2⟩
  · refine Or.inl (fun jzz hj => ?_)
    rcases (show jzz < bzz ∨ bzz ≤ jzz by omega) with qzz | qzz
    · rw [ezz jzz qzz]; exact hzz jzz qzz
    · exact hl jzz qzz hj
  · refine Or.inr ⟨czz, by omega, (ezz czz hczz).trans h1, fun jzz x1zz x2zz => ?_⟩
    rcases (show jzz < bzz ∨ bzz ≤ jzz by omega) with qzz | qzz
    · rw [ezz jzz qzz]; exact h2 jzz x1zz qzz
    · exact hl jzz qzz x2zz
set_option maxHeartbeats 200000 in
theorem ic_lp {o : Ob} {bzz Bzz : Nat} {zzz : Int32} (hBzz : Bzz ≤ 400) (hl : ∀ jzz, bzz ≤ jzz → jzz < Bzz → 20 ≤ (gA o 27 jzz).toInt ∧ (gA o 27 jzz).toInt ≤ 24) (hn : bzz = 0 ∨ 25 ≤ (gA o 27 (bzz - 1)).toInt) : ∀ (Nzz : Nat) (vzz : Int32) (izz : Nat), vzz.toInt = (izz : Int) - 1 → bzz ≤ izz → izz ≤ Bzz → lp_X9_isCompared_7 o Nzz vzz = some zzz → ((bzz = 0 ∨ 28 ≤ (gA o 27 (bzz - 1)).toInt) → zzz = 0) ∧ (0 < bzz → (gA o 27 (bzz - 1)).toInt ≤ 27 → ¬ zzz = 0) := by
  have c20zz : (20 : Int64).toInt = 20 := by decide
  have c24zz : (24 : Int64).toInt = 24 := by decide
  have c25zz : (25 : Int64).toInt = 25 := by decide
  have c27zz : (27 : Int64).toInt = 27 := by decide
  intro Nzz
  induction Nzz with
  | zero => intro vzz izz _ _ _ hzz; cases hzz
  | succ Nzz ihzz =>
    intro vzz izz ezz hbi hizz hzz
    have hzz : lb_X9_isCompared_7 o (lp_X9_isCompared_7 o Nzz) vzz = some zzz := hzz
    unfold lb_X9_isCompared_7 at hzz
    have h36 : izz = bzz → bk_X9_isCompared_36 o vzz = some zzz → ((bzz = 0 ∨ 28 ≤ (gA o 27 (bzz - 1)).toInt) → zzz = 0) ∧ (0 < bzz → (gA o 27 (bzz - 1)).toInt ≤ 27 → ¬ zzz = 0) := by
      intro eb kzz
      unfold bk_X9_isCompared_36 at kzz
      by_cases czz : vzz < (0 : Int32)
      · have d := cv_lt (a := (izz : Int) - 1) (b := 0) ezz (by decide) czz
        have ez := (Option.some.inj (z_t kzz czz)).symm
        exact ⟨fun _ => ez, fun qzz => by omega⟩
      · have d := cv_nlt (a := (izz : Int) - 1) (b := 0) ezz (by decide) czz
        obtain ⟨-, kzz⟩ := z_gd (z_f kzz czz)
        obtain ⟨z3, e3zz, kzz⟩ := z_bd kzz
        have ivzz : vzz.toNatClampNeg = bzz - 1 := tnc_eq (by omega)
        rw [ivzz] at e3zz
        rcases in_iff _ _ _ _ e3zz with ⟨a1zz, a2⟩ | ⟨a1zz, a2, a3⟩
        · rw [Int32.toInt_toInt64, c25zz, c27zz] at a2
          have ez := (Option.some.inj (z_t kzz a1zz)).symm
          refine ⟨fun _ => ez, fun q1zz q2zz => ?_⟩
          rcases hn with uzz | uzz
          · omega
          · exact absurd ⟨uzz, q2zz⟩ a2
        · rw [Int32.toInt_toInt64, c25zz] at a2
          rw [Int32.toInt_toInt64, c27zz] at a3
          have ez := (Option.some.inj (z_f kzz a1zz)).symm
          exact ⟨fun qzz => by omega, fun _ _ => by rw [ez]; decide⟩
    by_cases czz : vzz < (0 : Int32)
    · have d := cv_lt (a := (izz : Int) - 1) (b := 0) ezz (by decide) czz
      exact h36 (by omega) (z_t hzz czz)
    · have d := cv_nlt (a := (izz : Int) - 1) (b := 0) ezz (by decide) czz
      obtain ⟨-, hzz⟩ := z_gd (z_f hzz czz)
      obtain ⟨z5, e5zz, hzz⟩ := z_bd hzz
      have ivzz : vzz.toNatClampNeg = izz - 1 := tnc_eq (by omega)
      rw [ivzz] at e5zz
      rcases in_iff _ _ _ _ e5zz with ⟨a1zz, a2⟩ | ⟨a1zz, a2, a3⟩
      · rw [Int32.toInt_toInt64, c20zz, c24zz] at a2
        refine h36 ?_ (z_t hzz a1zz)
        rcases (show izz = bzz ∨ bzz ≤ izz - 1 by omega) with qzz | qzz
        · exact qzz
        · exact absurd (hl (izz - 1) qzz (by omega)) a2
      · rw [Int32.toInt_toInt64, c24zz] at a3
        obtain ⟨x6, e6zz, hzz⟩ := z_lt (z_f hzz a1zz)
        have t : x6.toInt = (izz : Int) - 1 + (-1) := by rw [e6zz]; exact i32_add ezz (by decide) (by omega) (by omega)
        have hbi' : bzz ≤ izz - 1 := by
          rcases (show izz = bzz ∨ bzz ≤ izz - 1 by omega) with qzz | qzz
          · rcases hn with uzz | uzz
            · omega
            · rw [qzz] at a3; omega
          · exact qzz
        exact ihzz x6 (izz - 1) (by omega) hbi' (by omega) hzz
set_option maxHeartbeats 200000 in
theorem ic_of {o : Ob} {bzz Bzz : Nat} {zzz : Int32} (eB : (gI o 29).toInt = (Bzz : Int)) (hbzz : bzz ≤ Bzz) (hBzz : Bzz ≤ 400) (hl : ∀ jzz, bzz ≤ jzz → jzz < Bzz → 20 ≤ (gA o 27 jzz).toInt ∧ (gA o 27 jzz).toInt ≤ 24) (hn : bzz = 0 ∨ 25 ≤ (gA o 27 (bzz - 1)).toInt) (hzz : f_X9_isCompared o = some zzz) : ((bzz = 0 ∨ 28 ≤ (gA o 27 (bzz - 1)).toInt) → zzz = 0) ∧ (0 < bzz → (gA o 27 (bzz - 1)).toInt ≤ 27 → ¬ zzz = 0) := by
  unfold f_X9_isCompared at hzz
  obtain ⟨x1zz, e1zz, hzz⟩ := z_lt hzz
  have t : x1zz.toInt = (Bzz : Int) - 1 := by rw [e1zz]; exact i32_sub eB (by decide) (by omega) (by omega)
  exact ic_lp hBzz hl hn zfu x1zz Bzz t hbzz (Nat.le_refl _) hzz
def GoodC (L : Int) (od : Bool) (rd oc o rd' oc' o' : Ob) (k1zz k2zz pzz bzz n k1' : Nat) : Prop := ∃ k2' b' : Nat, k1zz ≤ k1' ∧ PSt od rd' oc' o' k1' k2' pzz b' ∧ bzz ≤ b' ∧ RF o o' ∧ CF rd oc rd' oc' ∧ (∀ jzz, jzz < bzz → gA o' 27 jzz = gA o 27 jzz ∧ gA o' 28 jzz = gA o 28 jzz) ∧ (∀ jzz, bzz ≤ jzz → jzz < b' → 20 ≤ (gA o' 27 jzz).toInt ∧ (gA o' 27 jzz).toInt ≤ 30) ∧ gI o' 30 = gI o 30 ∧ (∀ jzz, jzz < k1zz → gA oc' 5 jzz = gA oc 5 jzz ∧ gA oc' 6 jzz = gA oc 6 jzz) ∧ ckp k2zz o o' ∧ (gI o' 26).toInt = (gI o 26).toInt + (n : Int) ∧
  PEs L o' bzz (fun o3zz => ∃ k3zz : Nat, (gI o3zz 23).toInt = (k3zz : Int) ∧ k3zz ≤ 400 ∧ ckp k2zz o o3zz ∧ Sx od (gA oc' 5) (gA oc' 6) (gA o3zz 24) (gA o3zz 25) true k1zz k1' k2zz k3zz n)
set_option maxHeartbeats 200000 in
theorem GoodC.le {L L' : Int} {od : Bool} {rd oc o rd' oc' o' : Ob} {k1zz k2zz pzz bzz n k1' : Nat} (hzz : GoodC L od rd oc o rd' oc' o' k1zz k2zz pzz bzz n k1') (hl : L' ≤ L) : GoodC L' od rd oc o rd' oc' o' k1zz k2zz pzz bzz n k1' := by
  obtain ⟨k2', b', h0, h1, h2, h3, h4, h5, h6, h7, h8, h9, h10, h11⟩ := hzz
  exact ⟨k2', b', h0, h1, h2, h3, h4, h5, h6, h7, h8, h9, h10, h11.le hl⟩
set_option maxHeartbeats 200000 in
theorem cmp_in {od : Bool} {rd oc o rd1 oc1 o1 rd2 : Ob} {k1zz k2zz pzz bzz n k1' : Nat} {op : Int32} {z10 z11 z12 : Ob} (gzz : GoodT 5 od rd oc o rd1 oc1 o1 k1zz k2zz pzz bzz n k1') (hbzz : bzz ≤ 400) (hbase : bzz = 0 ∨ (bnd (gA o 27 (bzz - 1))).toInt < 5) (hs : gI o1 16 = 3)
    (e10zz : f_X9_next o1 = some z10) (e11zz : f_X9_settle z10 5 = some z11) (e12zz : f_X9_push z11 op 0 = some z12) (ec : f_X6_step rd1 = some rd2) :
    ∃ k3zz : Nat, PSt od rd2 oc1 z12 k1' k3zz (pzz + 1) (bzz + 1) ∧ RF o z12 ∧ CF rd oc rd2 oc1 ∧ (∀ jzz, jzz < bzz → gA z12 27 jzz = gA o 27 jzz ∧ gA z12 28 jzz = gA o 28 jzz) ∧ gA z12 27 bzz = op ∧ gI z12 30 = gI o 30 ∧ ckp k2zz o z12 ∧ (gI z12 26).toInt = (gI o 26).toInt + (n : Int) ∧ Sx od (gA oc1 5) (gA oc1 6) (gA z12 24) (gA z12 25) false k1zz k1' k2zz k3zz n ∧ bzz < 400 := by
  obtain ⟨k2', b', h0, h1, h2, h3, h4, h5, h6, h7, h8, h9, h10, h11⟩ := gzz
  obtain ⟨hTzz, h19, e5zz, hr, ek1, ek2, hp, eb, hb', hk2, hMzz⟩ := h1
  have topzz : bzz = 0 ∨ (bnd (gA o1 27 (bzz - 1))).toInt < (5 : Int32).toInt := by
    rcases (show bzz = 0 ∨ 0 < bzz by omega) with uzz | uzz
    · exact Or.inl uzz
    · rcases hbase with qzz | qzz
      · exact Or.inl qzz
      · exact Or.inr (by rw [(h5 (bzz - 1) (by omega)).1]; exact qzz)
  obtain ⟨azz, bb, ea, ebb, hab, hbb, hx⟩ := hTzz.2.2.2.2
  have hbb' : bb = azz + 1 := by
    rcases hx with ⟨uzz, -⟩ | ⟨uzz, -⟩ | ⟨uzz, -⟩ | ⟨-, uzz, -⟩
    · exact absurd (uzz.symm.trans hs) (by decide)
    · exact absurd (uzz.symm.trans hs) (by decide)
    · exact absurd (uzz.symm.trans hs) (by decide)
    · exact uzz
  obtain ⟨T1, T2, T3, T4⟩ := tk_eq hTzz.1 hTzz.2.2.2.1 (by omega) (by omega) ec e10zz
  obtain ⟨s1zz, s2zz, k3zz, s3zz, s4zz, s5, s6zz⟩ := h11.done T3 hbzz (by decide) (by decide) topzz e11zz
  obtain ⟨p1zz, p2zz, p3zz, p4zz, p5zz, p6zz, p7zz, p8zz, p9zz⟩ := push9 s1zz hbzz e12zz
  have hT2 : TT rd2 z12 := by
    refine T1.cg rfl rfl rfl rfl rfl rfl ?_ ?_ ?_ ?_ ?_ ?_
    · rw [p6zz 13 (by decide)]; exact s2zz.1 13 (by decide) (by decide)
    · rw [p7zz 12 (by decide) (by decide)]; exact s2zz.2.2.1 12 (by decide) (by decide)
    · rw [p6zz 14 (by decide)]; exact s2zz.1 14 (by decide) (by decide)
    · rw [p6zz 15 (by decide)]; exact s2zz.1 15 (by decide) (by decide)
    · rw [p6zz 16 (by decide)]; exact s2zz.1 16 (by decide) (by decide)
    · exact (congrFun p8zz 17).trans (congrFun s2zz.2.1 17)
  have k14 : gI z12 14 = gI z10 14 := (p6zz 14 (by decide)).trans (s2zz.1 14 (by decide) (by decide))
  have rp : RF z11 z12 := ⟨fun izz _ _ _ _ _ _ _ azz _ => p6zz izz azz, fun izz _ _ azz czz => p7zz izz azz czz, p9zz⟩
  have r1zz : RF o1 z12 := T3.rr.tr (s2zz.rr.tr rp)
  have i26 : gI z12 26 = gI o1 26 := (p6zz 26 (by decide)).trans ((s2zz.1 26 (by decide) (by decide)).trans (T3.1 26 (by decide) (by decide) (by decide)))
  have i23 : (gI z12 23).toInt = (k3zz : Int) := by rw [p6zz 23 (by decide)]; exact s3zz
  refine ⟨k3zz, ⟨hT2, ?_, ?_, by rw [i26]; exact hr, ek1, i23, ?_, ?_, by omega, s4zz, hMzz.fr (oc := oc1) (oc' := oc1) T2.cc r1zz⟩, h3.tr r1zz, h4.tr T2.cc, fun jzz hj => ?_, p3zz, ?_, fun jzz hj => ?_, by rw [i26]; exact h10, ?_, p1zz⟩
  · rw [p6zz 19 (by decide), s2zz.1 19 (by decide) (by decide), T3.1 19 (by decide) (by decide) (by decide)]; exact h19
  · rw [T2.1 5 (by decide) (by decide) (by decide) (by decide), i26]; exact e5zz
  · rw [k14]; omega
  · omega
  · rw [(p5zz jzz (by omega)).1, (p5zz jzz (by omega)).2, s2zz.2.2.1 27 (by decide) (by decide), s2zz.2.2.1 28 (by decide) (by decide), T3.gA 27, T3.gA 28]; exact h5 jzz hj
  · rw [p6zz 30 (by decide), s2zz.1 30 (by decide) (by decide), T3.1 30 (by decide) (by decide) (by decide)]; exact h7
  · rw [p7zz 24 (by decide) (by decide), p7zz 25 (by decide) (by decide)]; exact s5 jzz hj
  · rw [p7zz 24 (by decide) (by decide), p7zz 25 (by decide) (by decide)]; exact s6zz
set_option maxHeartbeats 200000 in
theorem cmp_out {L L' : Int} {od : Bool} {rd oc o rd2 oc1 o2 rd3 oc3 o3zz oc4 : Ob} {k1zz k2zz pzz bzz n n' k1' k3zz k1'' : Nat} {op s : Int32} {z7 : Int32 × Ob} (hSzz : Sx od (gA oc1 5) (gA oc1 6) (gA o2 24) (gA o2 25) false k1zz k1' k2zz k3zz n) (rzz : RF o o2) (czz : CF rd oc rd2 oc1) (hpl : ∀ jzz, jzz < bzz → gA o2 27 jzz = gA o 27 jzz ∧ gA o2 28 jzz = gA o 28 jzz) (hop : gA o2 27 bzz = op) (h30 : gI o2 30 = gI o 30) (hck : ckp k2zz o o2) (h26 : (gI o2 26).toInt = (gI o 26).toInt + (n : Int)) (hbzz : bzz < 400) (hk13 : ∀ jzz, jzz < k1zz → gA oc1 5 jzz = gA oc 5 jzz ∧ gA oc1 6 jzz = gA oc 6 jzz)
    (gzz : GoodT L' od rd2 oc1 o2 rd3 oc3 o3zz k1' k3zz (pzz + 1) (bzz + 1) n' k1'') (hL : L ≤ L') (hbn : L ≤ (bnd op).toInt) (hopr : 25 ≤ op.toInt ∧ op.toInt ≤ 27) (hCO : opC s op) (ez : f_X0_add 12 400 oc3 s 0 = some z7) (e4zz : oc4 = z7.2) :
    GoodC L od rd oc o rd3 oc4 o3zz k1zz k2zz pzz bzz (n + n') (k1'' + 1) := by
  have hlt := hSzz.lt
  obtain ⟨k2', b', h0, h1, h2, h3, h4, h5, h6, h7, h8, h9, h10, h11⟩ := gzz
  obtain ⟨hTzz, h19, e5zz, hr, ek1, ek2, hp, eb, hb', hk2, hMzz⟩ := h1
  obtain ⟨azz, bb, ea, ebb, hab, hbb, -⟩ := hTzz.2.2.2.2
  have h400 := hTzz.1.2.2.2
  obtain ⟨d1zz, d2zz, d3zz, d4zz, d5zz, d6zz, d7zz⟩ := add8 ek1 (by omega) ez
  subst e4zz
  have cfzz : CF rd oc rd3 z7.2 := czz.tr (h4.tr (CF.add d6zz d7zz))
  refine ⟨k2', b', by omega, ⟨hTzz, h19, e5zz, hr, by omega, ek2, by omega, eb, hb', hk2, hMzz⟩, by omega, rzz.tr h3, cfzz, fun jzz hj => ?_, fun jzz azz czz => ?_, h7.trans h30, fun jzz hj => ?_, hck.tr (h9.le (by omega)), by omega, fun o3' f3zz Nzz lv yzz hl1 hl2 hy => ?_⟩
  · rw [(h5 jzz (by omega)).1, (h5 jzz (by omega)).2]; exact hpl jzz hj
  · rcases (show jzz = bzz ∨ bzz + 1 ≤ jzz by omega) with qzz | qzz
    · rw [qzz, (h5 bzz (by omega)).1, hop]; omega
    · have := h6 jzz qzz czz; omega
  · have w8 := h8 jzz (by omega)
    have w5 := d5zz jzz (by omega)
    rw [w5.1, w5.2, w8.1, w8.2]; exact hk13 jzz hj
  · obtain ⟨N', o4zz, q1zz, q2zz, q3zz, k4zz, q4zz, q5zz, q6zz, q7zz⟩ := h11 o3' f3zz Nzz lv yzz hl1 (by omega) hy
    have e27zz : gA o4zz 27 bzz = op := by rw [q3zz.2.2.1 27 (by decide) (by decide), f3zz.gA 27, (h5 bzz (by omega)).1]; exact hop
    have lt7 := q7zz.lt
    have n29 : ¬ op = 29 := fun ezz => by rw [ezz] at hopr; revert hopr; decide
    have n30zz : ¬ op = 30 := fun ezz => by rw [ezz] at hopr; revert hopr; decide
    obtain ⟨N'', o5zz, u1zz, u2zz, u3, u4zz, u5, u6, u7, u8⟩ := st_op (bzz := bzz) (czz := k4zz) (by omega) hbzz q4zz q5zz ⟨by rw [e27zz]; exact n29, by rw [e27zz]; exact n30zz⟩ (by rw [e27zz]; omega) q1zz
    refine ⟨N'', o5zz, u1zz, u5, q3zz.tr u2zz, k4zz + 1, by omega, by omega, ?_, ?_⟩
    · exact (hck.tr (q6zz.le (by omega))).tr (u3.le (by omega))
    · have cl := Sx.cl od (gA z7.2 5) (gA z7.2 6) (gA o5zz 24) (gA o5zz 25)
      refine cl.2.2.2.1 k1zz k1' k1'' k2zz k3zz k4zz n n' ?_ ?_ ?_
      · refine hSzz.eq (fun jzz x1zz x2zz => ?_) (fun jzz x1zz x2zz => ?_)
        · have w5 := d5zz jzz (by omega)
          have w8 := h8 jzz x2zz
          rw [w5.1, w5.2]; exact w8
        · have v1zz := u3 jzz (by omega)
          have v2 := q6zz jzz x2zz
          rw [v1zz.1, v1zz.2]; exact v2
      · refine q7zz.eq (fun jzz x1zz x2zz => d5zz jzz (by omega)) (fun jzz x1zz x2zz => u3 jzz x2zz)
      · rw [d3zz, u6, e27zz]; exact hCO
set_option maxHeartbeats 200000 in
theorem iw8 {rd o : Ob} {t : Nat} {R : List Int} {zzz : Int32} (hzz : TT rd o) (ht : t < 9) (hczz : chnT t 0 [R] = true) (hz : f_X6_isWord rd t = some zzz) : (zzz = 0 ∧ ¬ IsW o R) ∨ (¬ zzz = 0 ∧ IsW o R) := by
  unfold f_X6_isWord at hz
  obtain ⟨z1, e1zz, hz⟩ := z_bd hz
  rcases wo8 hzz ht hczz (by show (1 : Nat) ≤ 20; decide) e1zz with ⟨jzz, R', ezz, ej, wzz⟩ | ⟨ezz, wzz⟩
  · cases jzz with
    | zero =>
      have eR : some R = some R' := ezz
      have e0zz : z1 = 0 := Int32.toInt_inj.mp (ej.trans (by decide))
      refine Or.inr ⟨?_, ?_⟩
      · rw [← Option.some.inj (z_t hz e0zz)]; decide
      · rw [Option.some.inj eR]; exact wzz
    | succ jzz => simp at ezz
  · exact Or.inl ⟨(Option.some.inj (z_f hz (by rw [ezz]; decide))).symm, wzz R (List.mem_singleton.mpr rfl)⟩
set_option maxHeartbeats 200000 in
theorem PEs.mono {L : Int} {o : Ob} {bzz : Nat} {R R' : Ob → Prop} (hzz : PEs L o bzz R) (hr : ∀ o3zz, R o3zz → R' o3zz) : PEs L o bzz R' := fun o' fzz Nzz lv yzz azz czz hy => by
  obtain ⟨N', o3zz, q1zz, q2zz, q3zz, q4zz⟩ := hzz o' fzz Nzz lv yzz azz czz hy
  exact ⟨N', o3zz, q1zz, q2zz, q3zz, hr o3zz q4zz⟩
def SNt (od : Bool) (s1zz w1zz s2zz w2zz : Nat → Int32) (k1zz k1' k2zz k3zz n izz : Nat) : Prop := (izz % 2 = 0 ∧ Sx od s1zz w1zz s2zz w2zz true k1zz k1' k2zz k3zz n) ∨ (izz % 2 = 1 ∧ ∃ czz : Nat, k3zz = czz + 1 ∧ s2zz czz = 28 ∧ Sx od s1zz w1zz s2zz w2zz true k1zz k1' k2zz czz n)
def NtR (od : Bool) (s1zz w1zz : Nat → Int32) (o : Ob) (k1zz k1' k2zz n izz : Nat) (o3zz : Ob) : Prop := ∃ k3zz : Nat, (gI o3zz 23).toInt = (k3zz : Int) ∧ k3zz ≤ 400 ∧ ckp k2zz o o3zz ∧ SNt od s1zz w1zz (gA o3zz 24) (gA o3zz 25) k1zz k1' k2zz k3zz n izz
set_option maxHeartbeats 200000 in
theorem not_step {L : Int} {od : Bool} {s1zz w1zz : Nat → Int32} {o o' : Ob} {k1zz k1' k2zz n czz izz : Nat} (hL : L ≤ 3) (hczz : czz < 400) (h28 : gA o' 27 czz = 28) (hzz : PEs L o' (czz + 1) (NtR od s1zz w1zz o k1zz k1' k2zz n izz)) : PEs L o' czz (NtR od s1zz w1zz o k1zz k1' k2zz n (izz + 1)) := by
  intro o2 f2zz Nzz lv yzz hl1 hl2 hy
  obtain ⟨N', o4zz, q1zz, q2zz, q3zz, k4zz, q4zz, q5zz, q6zz, q7zz⟩ := hzz o2 f2zz Nzz lv yzz hl1 hl2 hy
  have e27zz : gA o4zz 27 czz = 28 := by rw [q3zz.2.2.1 27 (by decide) (by decide), f2zz.gA 27]; exact h28
  have b28 : (bnd 28).toInt = 3 := by decide
  have lt7 : k2zz < k4zz := by
    rcases q7zz with ⟨-, wzz⟩ | ⟨-, c', ezz, -, wzz⟩
    · have := wzz.lt; omega
    · have := wzz.lt; omega
  obtain ⟨N'', o5zz, u1zz, u2zz, u3, u4zz, u5, u6, u7, u8⟩ := st_op (bzz := czz) (czz := k4zz) (by omega) hczz q4zz q5zz ⟨by rw [e27zz]; decide, by rw [e27zz]; decide⟩ (by rw [e27zz, b28]; omega) q1zz
  refine ⟨N'', o5zz, u1zz, u5, q3zz.tr u2zz, k4zz + 1, by omega, by omega, q6zz.tr (u3.le (by omega)), ?_⟩
  rcases q7zz with ⟨hizz, wzz⟩ | ⟨hizz, c', ezz, e28zz, wzz⟩
  · exact Or.inr ⟨by omega, k4zz, rfl, u6.trans e27zz, wzz.eq (fun jzz _ _ => ⟨rfl, rfl⟩) (fun jzz x1zz x2zz => u3 jzz x2zz)⟩
  · subst ezz
    have cl := Sx.cl od s1zz w1zz (gA o5zz 24) (gA o5zz 25)
    exact Or.inl ⟨by omega, cl.2.2.2.2.2.2 k1zz k1' k2zz c' n (wzz.eq (fun jzz _ _ => ⟨rfl, rfl⟩) (fun jzz x1zz x2zz => u3 jzz (by omega))) ((u3 c' (by omega)).1.trans e28zz) (u6.trans e27zz)⟩
set_option maxHeartbeats 200000 in
theorem nots_PE {L : Int} {od : Bool} {s1zz w1zz : Nat → Int32} {o o' : Ob} {k1zz k1' k2zz n : Nat} (hL : L ≤ 3) : ∀ (mzz czz izz : Nat), (∀ jzz, czz ≤ jzz → jzz < czz + mzz → gA o' 27 jzz = 28) → czz + mzz ≤ 400 → PEs L o' (czz + mzz) (NtR od s1zz w1zz o k1zz k1' k2zz n izz) → PEs L o' czz (NtR od s1zz w1zz o k1zz k1' k2zz n (izz + mzz)) := by
  intro mzz
  induction mzz with
  | zero => intro czz izz _ _ hzz; exact hzz
  | succ mzz ihzz =>
    intro czz izz h1 h2 hzz
    have h' := not_step hL (czz := czz + mzz) (by omega) (h1 (czz + mzz) (by omega) (by omega)) hzz
    have h3 := ihzz czz (izz + 1) (fun jzz azz bzz => h1 jzz azz (by omega)) (by omega) h'
    rw [show izz + 1 + mzz = izz + (mzz + 1) by omega] at h3
    exact h3
def NI (od : Bool) (rd oc o : Ob) (k1zz k2zz pzz bzz mzz : Nat) (rd1 o1 : Ob) : Prop := PSt od rd1 oc o1 k1zz k2zz (pzz + mzz) (bzz + mzz) ∧ RF o o1 ∧ CF rd oc rd1 oc ∧ (∀ jzz, jzz < bzz → gA o1 27 jzz = gA o 27 jzz ∧ gA o1 28 jzz = gA o 28 jzz) ∧ (∀ jzz, bzz ≤ jzz → jzz < bzz + mzz → gA o1 27 jzz = 28) ∧ gI o1 30 = gI o 30 ∧ gA o1 24 = gA o 24 ∧ gA o1 25 = gA o 25 ∧ gI o1 26 = gI o 26
set_option maxHeartbeats 200000 in
theorem NI.rf {od : Bool} {rd oc o : Ob} {k1zz k2zz pzz bzz : Nat} (hzz : PSt od rd oc o k1zz k2zz pzz bzz) : NI od rd oc o k1zz k2zz pzz bzz 0 rd o := ⟨hzz, RF.rf, CF.rf, fun _ _ => ⟨rfl, rfl⟩, fun jzz azz czz => by omega, rfl, rfl, rfl, rfl⟩
set_option maxHeartbeats 200000 in
theorem not_out {rT : Ob → Ob → Int32 → Option (Int32 × Ob × Ob)} {od : Bool} {rd oc o rd1 o1 rd3 oc3 o3zz : Ob} {k1zz k2zz pzz bzz n k1' mzz : Nat} {v2 : Int32} {zzz : Int32 × Ob × Ob} (hizz : NI od rd oc o k1zz k2zz pzz bzz mzz rd1 o1) (gzz : GoodC 3 od rd1 oc o1 rd3 oc3 o3zz k1zz k2zz (pzz + mzz) (bzz + mzz) n k1') (hv : (mzz % 2 = 0 ∧ v2 = 0) ∨ (mzz % 2 = 1 ∧ v2 = 1)) (h1 : bk_X6_readPlain_185 rT 12 400 v2 rd3 oc3 = some zzz) : zzz.1 = 1 ∧ zzz.2.1 = rd3 ∧ ∃ k1'' : Nat, GoodC 3 od rd oc o rd3 zzz.2.2 o3zz k1zz k2zz pzz bzz n k1'' := by
  obtain ⟨i1zz, i2zz, i3zz, i4zz, i5zz, i6zz, i7zz, i8zz, i9zz⟩ := hizz
  have hbm : bzz + mzz ≤ 400 := i1zz.2.2.2.2.2.2.2.2.1
  obtain ⟨k2', b', g0, g1, g2, g3zz, g4, g5zz, g6, g7, g8, g9, g10, g11⟩ := gzz
  obtain ⟨hTzz, h19, e5zz, hr, ek1, ek2, hp, eb, hb', hk2, hMzz⟩ := g1
  have ck0 : ckp k2zz o o1 := fun jzz _ => by rw [i7zz, i8zz]; exact ⟨rfl, rfl⟩
  have h28 : ∀ jzz, bzz ≤ jzz → jzz < bzz + mzz → gA o3zz 27 jzz = 28 := fun jzz x1zz x2zz => (g5zz jzz x2zz).1.trans (i5zz jzz x1zz x2zz)
  have hpl : ∀ jzz, jzz < bzz → gA o3zz 27 jzz = gA o 27 jzz ∧ gA o3zz 28 jzz = gA o 28 jzz := fun jzz hj => ⟨(g5zz jzz (by omega)).1.trans (i4zz jzz hj).1, (g5zz jzz (by omega)).2.trans (i4zz jzz hj).2⟩
  have c28zz : (28 : Int32).toInt = 28 := by decide
  have hrg : ∀ jzz, bzz ≤ jzz → jzz < b' → 20 ≤ (gA o3zz 27 jzz).toInt ∧ (gA o3zz 27 jzz).toInt ≤ 30 := fun jzz x1zz x2zz => by
    rcases (show jzz < bzz + mzz ∨ bzz + mzz ≤ jzz by omega) with qzz | qzz
    · rw [h28 jzz x1zz qzz, c28zz]; omega
    · exact g6 jzz qzz x2zz
  have hNzz := nots_PE (L := 3) (o := o1) (by decide) mzz bzz 0 h28 hbm (g11.mono (R' := NtR od (gA oc3 5) (gA oc3 6) o1 k1zz k1' k2zz n 0) (fun o4zz qzz => by
    obtain ⟨k3zz, q1zz, q2zz, q3zz, q4zz⟩ := qzz
    exact ⟨k3zz, q1zz, q2zz, q3zz, Or.inl ⟨rfl, q4zz⟩⟩))
  unfold bk_X6_readPlain_185 at h1
  rcases hv with ⟨hmzz, hv⟩ | ⟨hmzz, hv⟩
  · have ez := Option.some.inj (z_t h1 hv)
    rw [← ez]
    refine ⟨rfl, rfl, k1', k2', b', g0, ⟨hTzz, h19, e5zz, hr, ek1, ek2, by omega, eb, hb', hk2, hMzz⟩, by omega, i2zz.tr g3zz, i3zz.tr g4, hpl, hrg, g7.trans i6zz, g8, ck0.tr g9, by rw [g10, i9zz], hNzz.mono (fun o4zz qzz => ?_)⟩
    obtain ⟨k3zz, q1zz, q2zz, q3zz, q4zz⟩ := qzz
    rcases q4zz with ⟨-, wzz⟩ | ⟨ezz, -⟩
    · exact ⟨k3zz, q1zz, q2zz, ck0.tr q3zz, wzz⟩
    · omega
  · obtain ⟨z9, e9zz, h1⟩ := z_bd (z_f h1 (by rw [hv]; decide))
    have ez := Option.some.inj h1
    rw [← ez]
    obtain ⟨azz, bb, ea, ebb, hab, hbb, -⟩ := hTzz.2.2.2.2
    have h400 := hTzz.1.2.2.2
    obtain ⟨d1zz, d2zz, d3zz, d4zz, d5zz, d6zz, d7zz⟩ := add8 ek1 (by omega) e9zz
    refine ⟨rfl, rfl, k1' + 1, k2', b', by omega, ⟨hTzz, h19, e5zz, hr, by first | omega | (dsimp only; omega), ek2, by omega, eb, hb', hk2, hMzz⟩, by omega, i2zz.tr g3zz, i3zz.tr (g4.tr (CF.add d6zz d7zz)), hpl, hrg, g7.trans i6zz, fun jzz hj => ?_, ck0.tr g9, by rw [g10, i9zz], hNzz.mono (fun o4zz qzz => ?_)⟩
    · have w5 := d5zz jzz (by omega)
      rw [w5.1, w5.2]; exact g8 jzz hj
    · obtain ⟨k3zz, q1zz, q2zz, q3zz, q4zz⟩ := qzz
      rcases q4zz with ⟨ezz, -⟩ | ⟨-, c', ezz, e28zz, wzz⟩
      · omega
      · subst ezz
        have cl := Sx.cl od (gA z9.2 5) (gA z9.2 6) (gA o4zz 24) (gA o4zz 25)
        exact ⟨c' + 1, q1zz, q2zz, ck0.tr q3zz, cl.2.2.2.2.2.1 k1zz k1' k2zz c' n (wzz.eq (fun jzz x1zz x2zz => d5zz jzz (by omega)) (fun jzz _ _ => ⟨rfl, rfl⟩)) d3zz e28zz⟩
set_option maxHeartbeats 200000 in
theorem not_w : chnT 6 0 [[20, 15, 14]] = true := tx6_ok
set_option maxHeartbeats 200000 in
theorem nots_lp {rT : Ob → Ob → Int32 → Option (Int32 × Ob × Ob)} {od : Bool} {rd oc o yzz : Ob} {k1zz k2zz pzz bzz : Nat} {tst p0zz : Int32} {zzz : Int32 × Ob × Ob} :
    ∀ (Nzz N2 : Nat) (v2 v3 : Int32) (rd1 o1 : Ob) (mzz : Nat), NI od rd oc o k1zz k2zz pzz bzz mzz rd1 o1 → v3.toInt = (mzz : Int) → ((mzz % 2 = 0 ∧ v2 = 0) ∨ (mzz % 2 = 1 ∧ v2 = 1)) → lp_X6_readPlain_4 rT 12 400 Nzz (p0zz, v2, v3, rd1, oc) = some zzz → lp_X9_readExpression_20 N2 (tst, 0, o1) = some yzz →
    ∃ (N' m' : Nat) (v2' : Int32) (rd' o' : Ob), NI od rd oc o k1zz k2zz pzz bzz m' rd' o' ∧ ((m' % 2 = 0 ∧ v2' = 0) ∨ (m' % 2 = 1 ∧ v2' = 1)) ∧ ¬ IsW o' [20, 15, 14] ∧ bk_X6_readPlain_40 rT 12 400 p0zz v2' rd' oc = some zzz ∧ lp_X9_readExpression_20 N' (tst, 0, o') = some yzz := by
  intro Nzz
  induction Nzz with
  | zero => intro N2 v2 v3 rd1 o1 mzz _ _ _ hzz; cases hzz
  | succ Nzz ihzz =>
    intro N2 v2 v3 rd1 o1 mzz hizz e3zz hv hzz hy
    have hzz : lb_X6_readPlain_4 rT 12 400 (lp_X6_readPlain_4 rT 12 400 Nzz) p0zz v2 v3 rd1 oc = some zzz := hzz
    unfold lb_X6_readPlain_4 at hzz
    have hi' := hizz
    obtain ⟨i1zz, i2zz, i3zz, i4zz, i5zz, i6zz, i7zz, i8zz, i9zz⟩ := hizz
    obtain ⟨hTzz, h19, e5zz, hr, ek1, ek2, hp, eb, hbzz, hk2, hMzz⟩ := i1zz
    have h400 := hTzz.1.2.2.2
    obtain ⟨azz, bb, ea, ebb, hab, hbb, hx⟩ := hTzz.2.2.2.2
    by_cases c4zz : (400 : Int32) ≤ v3
    · have d4zz := cv_le (a := 400) (b := (mzz : Int)) (by decide) e3zz c4zz
      refine ⟨N2, mzz, v2, rd1, o1, hi', hv, fun wzz => ?_, z_t hzz c4zz, hy⟩
      obtain ⟨-, a', w1zz, w2zz, -⟩ := wzz
      have w2' : (gI o1 15).toInt = (a' : Int) + 3 := by rw [w2zz]; rfl
      omega
    · have d4zz := cv_nle (a := 400) (b := (mzz : Int)) (by decide) e3zz c4zz
      obtain ⟨z20, e20, hzz⟩ := z_bd (z_f hzz c4zz)
      rcases iw8 hTzz (by decide) not_w e20 with ⟨q1zz, q2zz⟩ | ⟨q1zz, q2zz⟩
      · exact ⟨N2, mzz, v2, rd1, o1, hi', hv, q2zz, z_t hzz q1zz, hy⟩
      · obtain ⟨z21, e21zz, hzz⟩ := z_bd (z_f hzz q1zz)
        obtain ⟨N3, zr, hzr, hy⟩ := ex_plain h19 hy
        unfold f_X9_readPlain at hzr
        obtain ⟨z1, ez1, hzr⟩ := z_bd hzr
        rcases w9 (R := [20, 15, 14]) hTzz (all_dig (by decide)) (by decide) (by decide) ez1 with ⟨u1zz, u2zz⟩ | ⟨u1zz, -⟩
        · exact absurd q2zz u2zz
        · obtain ⟨z5, ez5, hzr⟩ := z_bd (z_f hzr u1zz)
          obtain ⟨z6, ez6, hzr⟩ := z_bd hzr
          have ezr := Option.some.inj hzr
          rw [← ezr] at hy
          obtain ⟨p1zz, p2zz, p3zz, p4zz, p5zz, p6zz, p7zz, p8zz, p9zz⟩ := push9 eb hbzz ez5
          have hT2 : TT rd1 z5 := hTzz.cg rfl rfl rfl rfl rfl rfl (p6zz 13 (by decide)) (p7zz 12 (by decide) (by decide)) (p6zz 14 (by decide)) (p6zz 15 (by decide)) (p6zz 16 (by decide)) (congrFun p8zz 17)
          have k15 : gI z5 15 = gI o1 15 := p6zz 15 (by decide)
          have k13 : gI z5 13 = gI o1 13 := p6zz 13 (by decide)
          obtain ⟨T1, T2, T3, T4⟩ := tk_eq hT2.1 hT2.2.2.2.1 (by rw [k15]; omega) (by rw [k15, k13]; omega) e21zz ez6
          rw [k15] at T4
          have hlt : azz < bb := by
            obtain ⟨w0zz, a', w1zz, w2zz, -⟩ := q2zz
            have w2' : (gI o1 15).toInt = (a' : Int) + 3 := by rw [w2zz]; rfl
            omega
          have rp : RF o1 z5 := ⟨fun izz _ _ _ _ _ _ _ azz _ => p6zz izz azz, fun izz _ _ azz czz => p7zz izz azz czz, p9zz⟩
          have r1zz : RF o1 z6 := rp.tr T3.rr
          have j3zz : ∀ izz, izz ≠ 14 → izz ≠ 15 → izz ≠ 16 → izz ≠ 29 → gI z6 izz = gI o1 izz := fun izz x1zz x2zz x3 x4zz => (T3.1 izz x1zz x2zz x3).trans (p6zz izz x4zz)
          have jA : ∀ izz, izz ≠ 27 → izz ≠ 28 → gA z6 izz = gA o1 izz := fun izz x1zz x2zz => (T3.gA izz).trans (p7zz izz x1zz x2zz)
          have hn : NI od rd oc o k1zz k2zz pzz bzz (mzz + 1) z21 z6 := by
            refine ⟨⟨T1, ?_, ?_, ?_, ek1, ?_, ?_, ?_, by omega, hk2, hMzz.fr (oc := oc) (oc' := oc) T2.cc r1zz⟩, i2zz.tr r1zz, i3zz.tr T2.cc, fun jzz hj => ?_, fun jzz x1zz x2zz => ?_, ?_, ?_, ?_, ?_⟩
            · rw [j3zz 19 (by decide) (by decide) (by decide) (by decide)]; exact h19
            · rw [T2.1 5 (by decide) (by decide) (by decide) (by decide), j3zz 26 (by decide) (by decide) (by decide) (by decide)]; exact e5zz
            · rw [j3zz 26 (by decide) (by decide) (by decide) (by decide)]; exact hr
            · rw [j3zz 23 (by decide) (by decide) (by decide) (by decide)]; exact ek2
            · omega
            · rw [T3.1 29 (by decide) (by decide) (by decide)]; omega
            · rw [T3.gA 27, T3.gA 28, (p5zz jzz (by omega)).1, (p5zz jzz (by omega)).2]; exact i4zz jzz hj
            · rw [T3.gA 27]
              rcases (show jzz = bzz + mzz ∨ jzz < bzz + mzz by omega) with uzz | uzz
              · rw [uzz]; exact p3zz
              · rw [(p5zz jzz (by omega)).1]; exact i5zz jzz x1zz uzz
            · rw [j3zz 30 (by decide) (by decide) (by decide) (by decide)]; exact i6zz
            · rw [jA 24 (by decide) (by decide)]; exact i7zz
            · rw [jA 25 (by decide) (by decide)]; exact i8zz
            · rw [j3zz 26 (by decide) (by decide) (by decide) (by decide)]; exact i9zz
          rcases hv with ⟨hmzz, hv⟩ | ⟨hmzz, hv⟩
          · have hzz := z_t hzz hv
            unfold bk_X6_readPlain_33 at hzz
            obtain ⟨x22, e22zz, hzz⟩ := z_lt hzz
            have t : x22.toInt = (mzz : Int) + 1 := by rw [e22zz]; exact i32_add e3zz (by decide) (by omega) (by omega)
            exact ihzz N3 1 x22 z21 z6 (mzz + 1) hn (by omega) (Or.inr ⟨by omega, rfl⟩) hzz hy
          · have hzz := z_f hzz (by rw [hv]; decide)
            unfold bk_X6_readPlain_33 at hzz
            obtain ⟨x22, e22zz, hzz⟩ := z_lt hzz
            have t : x22.toInt = (mzz : Int) + 1 := by rw [e22zz]; exact i32_add e3zz (by decide) (by omega) (by omega)
            exact ihzz N3 0 x22 z21 z6 (mzz + 1) hn (by omega) (Or.inl ⟨by omega, rfl⟩) hzz hy
set_option maxHeartbeats 200000 in
theorem bnd_ge {xzz : Int32} (hzz : 28 ≤ xzz.toInt) : (bnd xzz).toInt < 4 := by
  unfold bnd
  by_cases c1zz : xzz < (31 : Int32)
  · have d1zz := cv_lt (a := xzz.toInt) (b := 31) rfl (by decide) c1zz
    rw [if_pos c1zz]
    by_cases c2zz : xzz = (30 : Int32)
    · rw [if_pos c2zz]; decide
    · rw [if_neg c2zz]
      by_cases c3zz : xzz = (29 : Int32)
      · rw [if_pos c3zz]; decide
      · rw [if_neg c3zz]
        by_cases c4zz : xzz = (28 : Int32)
        · rw [if_pos c4zz]; decide
        · have n2zz : ¬ xzz.toInt = 30 := fun ezz => c2zz (Int32.toInt_inj.mp (ezz.trans (by decide)))
          have n3zz : ¬ xzz.toInt = 29 := fun ezz => c3zz (Int32.toInt_inj.mp (ezz.trans (by decide)))
          have n4zz : ¬ xzz.toInt = 28 := fun ezz => c4zz (Int32.toInt_inj.mp (ezz.trans (by decide)))
          omega
  · rw [if_neg c1zz]; decide
set_option maxHeartbeats 200000 in
theorem bs_none {o : Ob} {Bzz : Nat} {tst : Int32} {zzz : Int32 × Ob} (hI : InT o Bzz) (eB : (gI o 29).toInt = (Bzz : Int)) (hBzz : Bzz ≤ 400) (ht : ¬ tst = 0) (hzz : bk_X9_behindSum_71 tst (-1) o = some zzz) : bk_X9_behindSum_163 o = some zzz := by
  unfold bk_X9_behindSum_71 at hzz
  obtain ⟨z6, e6zz, hzz⟩ := z_bd (z_t hzz rfl)
  rcases hI.inner eB hBzz e6zz with qzz | qzz
  · have hzz := z_f hzz (by rw [qzz]; decide)
    exact z_f (z_t hzz qzz) ht
  · have hzz := z_f hzz (by rw [qzz]; decide)
    exact z_f hzz (by rw [qzz]; decide)
set_option maxHeartbeats 200000 in
theorem bs_224 {o : Ob} {op : Int32} {zzz : Int32 × Ob} (h19 : gI o 19 = 0) (hk : ∀ z10, f_X9_next o = some z10 → gI z10 19 = 0) (hzz : bk_X9_behindSum_224 op 1 o = some zzz) : ∃ z10 z11 z12 : Ob, f_X9_next o = some z10 ∧ f_X9_settle z10 5 = some z11 ∧ f_X9_push z11 op 0 = some z12 ∧ zzz = (1, z12) := by
  unfold bk_X9_behindSum_224 at hzz
  obtain ⟨z10, e10zz, hzz⟩ := z_bd hzz
  have e10zz := mu_ok h19 (by decide) e10zz
  have hzz := z_t hzz (hk z10 e10zz)
  obtain ⟨z11, e11zz, hzz⟩ := z_bd hzz
  obtain ⟨z12, e12zz, hzz⟩ := z_bd hzz
  exact ⟨z10, z11, z12, e10zz, e11zz, e12zz, (Option.some.inj hzz).symm⟩
set_option maxHeartbeats 200000 in
theorem bs_cmp {rd o : Ob} {op : Int32} {zzz : Int32 × Ob} (hTzz : TT rd o) (h19 : gI o 19 = 0) (hk : ∀ z10, f_X9_next o = some z10 → gI z10 19 = 0) (hczz : ∀ z7, f_X9_isCompared o = some z7 → z7 = 0) (hs : (IsS o 60 ∧ op = 25) ∨ (IsS o 62 ∧ op = 26) ∨ (IsS o 61 ∧ op = 27)) (hzz : bk_X9_behindSum_163 o = some zzz) : ∃ z10 z11 z12 : Ob, f_X9_next o = some z10 ∧ f_X9_settle z10 5 = some z11 ∧ f_X9_push z11 op 0 = some z12 ∧ zzz = (1, z12) := by
  unfold bk_X9_behindSum_163 at hzz
  obtain ⟨z7, e7zz, hzz⟩ := z_bd hzz
  obtain ⟨z8, e8, hzz⟩ := z_bd (z_t hzz (hczz z7 e7zz))
  rcases s9 hTzz e8 with ⟨a1zz, a2⟩ | ⟨a1zz, a2⟩
  · obtain ⟨z9, e9zz, hzz⟩ := z_bd (z_t hzz a1zz)
    rcases s9 hTzz e9zz with ⟨b1, b2⟩ | ⟨b1, b2⟩
    · have hzz := z_t hzz b1
      have ezz : IsS o 61 ∧ op = 27 := by
        rcases hs with ⟨xzz, -⟩ | ⟨xzz, -⟩ | xzz
        · exact absurd xzz a2
        · exact absurd xzz b2
        · exact xzz
      unfold bk_X9_behindSum_202 at hzz
      obtain ⟨z13zz, e13zz, hzz⟩ := z_bd (z_t hzz rfl)
      rcases s9 hTzz e13zz with ⟨c1zz, c2zz⟩ | ⟨c1zz, -⟩
      · exact absurd ezz.1 c2zz
      · have hzz := z_f hzz c1zz
        unfold bk_X9_behindSum_219 at hzz
        rw [ezz.2]; exact bs_224 h19 hk hzz
    · have hzz := z_f hzz b1
      have ezz : op = 26 := by
        rcases hs with ⟨xzz, -⟩ | ⟨-, xzz⟩ | ⟨xzz, -⟩
        · exact absurd xzz a2
        · exact xzz
        · exact absurd b2 (xzz.ne (by decide))
      unfold bk_X9_behindSum_202 at hzz
      have hzz := z_f hzz (by decide)
      unfold bk_X9_behindSum_219 at hzz
      rw [ezz]; exact bs_224 h19 hk hzz
  · have hzz := z_f hzz a1zz
    have ezz : op = 25 := by
      rcases hs with ⟨-, xzz⟩ | ⟨xzz, -⟩ | ⟨xzz, -⟩
      · exact xzz
      · exact absurd a2 (xzz.ne (by decide))
      · exact absurd a2 (xzz.ne (by decide))
    unfold bk_X9_behindSum_202 at hzz
    have hzz := z_f hzz (by decide)
    unfold bk_X9_behindSum_219 at hzz
    rw [ezz]; exact bs_224 h19 hk hzz
set_option maxHeartbeats 200000 in
theorem bs_nocmp {rd o : Ob} {zzz : Int32 × Ob} (hTzz : TT rd o) (h19 : gI o 19 = 0) (hczz : ∀ z7, f_X9_isCompared o = some z7 → z7 = 0) (n1zz : ¬ IsS o 60) (n2zz : ¬ IsS o 62) (n3zz : ¬ IsS o 61) (hzz : bk_X9_behindSum_163 o = some zzz) : zzz = (1, sI (sI o 19 1) 18 (gI o 14)) := by
  unfold bk_X9_behindSum_163 at hzz
  obtain ⟨z7, e7zz, hzz⟩ := z_bd hzz
  obtain ⟨z8, e8, hzz⟩ := z_bd (z_t hzz (hczz z7 e7zz))
  rcases s9 hTzz e8 with ⟨a1zz, -⟩ | ⟨-, a2⟩
  · obtain ⟨z9, e9zz, hzz⟩ := z_bd (z_t hzz a1zz)
    rcases s9 hTzz e9zz with ⟨b1, -⟩ | ⟨-, b2⟩
    · have hzz := z_t hzz b1
      unfold bk_X9_behindSum_202 at hzz
      obtain ⟨z13zz, e13zz, hzz⟩ := z_bd (z_t hzz rfl)
      rcases s9 hTzz e13zz with ⟨c1zz, -⟩ | ⟨-, c2zz⟩
      · have hzz := z_t hzz c1zz
        unfold bk_X9_behindSum_224 at hzz
        obtain ⟨z10, e10zz, hzz⟩ := z_bd hzz
        have ezz := mu_no h19 e10zz
        have k19 : gI z10 19 = 1 := by rw [ezz]; rfl
        have hzz := z_f hzz (by rw [k19]; decide)
        rw [← Option.some.inj hzz, ezz]
      · exact absurd c2zz n3zz
    · exact absurd b2 n2zz
  · exact absurd a2 n1zz
set_option maxHeartbeats 200000 in
theorem NoOp.op {o : Ob} {op : Int32} (gno : NoOp o) (hop : (IsS o 43 ∧ op = 20) ∨ (IsS o 45 ∧ op = 21) ∨ (IsS o 42 ∧ op = 22) ∨ (IsS o 47 ∧ op = 23) ∨ (IsS o 37 ∧ op = 24) ∨ (NoOp o ∧ op = -1)) : op = -1 := by
  rcases hop with ⟨xzz, -⟩ | ⟨xzz, -⟩ | ⟨xzz, -⟩ | ⟨xzz, -⟩ | ⟨xzz, -⟩ | ⟨-, xzz⟩
  · exact absurd xzz gno.1
  · exact absurd xzz gno.2.1
  · exact absurd xzz gno.2.2.1
  · exact absurd xzz gno.2.2.2.1
  · exact absurd xzz gno.2.2.2.2
  · exact xzz
def PlOut (rT : Ob → Ob → Int32 → Option (Int32 × Ob × Ob)) (od : Bool) (rd oc o : Ob) (zzz : Int32 × Ob × Ob) (yzz : Ob) (tst v2 : Int32) (k1zz k2zz pzz bzz : Nat) : Prop := Bad rd oc o zzz yzz ∨ ∃ (rd3 oc3 o3zz : Ob) (n k1' N' : Nat), bk_X6_readPlain_185 rT 12 400 v2 rd3 oc3 = some zzz ∧ lp_X9_readExpression_20 N' (tst, 2, o3zz) = some yzz ∧ GoodC 3 od rd oc o rd3 oc3 o3zz k1zz k2zz pzz bzz n k1'
set_option maxHeartbeats 200000 in
theorem cmp_eq {rT : Ob → Ob → Int32 → Option (Int32 × Ob × Ob)} {od : Bool} {rd oc o yzz : Ob} {k1zz k2zz pzz bzz Nzz : Nat} {tst p0zz v2 s0zz czz op : Int32} {rd1 oc1 o1 : Ob} {zzz : Int32 × Ob × Ob} {n k1' : Nat} (h30 : gI o 30 = p0zz) (hp0 : 0 ≤ p0zz.toInt) (hp8 : p0zz.toInt ≤ 8) (hbzz : bzz ≤ 400) (hbase : bzz = 0 ∨ 28 ≤ (gA o 27 (bzz - 1)).toInt) (hI : InT o bzz) (ht : ¬ tst = 0)
    (gzz : GoodT 5 od rd oc o rd1 oc1 o1 k1zz k2zz pzz bzz n k1') (h163 : ∃ z3 : Int32 × Ob, bk_X9_behindSum_163 o1 = some z3 ∧ lp_X9_readExpression_20 Nzz (tst, z3.1, z3.2) = some yzz) (hcp : ∀ z7, f_X9_isCompared o1 = some z7 → z7 = 0) (hsc : IsS o1 czz) (hs : (czz = 60 ∧ s0zz = 10 ∧ op = 25) ∨ (czz = 62 ∧ s0zz = 11 ∧ op = 26) ∨ (czz = 61 ∧ s0zz = 12 ∧ op = 27)) (kzz : bk_X6_readPlain_150 rT 12 400 p0zz v2 s0zz rd1 oc1 = some zzz) : PlOut rT od rd oc o zzz yzz tst v2 k1zz k2zz pzz bzz := by
  obtain ⟨z3, h163, hy⟩ := h163
  obtain ⟨hTzz, h19, hpos, hk13, hk11⟩ := gzz.tt
  have hb5 : bzz = 0 ∨ (bnd (gA o 27 (bzz - 1))).toInt < 5 := by
    rcases hbase with qzz | qzz
    · exact Or.inl qzz
    · have := bnd_ge qzz; exact Or.inr (by omega)
  have hCO : opC s0zz op := by
    rcases hs with ⟨-, e1zz, e2zz⟩ | ⟨-, e1zz, e2zz⟩ | ⟨-, e1zz, e2zz⟩
    · exact Or.inl ⟨e1zz, e2zz⟩
    · exact Or.inr (Or.inl ⟨e1zz, e2zz⟩)
    · exact Or.inr (Or.inr ⟨e1zz, e2zz⟩)
  have hopr : (25 ≤ op.toInt ∧ op.toInt ≤ 27) ∧ (bnd op).toInt = 4 ∧ ¬ s0zz = -1 := by
    rcases hs with ⟨-, e1zz, e2zz⟩ | ⟨-, e1zz, e2zz⟩ | ⟨-, e1zz, e2zz⟩ <;> rw [e1zz, e2zz] <;> decide
  have hs' : (IsS o1 60 ∧ op = 25) ∨ (IsS o1 62 ∧ op = 26) ∨ (IsS o1 61 ∧ op = 27) := by
    rcases hs with ⟨ezz, -, e2zz⟩ | ⟨ezz, -, e2zz⟩ | ⟨ezz, -, e2zz⟩ <;> rw [ezz] at hsc
    · exact Or.inl ⟨hsc, e2zz⟩
    · exact Or.inr (Or.inl ⟨hsc, e2zz⟩)
    · exact Or.inr (Or.inr ⟨hsc, e2zz⟩)
  unfold bk_X6_readPlain_150 at kzz
  obtain ⟨z6, es, kzz⟩ := z_bd (z_f kzz hopr.2.2)
  obtain ⟨z7, ez7, kzz⟩ := z_bd kzz
  obtain ⟨azz, bb, ea, ebb, hab, hbb, -⟩ := hTzz.2.2.2.2
  have hk : ∀ z10, f_X9_next o1 = some z10 → gI z10 19 = 0 := fun z10 e10zz => ((tk_eq hTzz.1 hTzz.2.2.2.1 (by omega) (by omega) es e10zz).2.2.1.1 19 (by decide) (by decide) (by decide)).trans h19
  obtain ⟨z10, z11, z12, e10zz, e11zz, e12zz, ez3⟩ := bs_cmp hTzz h19 hk hcp hs' h163
  rw [ez3] at hy
  obtain ⟨k3zz, i1zz, i2zz, i3zz, i4zz, i5zz, i6zz, i7zz, i8zz, i9zz, i10zz⟩ := cmp_in gzz hbzz hb5 hsc.1 e10zz e11zz e12zz es
  rcases sums_all 10 od z6 oc1 z12 yzz k1' k3zz (pzz + 1) (bzz + 1) Nzz tst p0zz z7 i1zz (i6zz.trans h30) hp0 hp8 (Or.inr (by rw [Nat.add_sub_cancel, i5zz, hopr.2.1]; decide)) ez7 hy with gb | ⟨g1, N4zz, o4zz, n', k1'', hy4, g4, gno⟩
  · have ezz : zzz = z7 := by rw [← Option.some.inj (z_t kzz gb.1), ← gb.1]
    rw [ezz]; exact Or.inl (gb.tr i2zz i3zz)
  · have kzz := z_f kzz (by rw [g1]; decide)
    obtain ⟨z8, e8, kzz⟩ := z_bd kzz
    have gC := cmp_out (L := 3) i9zz i2zz i3zz i4zz i5zz i6zz i7zz i8zz i10zz hk13 g4 (by decide) (by rw [hopr.2.1]; decide) hopr.1 hCO e8 rfl
    have q4zz := g4.tt
    obtain ⟨N5, z5, hbs, hy5⟩ := ex_sum q4zz.2.1 hy4
    obtain ⟨op', hb71, hop'⟩ := bs_norm q4zz.1 hbs
    rw [gno.op hop'] at hb71
    obtain ⟨k2', b', w0zz, w1zz, w2zz, w3zz, w4zz, w5, w6zz, -⟩ := g4
    have eB := w1zz.2.2.2.2.2.2.2.1
    have hBzz := w1zz.2.2.2.2.2.2.2.2.1
    have e27zz : gA o4zz 27 bzz = op := (w5 bzz (by omega)).1.trans i5zz
    have hI4 : InT o4zz b' := hI.ext (by omega) (fun jzz hj => (w5 jzz (by omega)).1.trans (i4zz jzz hj).1) (fun jzz x1zz x2zz => by
      rcases (show jzz = bzz ∨ bzz + 1 ≤ jzz by omega) with qzz | qzz
      · rw [qzz, e27zz]; omega
      · have := w6zz jzz qzz x2zz; omega)
    have h163 := bs_none hI4 eB hBzz ht hb71
    unfold bk_X9_behindSum_163 at h163
    obtain ⟨z7', e7', h163⟩ := z_bd h163
    have ic := (ic_of (bzz := bzz + 1) eB w2zz hBzz w6zz (Or.inr (by rw [Nat.add_sub_cancel, e27zz]; exact hopr.1.1)) e7').2 (by omega) (by rw [Nat.add_sub_cancel, e27zz]; exact hopr.1.2)
    have ez5 := Option.some.inj (z_f h163 ic)
    rw [← ez5] at hy5
    exact Or.inr ⟨z7.2.1, z8.2, o4zz, n + n', k1'' + 1, N5, kzz, hy5, gC⟩
set_option maxHeartbeats 200000 in
theorem sums_eq {rT : Ob → Ob → Int32 → Option (Int32 × Ob × Ob)} {od : Bool} {rd oc o yzz : Ob} {k1zz k2zz pzz bzz Nzz : Nat} {tst p0zz v2 : Int32} {zzz z2 : Int32 × Ob × Ob} (hzz : PSt od rd oc o k1zz k2zz pzz bzz) (h30 : gI o 30 = p0zz) (hp0 : 0 ≤ p0zz.toInt) (hp8 : p0zz.toInt ≤ 8) (hbase : bzz = 0 ∨ 28 ≤ (gA o 27 (bzz - 1)).toInt) (hI : InT o bzz) (ht : ¬ tst = 0) (hy : lp_X9_readExpression_20 Nzz (tst, 1, o) = some yzz) (ez2 : fx_X6_readSum 12 400 10 rd oc p0zz = some z2)
    (h1 : (if z2.1 = (0 : Int32) then (some ((0 : Int32), z2.2.1, z2.2.2)) else ((f_X6_isSign z2.2.1 (60 : Int32)).bind fun z3 => if z3 = (0 : Int32) then ((f_X6_isSign z2.2.1 (62 : Int32)).bind fun z4 => if z4 = (0 : Int32) then ((f_X6_isSign z2.2.1 (61 : Int32)).bind fun z5 => if z5 = (0 : Int32) then (bk_X6_readPlain_150 rT 12 400 p0zz v2 (-1 : Int32) z2.2.1 z2.2.2) else (bk_X6_readPlain_150 rT 12 400 p0zz v2 (12 : Int32) z2.2.1 z2.2.2)) else (bk_X6_readPlain_150 rT 12 400 p0zz v2 (11 : Int32) z2.2.1 z2.2.2)) else (bk_X6_readPlain_150 rT 12 400 p0zz v2 (10 : Int32) z2.2.1 z2.2.2))) = some zzz) : PlOut rT od rd oc o zzz yzz tst v2 k1zz k2zz pzz bzz := by
  have hb5 : bzz = 0 ∨ (bnd (gA o 27 (bzz - 1))).toInt < 5 := by
    rcases hbase with qzz | qzz
    · exact Or.inl qzz
    · have := bnd_ge qzz; exact Or.inr (by omega)
  have hbzz := hzz.2.2.2.2.2.2.2.2.1
  rcases sums_all 10 od rd oc o yzz k1zz k2zz pzz bzz Nzz tst p0zz z2 hzz h30 hp0 hp8 hb5 ez2 hy with gb | ⟨g1, N4zz, o1, n, k1', hy4, gzz, gno⟩
  · have ezz : zzz = z2 := by rw [← Option.some.inj (z_t h1 gb.1), ← gb.1]
    rw [ezz]; exact Or.inl gb
  · have h1 := z_f h1 (by rw [g1]; decide)
    have gt := gzz.tt
    obtain ⟨N5, z5, hbs, hy5⟩ := ex_sum gt.2.1 hy4
    obtain ⟨op', hb71, hop'⟩ := bs_norm gt.1 hbs
    rw [gno.op hop'] at hb71
    have gg := gzz
    obtain ⟨k2', b', w0zz, w1zz, w2zz, w3zz, w4zz, w5, w6zz, -⟩ := gg
    have eB := w1zz.2.2.2.2.2.2.2.1
    have hBzz := w1zz.2.2.2.2.2.2.2.2.1
    have hI4 : InT o1 b' := hI.ext w2zz (fun jzz hj => (w5 jzz hj).1) (fun jzz x1zz x2zz => by have := w6zz jzz x1zz x2zz; omega)
    have h163 := bs_none hI4 eB hBzz ht hb71
    have hbase1 : bzz = 0 ∨ 28 ≤ (gA o1 27 (bzz - 1)).toInt := by
      rcases (show bzz = 0 ∨ 0 < bzz by omega) with uzz | uzz
      · exact Or.inl uzz
      · rcases hbase with qzz | qzz
        · exact Or.inl qzz
        · exact Or.inr (by rw [(w5 (bzz - 1) (by omega)).1]; exact qzz)
    have hcp : ∀ z7, f_X9_isCompared o1 = some z7 → z7 = 0 := fun z7 e7zz => (ic_of eB w2zz hBzz w6zz (by rcases hbase1 with qzz | qzz; exact Or.inl qzz; exact Or.inr (by omega)) e7zz).1 hbase1
    obtain ⟨z3, e3zz, h1⟩ := z_bd h1
    rcases s8 gt.1 e3zz with ⟨a1zz, a2⟩ | ⟨a1zz, a2⟩
    · obtain ⟨z4, e4zz, h1⟩ := z_bd (z_t h1 a1zz)
      rcases s8 gt.1 e4zz with ⟨b1, b2⟩ | ⟨b1, b2⟩
      · obtain ⟨z6, e6zz, h1⟩ := z_bd (z_t h1 b1)
        rcases s8 gt.1 e6zz with ⟨c1zz, c2zz⟩ | ⟨c1zz, c2zz⟩
        · have h1 := z_t h1 c1zz
          unfold bk_X6_readPlain_150 at h1
          obtain ⟨z9, e9zz, h1⟩ := z_bd (z_t h1 rfl)
          obtain ⟨-, h1⟩ := z_gd h1
          obtain ⟨x1zz, x2zz⟩ := stop8 e9zz
          rw [bs_nocmp gt.1 gt.2.1 hcp a2 b2 c2zz h163] at hy5
          rw [← Option.some.inj h1, x1zz, x2zz]
          exact Or.inl ((bad_no (oc := z2.2.2) gt.1 rfl hy5 CF.stop).tr w3zz w4zz)
        · exact cmp_eq h30 hp0 hp8 hbzz hbase hI ht gzz ⟨z5, h163, hy5⟩ hcp c2zz (Or.inr (Or.inr ⟨rfl, rfl, rfl⟩)) (z_f h1 c1zz)
      · exact cmp_eq h30 hp0 hp8 hbzz hbase hI ht gzz ⟨z5, h163, hy5⟩ hcp b2 (Or.inr (Or.inl ⟨rfl, rfl, rfl⟩)) (z_f h1 b1)
    · exact cmp_eq h30 hp0 hp8 hbzz hbase hI ht gzz ⟨z5, h163, hy5⟩ hcp a2 (Or.inl ⟨rfl, rfl, rfl⟩) (z_f h1 a1zz)
def NoAO (o : Ob) : Prop := ¬ IsW o [4, 14, 1] ∧ ¬ IsW o [18, 15]
def TstOut (L : Int) (od : Bool) (rd oc o : Ob) (zzz : Int32 × Ob × Ob) (yzz : Ob) (tst : Int32) (k1zz k2zz pzz bzz : Nat) (Ezz : Ob → Prop) : Prop := Bad rd oc o zzz yzz ∨ (zzz.1 = 1 ∧ ∃ (Nzz : Nat) (o' : Ob) (n k1' : Nat), lp_X9_readExpression_20 Nzz (tst, 2, o') = some yzz ∧ GoodC L od rd oc o zzz.2.1 zzz.2.2 o' k1zz k2zz pzz bzz n k1' ∧ Ezz o')
def TstH (rT : Ob → Ob → Int32 → Option (Int32 × Ob × Ob)) : Prop := ∀ (od : Bool) (rd oc o yzz : Ob) (k1zz k2zz pzz bzz Nzz : Nat) (tst p0zz : Int32) (zzz : Int32 × Ob × Ob), PSt od rd oc o k1zz k2zz pzz bzz → gI o 30 = p0zz → 0 ≤ p0zz.toInt → p0zz.toInt ≤ 8 → ¬ tst = 0 → (bzz = 0 ∨ gA o 27 (bzz - 1) = 31) → rT rd oc p0zz = some zzz → lp_X9_readExpression_20 Nzz (tst, 0, o) = some yzz → TstOut 1 od rd oc o zzz yzz tst k1zz k2zz pzz bzz NoAO
set_option maxHeartbeats 200000 in
theorem br_eq {rT : Ob → Ob → Int32 → Option (Int32 × Ob × Ob)} (hR : TstH rT) {od : Bool} {rd oc o yzz : Ob} {k1zz k2zz pzz bzz Nzz : Nat} {tst p0zz v2 : Int32} {zzz : Int32 × Ob × Ob} (hzz : PSt od rd oc o k1zz k2zz pzz bzz) (h30 : gI o 30 = p0zz) (hp0 : 0 ≤ p0zz.toInt) (hp8 : p0zz.toInt ≤ 8) (ht : ¬ tst = 0) (q2zz : IsS o 40) (nw : ¬ IsW o [20, 15, 14]) (hy : lp_X9_readExpression_20 Nzz (tst, 0, o) = some yzz)
    (h1 : (if p0zz < (8 : Int32) then ((f_X6_step rd).bind fun z12 => (rT z12 oc (p0zz + (1 : Int32))).bind fun z13zz => if z13zz.1 = (0 : Int32) then (some ((0 : Int32), z13zz.2.1, z13zz.2.2)) else ((f_X6_isSign z13zz.2.1 (41 : Int32)).bind fun z14zz => if z14zz = (0 : Int32) then ((f_X6_stop z13zz.2.1).bind fun z16 => zgd (zbo z16.1) <| some (z16.1, z16.2, z13zz.2.2)) else ((f_X6_step z13zz.2.1).bind fun z15 => bk_X6_readPlain_185 rT 12 400 v2 z15 z13zz.2.2))) else ((f_X6_stop rd).bind fun z18 => zgd (zbo z18.1) <| some (z18.1, z18.2, oc))) = some zzz) : PlOut rT od rd oc o zzz yzz tst v2 k1zz k2zz pzz bzz := by
  obtain ⟨hTzz, h19, e5zz, hr, ek1, ek2, hp, eb, hbzz, hk2, hMzz⟩ := hzz
  obtain ⟨N1, zr, hr2, hy⟩ := ex_plain h19 hy
  unfold f_X9_readPlain at hr2
  obtain ⟨zw, ezw, hr2⟩ := z_bd hr2
  have uw : zw = 0 := by
    rcases w9 (R := [20, 15, 14]) hTzz (all_dig (by decide)) (by decide) (by decide) ezw with ⟨uzz, -⟩ | ⟨-, uzz⟩
    · exact uzz
    · exact absurd uzz nw
  obtain ⟨zs, ezs, hr2⟩ := z_bd (z_t hr2 uw)
  rcases s9 hTzz ezs with ⟨u1zz, u2zz⟩ | ⟨u1zz, -⟩
  · exact absurd q2zz u2zz
  · obtain ⟨z9, ez9, hr2⟩ := z_bd (z_f hr2 u1zz)
    have ezr : zr = (0, z9) := (Option.some.inj hr2).symm
    rw [ezr] at hy
    unfold f_X9_openBracket at ez9
    obtain ⟨azz, bb, ea, ebb, hab, hbb, hx⟩ := hTzz.2.2.2.2
    have hbb' : bb = azz + 1 := by
      rcases hx with ⟨uzz, -⟩ | ⟨uzz, -⟩ | ⟨uzz, -⟩ | ⟨-, uzz, -⟩
      · exact absurd (uzz.symm.trans q2zz.1) (by decide)
      · exact absurd (uzz.symm.trans q2zz.1) (by decide)
      · exact absurd (uzz.symm.trans q2zz.1) (by decide)
      · exact uzz
    have h400 := hTzz.1.2.2.2
    rw [h30] at ez9
    by_cases c8zz : p0zz < (8 : Int32)
    · have d8zz := cv_lt (a := p0zz.toInt) (b := 8) rfl (by decide) c8zz
      have h1 := z_t h1 c8zz
      obtain ⟨zA, ezA, h1⟩ := z_bd h1
      obtain ⟨z3, ez3, h1⟩ := z_bd h1
      have ez9 := z_f ez9 (fun czz => by have czz := cv_le (a := 8) (b := p0zz.toInt) (by decide) rfl czz; omega)
      unfold bk_X9_openBracket_15 at ez9
      obtain ⟨w1zz, ew1, ez9⟩ := z_bd ez9
      have ew1 := mu_ok h19 (by decide) ew1
      obtain ⟨T1, T2, T3, T4⟩ := tk_eq hTzz.1 hTzz.2.2.2.1 (by omega) (by omega) ezA ew1
      have k19 : gI w1zz 19 = 0 := (T3.1 19 (by decide) (by decide) (by decide)).trans h19
      have ez9 := z_t ez9 k19
      obtain ⟨w2zz, ew2, ez9⟩ := z_lt ez9
      obtain ⟨w3zz, ew3, ez9⟩ := z_bd ez9
      have e9zz : z9 = w3zz := (Option.some.inj ez9).symm
      rw [e9zz] at hy
      obtain ⟨p1zz, p2zz, p3zz, p4zz, p5zz, p6zz, p7zz, p8zz, p9zz⟩ := push9 (bzz := bzz) (by rw [ew2]; exact (congrArg Int32.toInt (T3.1 29 (by decide) (by decide) (by decide))).trans eb) hbzz ew3
      have k30 : gI w2zz 30 = p0zz + 1 := by rw [ew2]; show gI w1zz 30 + 1 = _; rw [T3.1 30 (by decide) (by decide) (by decide), h30]
      have t30 : (p0zz + 1).toInt = p0zz.toInt + 1 := i32_add rfl (by decide) (by omega) (by omega)
      have i3zz : ∀ izz, izz ≠ 14 → izz ≠ 15 → izz ≠ 16 → izz ≠ 29 → izz ≠ 30 → gI w3zz izz = gI o izz := fun izz x1zz x2zz x3 x4zz x5zz => by
        rw [p6zz izz x4zz, ew2]; exact (fset_ne x5zz).trans (T3.1 izz x1zz x2zz x3)
      have jA : ∀ izz, izz ≠ 27 → izz ≠ 28 → gA w3zz izz = gA o izz := fun izz x1zz x2zz => by
        rw [p7zz izz x1zz x2zz, ew2]; exact T3.gA izz
      have jM : w3zz.2.2.2 = o.2.2.2 := by rw [p9zz, ew2]; exact congrArg Prod.snd T3.2.2
      have rr : RF o w3zz := ⟨fun izz x1zz x2zz x3 _ _ _ _ x4zz x5zz => i3zz izz x1zz x2zz x3 x4zz x5zz, fun izz _ _ x1zz x2zz => jA izz x1zz x2zz, jM⟩
      have TT3 : TT zA w3zz := T1.cg rfl rfl rfl rfl rfl rfl (by rw [p6zz 13 (by decide), ew2]; rfl) (by rw [p7zz 12 (by decide) (by decide), ew2]; rfl) (by rw [p6zz 14 (by decide), ew2]; rfl) (by rw [p6zz 15 (by decide), ew2]; rfl) (by rw [p6zz 16 (by decide), ew2]; rfl) ((congrFun p8zz 17).trans (by rw [ew2]; rfl))
      have k14 : gI w3zz 14 = gI w1zz 14 := by rw [p6zz 14 (by decide), ew2]; rfl
      have cfA : CF rd oc zA oc := T2.cc
      have hPS : PSt od zA oc w3zz k1zz k2zz (pzz + 1) (bzz + 1) := ⟨TT3, by rw [i3zz 19 (by decide) (by decide) (by decide) (by decide) (by decide)]; exact h19, by rw [T2.1 5 (by decide) (by decide) (by decide) (by decide), i3zz 26 (by decide) (by decide) (by decide) (by decide) (by decide)]; exact e5zz, by rw [i3zz 26 (by decide) (by decide) (by decide) (by decide) (by decide)]; exact hr, ek1, by rw [i3zz 23 (by decide) (by decide) (by decide) (by decide) (by decide)]; exact ek2, by rw [k14]; omega, by omega, by omega, hk2, hMzz.fr (oc := oc) (oc' := oc) cfA rr⟩
      have ck0 : ckp k2zz o w3zz := fun jzz hj => by rw [jA 24 (by decide) (by decide), jA 25 (by decide) (by decide)]; exact ⟨rfl, rfl⟩
      rcases hR od zA oc w3zz yzz k1zz k2zz (pzz + 1) (bzz + 1) N1 tst (p0zz + 1) z3 hPS (by rw [p6zz 30 (by decide)]; exact k30) (by omega) (by omega) ht (Or.inr (by rw [Nat.add_sub_cancel]; exact p3zz)) ez3 hy with gzz | ⟨g1, N2, o4zz, n, k1', hy4, gzz, gno⟩
      · have hz0 : z3.1 = 0 := gzz.1
        have ez : zzz = z3 := by rw [← Option.some.inj (z_t h1 hz0), ← hz0]
        rw [ez]; exact Or.inl (gzz.tr rr cfA)
      · have h1 := z_f h1 (by rw [g1]; decide)
        obtain ⟨k2', b', s0zz, s1zz, s2zz, s3zz, s4zz, s5, s6zz, s7, s8', s9', s10, s11⟩ := gzz
        obtain ⟨zT, z19, ze5, zr', zk1, zk2, zp, zb, zb', zk, zM⟩ := s1zz
        obtain ⟨N3, zb3, hbs, hy4⟩ := ex_test z19 hy4
        unfold f_X9_behindTest at hbs
        obtain ⟨zw1, ew1', hbs⟩ := z_bd hbs
        have ua : zw1 = 0 := by
          rcases w9 (R := [4, 14, 1]) zT (all_dig (by decide)) (by decide) (by decide) ew1' with ⟨uzz, -⟩ | ⟨-, uzz⟩
          · exact uzz
          · exact absurd uzz gno.1
        obtain ⟨zw2, ew2', hbs⟩ := z_bd (z_t hbs ua)
        have ubzz : zw2 = 0 := by
          rcases w9 (R := [18, 15]) zT (all_dig (by decide)) (by decide) (by decide) ew2' with ⟨uzz, -⟩ | ⟨-, uzz⟩
          · exact uzz
          · exact absurd uzz gno.2
        obtain ⟨z6, ez6, hb71⟩ := z_bd (z_t hbs ubzz)
        have e31zz : gA o4zz 27 bzz = 31 := by rw [(s5 bzz (by omega)).1]; exact p3zz
        have hz6 := inn_top (bzz := bzz) zb zb' (by omega) (by rw [e31zz]; decide) (fun jzz x1zz x2zz => by have := s6zz jzz (by omega) x2zz; omega) ez6
        have hb71 := z_f hb71 (by rw [hz6, e31zz]; decide)
        obtain ⟨z14zz, ez14, hb71⟩ := z_bd hb71
        obtain ⟨z15, ez15, hb71⟩ := z_bd hb71
        obtain ⟨zs5, ezs5, h1⟩ := z_bd h1
        have cf4 : CF rd oc z3.2.1 z3.2.2 := cfA.tr s4zz
        have rr4 : RF o o4zz := rr.tr s3zz
        rcases s8 zT ezs5 with ⟨v1zz, v2⟩ | ⟨v1zz, v2⟩ <;> rcases s9 zT ez14 with ⟨w1', w2'⟩ | ⟨w1', w2'⟩
        · rw [w1'] at ez15
          have e15zz := mu_no z19 ez15
          have k19' : gI z15 19 = 1 := by rw [e15zz]; rfl
          have hb71 := Option.some.inj (z_f hb71 (by rw [k19']; decide))
          rw [← hb71] at hy4
          obtain ⟨z6', ez6', h1⟩ := z_bd (z_t h1 v1zz)
          obtain ⟨-, h1⟩ := z_gd h1
          obtain ⟨x1zz, x2zz⟩ := stop8 ez6'
          rw [← Option.some.inj h1, x1zz, x2zz]
          exact Or.inl ((bad_no (oc := z3.2.2) zT e15zz hy4 CF.stop).tr rr4 cf4)
        · exact absurd w2' v2
        · exact absurd v2 w2'
        · have ez15 := mu_ok z19 w1' ez15
          obtain ⟨zBzz, ezB, h1⟩ := z_bd (z_f h1 v1zz)
          obtain ⟨a5, bb5, ea5, ebb5, hab5, hbb5, hx5⟩ := zT.2.2.2.2
          obtain ⟨U1zz, U2, U3, U4⟩ := tk_eq zT.1 zT.2.2.2.1 (by omega) (by omega) ezB ez15
          have k19' : gI z15 19 = 0 := (U3.1 19 (by decide) (by decide) (by decide)).trans z19
          obtain ⟨z16, ez16, hb71⟩ := z_bd (z_t hb71 k19')
          obtain ⟨o17, g17, hb71⟩ := z_lt hb71
          obtain ⟨o18, g18, hb71⟩ := z_lt hb71
          have ezb3 : zb3 = (2, o18) := (Option.some.inj hb71).symm
          rw [ezb3] at hy4
          obtain ⟨y1', y2', k3zz, y3, y4, y5, y6⟩ := s11.done U3 (by omega) (by decide) (by decide) (Or.inr (by rw [Nat.add_sub_cancel, e31zz]; decide)) ez16
          have i18 : ∀ izz, izz ≠ 29 → izz ≠ 30 → gI o18 izz = gI z16 izz := fun izz x1zz x2zz => by rw [g18, g17]; exact (fset_ne x2zz).trans (fset_ne x1zz)
          have A18 : ∀ izz, gA o18 izz = gA z16 izz := fun izz => by rw [g18, g17]; rfl
          have r18 : RF z16 o18 := ⟨fun izz _ _ _ _ _ _ _ x1zz x2zz => i18 izz x1zz x2zz, fun izz _ _ _ _ => A18 izz, by rw [g18, g17]; rfl⟩
          have rr18 : RF o o18 := rr4.tr (U3.rr.tr (y2'.rr.tr r18))
          have cfB : CF rd oc zBzz z3.2.2 := cf4.tr U2.cc
          have k29 : (gI o18 29).toInt = (bzz : Int) := by
            have : gI o18 29 = gI z16 29 - 1 := by rw [g18, g17]; rfl
            rw [this]
            have := i32_sub (x := gI z16 29) (y := 1) (b := 1) y1' (by decide) (by omega) (by omega)
            omega
          have k30' : gI o18 30 = gI o 30 := by
            have e1zz : gI o18 30 = gI z16 30 - 1 := by rw [g18, g17]; rfl
            have e2zz : gI z16 30 = p0zz + 1 := by rw [y2'.1 30 (by decide) (by decide), U3.1 30 (by decide) (by decide) (by decide), s7, p6zz 30 (by decide)]; exact k30
            rw [e1zz, e2zz, h30]
            exact Int32.toInt_inj.mp (by have := i32_sub (x := p0zz + 1) (y := 1) (b := 1) t30 (by decide) (by omega) (by omega); omega)
          have i26 : gI o18 26 = gI o4zz 26 := (i18 26 (by decide) (by decide)).trans ((y2'.1 26 (by decide) (by decide)).trans (U3.1 26 (by decide) (by decide) (by decide)))
          have T18 : TT zBzz o18 := U1zz.cg rfl rfl rfl rfl rfl rfl ((i18 13 (by decide) (by decide)).trans (y2'.1 13 (by decide) (by decide))) ((A18 12).trans (y2'.2.2.1 12 (by decide) (by decide))) ((i18 14 (by decide) (by decide)).trans (y2'.1 14 (by decide) (by decide))) ((i18 15 (by decide) (by decide)).trans (y2'.1 15 (by decide) (by decide))) ((i18 16 (by decide) (by decide)).trans (y2'.1 16 (by decide) (by decide))) (by rw [g18, g17]; exact congrFun y2'.2.1 17)
          have k14' : gI o18 14 = gI z15 14 := (i18 14 (by decide) (by decide)).trans (y2'.1 14 (by decide) (by decide))
          have y6' : Sx od (gA z3.2.2 5) (gA z3.2.2 6) (gA o18 24) (gA o18 25) true k1zz k1' k2zz k3zz n := by rw [A18 24, A18 25]; exact y6
          have ck18 : ckp k2zz o o18 := fun jzz hj => by rw [A18 24, A18 25, (y5 jzz hj).1, (y5 jzz hj).2]; exact ck0 jzz hj
          have k23 : (gI o18 23).toInt = (k3zz : Int) := by rw [i18 23 (by decide) (by decide)]; exact y3
          have ylt := y6'.lt
          refine Or.inr ⟨zBzz, z3.2.2, o18, n, k1', N3, h1, hy4, k3zz, bzz, by omega, ⟨T18, ?_, ?_, ?_, zk1, k23, ?_, k29, hbzz, y4, hMzz.fr cfB rr18⟩, Nat.le_refl _, rr18, cfB, fun jzz hj => ?_, fun jzz azz czz => by omega, k30', fun jzz hj => s8' jzz hj, ck18, ?_, PEs.none k29 (fun o'' fzz => ⟨k3zz, by rw [fzz.1 23 (by decide) (by decide) (by decide)]; exact k23, y4, fun jzz hj => by rw [fzz.gA 24, fzz.gA 25]; exact ck18 jzz hj, by rw [fzz.gA 24, fzz.gA 25]; exact y6'⟩)⟩
          · rw [i18 19 (by decide) (by decide), y2'.1 19 (by decide) (by decide)]; exact k19'
          · rw [U2.1 5 (by decide) (by decide) (by decide) (by decide), i26]; exact ze5
          · rw [i26]; exact zr'
          · rw [k14']; omega
          · rw [A18 27, A18 28, y2'.2.2.1 27 (by decide) (by decide), y2'.2.2.1 28 (by decide) (by decide), U3.gA 27, U3.gA 28, (s5 jzz (by omega)).1, (s5 jzz (by omega)).2]
            have u27 : gA w2zz 27 = gA o 27 := by rw [ew2]; exact T3.gA 27
            have u28 : gA w2zz 28 = gA o 28 := by rw [ew2]; exact T3.gA 28
            have u5 := p5zz jzz (by omega)
            rw [u27, u28] at u5; exact u5
          · rw [i26, s10, i3zz 26 (by decide) (by decide) (by decide) (by decide) (by decide)]
    · have d8zz := cv_nlt (a := p0zz.toInt) (b := 8) rfl (by decide) c8zz
      have ez9 := z_t ez9 (Int32.le_iff_toInt_le.mpr (by have : (8 : Int32).toInt = 8 := (by decide); omega))
      unfold bk_X9_openBracket_15 at ez9
      obtain ⟨w1zz, ew1, ez9⟩ := z_bd ez9
      have e1zz := mu_no h19 ew1
      have k19 : gI w1zz 19 = 1 := by rw [e1zz]; rfl
      have e9zz : z9 = w1zz := (Option.some.inj (z_f ez9 (by rw [k19]; decide))).symm
      obtain ⟨z8', ez8, h1⟩ := z_bd (z_f h1 c8zz)
      obtain ⟨-, h1⟩ := z_gd h1
      obtain ⟨x1zz, x2zz⟩ := stop8 ez8
      rw [← Option.some.inj h1, x1zz, x2zz]
      exact Or.inl (bad_no hTzz (e9zz.trans e1zz) hy CF.stop)
set_option maxHeartbeats 200000 in
theorem plain_eq {rT : Ob → Ob → Int32 → Option (Int32 × Ob × Ob)} (hR : TstH rT) {od : Bool} {rd oc o yzz : Ob} {k1zz k2zz pzz bzz Nzz : Nat} {tst p0zz : Int32} {zzz : Int32 × Ob × Ob} (hzz : PSt od rd oc o k1zz k2zz pzz bzz) (h30 : gI o 30 = p0zz) (hp0 : 0 ≤ p0zz.toInt) (hp8 : p0zz.toInt ≤ 8) (ht : ¬ tst = 0) (hbase : bzz = 0 ∨ 29 ≤ (gA o 27 (bzz - 1)).toInt) (hI : InT o bzz) (h1 : f_X6_readPlain rT 12 400 rd oc p0zz = some zzz) (hy : lp_X9_readExpression_20 Nzz (tst, 0, o) = some yzz) : TstOut 3 od rd oc o zzz yzz tst k1zz k2zz pzz bzz (fun _ => True) := by
  unfold f_X6_readPlain at h1
  obtain ⟨N', mzz, v2, rd1, o1, hizz, hv, nw, h1, hy⟩ := nots_lp zfu Nzz 0 0 rd o 0 (NI.rf hzz) (by decide) (Or.inl ⟨rfl, rfl⟩) h1 hy
  have hi' := hizz
  obtain ⟨i1zz, i2zz, i3zz, i4zz, i5zz, i6zz, i7zz, i8zz, i9zz⟩ := hizz
  have hTzz := i1zz.1
  have h19 := i1zz.2.1
  have c28zz : (28 : Int32).toInt = 28 := by decide
  have hbase1 : bzz + mzz = 0 ∨ 28 ≤ (gA o1 27 (bzz + mzz - 1)).toInt := by
    rcases (show mzz = 0 ∨ 0 < mzz by omega) with uzz | uzz
    · rcases (show bzz = 0 ∨ 0 < bzz by omega) with wzz | wzz
      · exact Or.inl (by omega)
      · rcases hbase with qzz | qzz
        · exact Or.inl (by omega)
        · refine Or.inr ?_
          rw [show bzz + mzz - 1 = bzz - 1 by omega, (i4zz (bzz - 1) (by omega)).1]; omega
    · refine Or.inr ?_
      rw [i5zz (bzz + mzz - 1) (by omega) (by omega), c28zz]; omega
  have hI1 : InT o1 (bzz + mzz) := hI.ext (by omega) (fun jzz hj => (i4zz jzz hj).1) (fun jzz x1zz x2zz => by rw [i5zz jzz x1zz x2zz, c28zz]; omega)
  have outzz : PlOut rT od rd1 oc o1 zzz yzz tst v2 k1zz k2zz (pzz + mzz) (bzz + mzz) := by
    unfold bk_X6_readPlain_40 at h1
    obtain ⟨z1, e1zz, h1⟩ := z_bd h1
    rcases s8 hTzz e1zz with ⟨a1zz, a2⟩ | ⟨a1zz, a2⟩
    · obtain ⟨z2, ez2, h1⟩ := z_bd (z_t h1 a1zz)
      obtain ⟨N2, zr, hr2, hy⟩ := ex_plain h19 hy
      unfold f_X9_readPlain at hr2
      obtain ⟨zw, ezw, hr2⟩ := z_bd hr2
      have uw : zw = 0 := by
        rcases w9 (R := [20, 15, 14]) hTzz (all_dig (by decide)) (by decide) (by decide) ezw with ⟨uzz, -⟩ | ⟨-, uzz⟩
        · exact uzz
        · exact absurd uzz nw
      obtain ⟨zs, ezs, hr2⟩ := z_bd (z_t hr2 uw)
      rcases s9 hTzz ezs with ⟨u1zz, -⟩ | ⟨-, u2zz⟩
      · obtain ⟨z3, ez3, hr2⟩ := z_bd (z_t hr2 u1zz)
        have ezr := Option.some.inj hr2
        rw [← ezr] at hy
        exact sums_eq i1zz (i6zz.trans h30) hp0 hp8 hbase1 hI1 ht (ex_part_inv h19 ez3 hy) ez2 h1
      · exact absurd u2zz a2
    · exact br_eq hR i1zz (i6zz.trans h30) hp0 hp8 ht a2 nw hy (z_f h1 a1zz)
  rcases outzz with gzz | ⟨rd3, oc3, o3zz, n, k1', N3, h185, hy3, gzz⟩
  · exact Or.inl (gzz.tr i2zz i3zz)
  · obtain ⟨x1zz, x2zz, k1'', gC⟩ := not_out hi' gzz hv h185
    refine Or.inr ⟨x1zz, N3, o3zz, n, k1'', hy3, ?_, trivial⟩
    rw [x2zz]; exact gC
set_option maxHeartbeats 200000 in
theorem land8 {oc oc' : Ob} {p0zz : Int32} {kzz k' : Nat} (e0zz : p0zz.toInt = (kzz : Int)) (ek : (gI oc 8).toInt = (k' : Int)) (hk : kzz < k') (hzz : f_X0_land 12 400 oc p0zz = some oc') : (gA oc' 6 kzz).toInt = (k' : Int) ∧ (∀ jzz, gA oc' 5 jzz = gA oc 5 jzz) ∧ (∀ jzz, jzz ≠ kzz → gA oc' 6 jzz = gA oc 6 jzz) ∧ (∀ izz, gI oc' izz = gI oc izz) ∧ (∀ izz, izz ≠ 6 → gA oc' izz = gA oc izz) := by
  unfold f_X0_land at hzz
  have hzz := z_f hzz (fun czz => by have czz := cv_lt (a := (kzz : Int)) (b := 0) e0zz (by decide) czz; omega)
  have hzz := z_f hzz (fun czz => by have czz := cv_le (a := (k' : Int)) (b := (kzz : Int)) ek e0zz czz; omega)
  obtain ⟨-, hzz⟩ := z_gd hzz
  obtain ⟨o2, e2zz, hzz⟩ := z_lt hzz
  have i0zz : p0zz.toNatClampNeg = kzz := tnc_eq e0zz
  rw [i0zz] at e2zz
  rw [← Option.some.inj hzz, e2zz]
  refine ⟨?_, fun _ => rfl, fun jzz hj => ?_, fun _ => rfl, fun izz hizz => ?_⟩
  · have wzz : gA (tA oc 6 kzz (gI oc 8)) 6 kzz = gI oc 8 := if_pos rfl
    rw [wzz]; exact ek
  · exact if_neg hj
  · exact fset_ne (f := fun izz => gA oc izz) hizz
set_option maxHeartbeats 200000 in
theorem bt_and {rd o : Ob} {zzz : Int32 × Ob} (hTzz : TT rd o) (wzz : IsW o [4, 14, 1]) (hzz : f_X9_behindTest o = some zzz) : ∃ z2 z3 z4 z5 : Ob, f_X9_settle o 2 = some z2 ∧ f_X9_push z2 29 (gI z2 23) = some z3 ∧ f_X9_emit z3 29 0 = some z4 ∧ f_X9_next z4 = some z5 ∧ zzz = (0, z5) := by
  unfold f_X9_behindTest at hzz
  obtain ⟨z1, e1zz, hzz⟩ := z_bd hzz
  rcases w9 (R := [4, 14, 1]) hTzz (all_dig (by decide)) (by decide) (by decide) e1zz with ⟨-, u2zz⟩ | ⟨u1zz, -⟩
  · exact absurd wzz u2zz
  · have hzz := z_f hzz u1zz
    unfold bk_X9_behindTest_22 at hzz
    have hzz := z_f hzz u1zz
    unfold bk_X9_behindTest_32 at hzz
    obtain ⟨z2, e2zz, hzz⟩ := z_bd hzz
    have hzz := z_f hzz u1zz
    unfold bk_X9_behindTest_47 at hzz
    obtain ⟨z3, e3zz, hzz⟩ := z_bd hzz
    have hzz := z_f hzz u1zz
    unfold bk_X9_behindTest_66 at hzz
    obtain ⟨z4, e4zz, hzz⟩ := z_bd hzz
    obtain ⟨z5, e5zz, hzz⟩ := z_bd hzz
    exact ⟨z2, z3, z4, z5, e2zz, e3zz, e4zz, e5zz, (Option.some.inj hzz).symm⟩
set_option maxHeartbeats 200000 in
theorem bt_or {rd o : Ob} {zzz : Int32 × Ob} (hTzz : TT rd o) (nw : ¬ IsW o [4, 14, 1]) (wzz : IsW o [18, 15]) (hzz : f_X9_behindTest o = some zzz) : ∃ z2 z3 z4 z5 : Ob, f_X9_settle o 1 = some z2 ∧ f_X9_push z2 30 (gI z2 23) = some z3 ∧ f_X9_emit z3 30 0 = some z4 ∧ f_X9_next z4 = some z5 ∧ zzz = (0, z5) := by
  unfold f_X9_behindTest at hzz
  obtain ⟨z1, e1zz, hzz⟩ := z_bd hzz
  rcases w9 (R := [4, 14, 1]) hTzz (all_dig (by decide)) (by decide) (by decide) e1zz with ⟨u1zz, -⟩ | ⟨-, u2zz⟩
  · obtain ⟨z6, e6zz, hzz⟩ := z_bd (z_t hzz u1zz)
    rcases w9 (R := [18, 15]) hTzz (all_dig (by decide)) (by decide) (by decide) e6zz with ⟨-, v2⟩ | ⟨v1zz, -⟩
    · exact absurd wzz v2
    · have hzz := z_f hzz v1zz
      unfold bk_X9_behindTest_22 at hzz
      have hzz := z_t hzz u1zz
      unfold bk_X9_behindTest_32 at hzz
      obtain ⟨z2, e2zz, hzz⟩ := z_bd hzz
      have hzz := z_t hzz u1zz
      unfold bk_X9_behindTest_47 at hzz
      obtain ⟨z3, e3zz, hzz⟩ := z_bd hzz
      have hzz := z_t hzz u1zz
      unfold bk_X9_behindTest_66 at hzz
      obtain ⟨z4, e4zz, hzz⟩ := z_bd hzz
      obtain ⟨z5, e5zz, hzz⟩ := z_bd hzz
      exact ⟨z2, z3, z4, z5, e2zz, e3zz, e4zz, e5zz, (Option.some.inj hzz).symm⟩
  · exact absurd u2zz nw
set_option maxHeartbeats 200000 in
theorem ao_in {L : Int} {od : Bool} {rd oc o rd1 oc1 o1 rd2 : Ob} {k1zz k2zz pzz bzz n k1' : Nat} {op s lv : Int32} {z2 z3 z4 z5 : Ob} {zc : Int32 × Ob} (gzz : GoodC L od rd oc o rd1 oc1 o1 k1zz k2zz pzz bzz n k1') (hbzz : bzz ≤ 400) (hl : lv.toInt ≤ L ∧ 1 ≤ lv.toInt) (hbase : bzz = 0 ∨ (bnd (gA o 27 (bzz - 1))).toInt < lv.toInt) (hlen : (gI o1 14).toInt < (gI o1 15).toInt)
    (e2zz : f_X9_settle o1 lv = some z2) (e3zz : f_X9_push z2 op (gI z2 23) = some z3) (e4zz : f_X9_emit z3 op 0 = some z4) (e5' : f_X9_next z4 = some z5) (ec : f_X6_step rd1 = some rd2) (ez : f_X0_add 12 400 oc1 s 0 = some zc) :
    ∃ k3zz : Nat, PSt od rd2 zc.2 z5 (k1' + 1) (k3zz + 1) pzz (bzz + 1) ∧ RF o z5 ∧ CF rd oc rd2 zc.2 ∧ (∀ jzz, jzz < bzz → gA z5 27 jzz = gA o 27 jzz ∧ gA z5 28 jzz = gA o 28 jzz) ∧ gA z5 27 bzz = op ∧ (gA z5 28 bzz).toInt = (k3zz : Int) ∧ gI z5 30 = gI o 30 ∧ ckp k2zz o z5 ∧ (gI z5 26).toInt = (gI o 26).toInt + (n : Int) ∧ Sx od (gA zc.2 5) (gA zc.2 6) (gA z5 24) (gA z5 25) true k1zz k1' k2zz k3zz n ∧ gA z5 24 k3zz = op ∧ gA zc.2 5 k1' = s ∧ zc.1.toInt = (k1' : Int) ∧ (∀ jzz, jzz < k1zz → gA zc.2 5 jzz = gA oc 5 jzz ∧ gA zc.2 6 jzz = gA oc 6 jzz) ∧ bzz < 400 := by
  obtain ⟨k2', b', h0, h1, h2, h3, h4, h5, h6, h7, h8, h9, h10, h11⟩ := gzz
  obtain ⟨hTzz, h19, e5zz, hr, ek1, ek2, hp, eb, hb', hk2, hMzz⟩ := h1
  have topzz : bzz = 0 ∨ (bnd (gA o1 27 (bzz - 1))).toInt < lv.toInt := by
    rcases (show bzz = 0 ∨ 0 < bzz by omega) with uzz | uzz
    · exact Or.inl uzz
    · rcases hbase with qzz | qzz
      · exact Or.inl qzz
      · exact Or.inr (by rw [(h5 (bzz - 1) (by omega)).1]; exact qzz)
  obtain ⟨azz, bb, ea, ebb, hab, hbb, -⟩ := hTzz.2.2.2.2
  have h400 := hTzz.1.2.2.2
  obtain ⟨s1zz, s2zz, k3zz, s3zz, s4zz, s5, s6zz⟩ := h11.done FR9.rf hbzz hl.2 hl.1 topzz e2zz
  have slt := s6zz.lt
  obtain ⟨p1zz, p2zz, p3zz, p4zz, p5zz, p6zz, p7zz, p8zz, p9zz⟩ := push9 s1zz hbzz e3zz
  obtain ⟨m1zz, m2zz, m3zz, m4zz, m5zz, m6zz, m7zz⟩ := emit9 (czz := k3zz) (by rw [p6zz 23 (by decide)]; exact s3zz) s4zz e4zz
  obtain ⟨d1zz, d2zz, d3zz, d4zz, d5zz, d6zz, d7zz⟩ := add8 ek1 (by omega) ez
  have j4zz : ∀ izz, izz ≠ 23 → izz ≠ 29 → gI z4 izz = gI o1 izz := fun izz x1zz x2zz => (m1zz.1 izz x1zz x2zz).trans ((p6zz izz x2zz).trans (s2zz.1 izz x1zz x2zz))
  have hT4 : TT rd1 z4 := by
    refine hTzz.cg rfl rfl rfl rfl rfl rfl (j4zz 13 (by decide) (by decide)) ?_ (j4zz 14 (by decide) (by decide)) (j4zz 15 (by decide) (by decide)) (j4zz 16 (by decide) (by decide)) ?_
    · exact (m1zz.2.2.1 12 (by decide) (by decide)).trans ((p7zz 12 (by decide) (by decide)).trans (s2zz.2.2.1 12 (by decide) (by decide)))
    · exact (congrFun m1zz.2.1 17).trans ((congrFun p8zz 17).trans (congrFun s2zz.2.1 17))
  have k15 := j4zz 15 (by decide) (by decide)
  have k13 := j4zz 13 (by decide) (by decide)
  obtain ⟨T1, T2, T3, T4⟩ := tk_eq hT4.1 hT4.2.2.2.1 (by rw [k15]; omega) (by rw [k15, k13]; omega) ec e5'
  rw [k15] at T4
  have rp : RF z2 z3 := ⟨fun izz _ _ _ _ _ _ _ azz _ => p6zz izz azz, fun izz _ _ azz czz => p7zz izz azz czz, p9zz⟩
  have r1zz : RF o1 z5 := s2zz.rr.tr (rp.tr (m1zz.rr.tr T3.rr))
  have i5zz : ∀ izz, izz ≠ 14 → izz ≠ 15 → izz ≠ 16 → izz ≠ 23 → izz ≠ 29 → gI z5 izz = gI o1 izz := fun izz x1zz x2zz x3 x4zz x5zz => (T3.1 izz x1zz x2zz x3).trans (j4zz izz x4zz x5zz)
  have i26 := i5zz 26 (by decide) (by decide) (by decide) (by decide) (by decide)
  have cz : ∀ jzz, jzz < k3zz → gA z5 24 jzz = gA z2 24 jzz ∧ gA z5 25 jzz = gA z2 25 jzz := fun jzz hj => by
    rw [T3.gA 24, T3.gA 25, (m2zz jzz hj).1, (m2zz jzz hj).2, p7zz 24 (by decide) (by decide), p7zz 25 (by decide) (by decide)]; exact ⟨rfl, rfl⟩
  refine ⟨k3zz, ⟨T1, ?_, ?_, by rw [i26]; exact hr, by omega, ?_, ?_, ?_, by omega, by omega, hMzz.fr (oc := oc1) (oc' := oc1) T2.cc r1zz⟩, h3.tr r1zz, h4.tr (T2.cc.tr (CF.add d6zz d7zz)), fun jzz hj => ?_, ?_, ?_, ?_, fun jzz hj => ?_, by rw [i26]; exact h10, ?_, ?_, d3zz, d1zz, fun jzz hj => ?_, p1zz⟩
  · rw [i5zz 19 (by decide) (by decide) (by decide) (by decide) (by decide)]; exact h19
  · rw [T2.1 5 (by decide) (by decide) (by decide) (by decide), i26]; exact e5zz
  · rw [T3.1 23 (by decide) (by decide) (by decide)]; omega
  · omega
  · rw [T3.1 29 (by decide) (by decide) (by decide), m4zz]; omega
  · rw [T3.gA 27, T3.gA 28, m1zz.2.2.1 27 (by decide) (by decide), m1zz.2.2.1 28 (by decide) (by decide), (p5zz jzz (by omega)).1, (p5zz jzz (by omega)).2, s2zz.2.2.1 27 (by decide) (by decide), s2zz.2.2.1 28 (by decide) (by decide)]; exact h5 jzz hj
  · rw [T3.gA 27, m1zz.2.2.1 27 (by decide) (by decide)]; exact p3zz
  · rw [T3.gA 28, m1zz.2.2.1 28 (by decide) (by decide), p4zz]; exact s3zz
  · rw [i5zz 30 (by decide) (by decide) (by decide) (by decide) (by decide)]; exact h7
  · rw [(cz jzz (by omega)).1, (cz jzz (by omega)).2]; exact s5 jzz hj
  · exact s6zz.eq (fun jzz x1zz x2zz => d5zz jzz (by omega)) (fun jzz x1zz x2zz => cz jzz x2zz)
  · rw [T3.gA 24]; exact m5zz
  · have w5 := d5zz jzz (by omega)
    rw [w5.1, w5.2]; exact h8 jzz hj
set_option maxHeartbeats 200000 in
theorem ao_out {L L' : Int} {od : Bool} {rd oc o rd2 oc2 o2 rd3 oc3 o3zz oc4 : Ob} {k1zz k2zz pzz bzz n n' k1' k3zz k1'' : Nat} {op s pl : Int32} (hSzz : Sx od (gA oc2 5) (gA oc2 6) (gA o2 24) (gA o2 25) true k1zz k1' k2zz k3zz n) (rzz : RF o o2) (czz : CF rd oc rd2 oc2) (hpl : ∀ jzz, jzz < bzz → gA o2 27 jzz = gA o 27 jzz ∧ gA o2 28 jzz = gA o 28 jzz) (hop : gA o2 27 bzz = op) (hat : (gA o2 28 bzz).toInt = (k3zz : Int)) (h30 : gI o2 30 = gI o 30) (hck : ckp k2zz o o2) (h26 : (gI o2 26).toInt = (gI o 26).toInt + (n : Int)) (hbzz : bzz < 400) (hk13 : ∀ jzz, jzz < k1zz → gA oc2 5 jzz = gA oc 5 jzz ∧ gA oc2 6 jzz = gA oc 6 jzz) (hs1 : gA oc2 5 k1' = s) (hs2 : gA o2 24 k3zz = op) (hpc : pl.toInt = (k1' : Int))
    (gzz : GoodC L' od rd2 oc2 o2 rd3 oc3 o3zz (k1' + 1) (k3zz + 1) pzz (bzz + 1) n' k1'') (hL : L ≤ L') (hbn : L ≤ (bnd op).toInt) (hA : opA s op) (ez : f_X0_land 12 400 oc3 pl = some oc4) : GoodC L od rd oc o rd3 oc4 o3zz k1zz k2zz pzz bzz (n + n') k1'' := by
  have hlt := hSzz.lt
  obtain ⟨k2', b', h0, h1, h2, h3, h4, h5, h6, h7, h8, h9, h10, h11⟩ := gzz
  obtain ⟨hTzz, h19, e5zz, hr, ek1, ek2, hp, eb, hb', hk2, hMzz⟩ := h1
  obtain ⟨d1zz, d2zz, d3zz, d4zz, d5zz⟩ := land8 hpc ek1 (by omega) ez
  have hop' : op = 29 ∨ op = 30 := by
    rcases hA with ⟨-, ezz⟩ | ⟨-, ezz⟩
    · exact Or.inl ezz
    · exact Or.inr ezz
  have hopr : 20 ≤ op.toInt ∧ op.toInt ≤ 30 := by rcases hop' with ezz | ezz <;> rw [ezz] <;> decide
  have cfzz : CF rd oc rd3 oc4 := czz.tr (h4.tr (CF.add (fun izz _ => d4zz izz) (fun izz _ xzz => d5zz izz xzz)))
  refine ⟨k2', b', by omega, ⟨hTzz, h19, e5zz, hr, by rw [d4zz 8]; exact ek1, ek2, hp, eb, hb', hk2, hMzz⟩, by omega, rzz.tr h3, cfzz, fun jzz hj => ?_, fun jzz azz czz => ?_, h7.trans h30, fun jzz hj => ?_, hck.tr (h9.le (by omega)), by omega, fun o3' f3zz Nzz lv yzz hl1 hl2 hy => ?_⟩
  · rw [(h5 jzz (by omega)).1, (h5 jzz (by omega)).2]; exact hpl jzz hj
  · rcases (show jzz = bzz ∨ bzz + 1 ≤ jzz by omega) with qzz | qzz
    · rw [qzz, (h5 bzz (by omega)).1, hop]; exact hopr
    · exact h6 jzz qzz czz
  · have w8 := h8 jzz (by omega)
    rw [d2zz jzz, d3zz jzz (by omega), w8.1, w8.2]; exact hk13 jzz hj
  · obtain ⟨N', o4zz, q1zz, q2zz, q3zz, k4zz, q4zz, q5zz, q6zz, q7zz⟩ := h11 o3' f3zz Nzz lv yzz hl1 (by omega) hy
    have e27zz : gA o4zz 27 bzz = op := by rw [q3zz.2.2.1 27 (by decide) (by decide), f3zz.gA 27, (h5 bzz (by omega)).1]; exact hop
    have e28zz : (gA o4zz 28 bzz).toInt = (k3zz : Int) := by rw [q3zz.2.2.1 28 (by decide) (by decide), f3zz.gA 28, (h5 bzz (by omega)).2]; exact hat
    have lt7 := q7zz.lt
    obtain ⟨N'', o5zz, u1zz, u2zz, u3, u4zz, u5, u6⟩ := st_ao (bzz := bzz) (czz := k4zz) (azz := k3zz) (by omega) hbzz (by rw [e27zz]; exact hop') e28zz (by rw [e27zz]; omega) q1zz
    have cz : ∀ jzz, jzz ≠ k3zz → gA o5zz 24 jzz = gA o4zz 24 jzz ∧ gA o5zz 25 jzz = gA o4zz 25 jzz := fun jzz hj => ⟨congrFun u5 jzz, by rw [u6 jzz, if_neg hj]⟩
    refine ⟨N'', o5zz, u1zz, u4zz, q3zz.tr u2zz, k4zz, by rw [u3]; exact q4zz, q5zz, fun jzz hj => ?_, ?_⟩
    · have wzz := hck jzz hj
      have vzz := q6zz jzz (by omega)
      rw [(cz jzz (by omega)).1, (cz jzz (by omega)).2, vzz.1, vzz.2]; exact wzz
    · have cl := Sx.cl od (gA oc4 5) (gA oc4 6) (gA o5zz 24) (gA o5zz 25)
      refine cl.2.2.2.2.1 k1zz k1' k1'' k2zz k3zz k4zz n n' ?_ ?_ ?_ d1zz ?_
      · refine hSzz.eq (fun jzz x1zz x2zz => ?_) (fun jzz x1zz x2zz => ?_)
        · have w8 := h8 jzz (by omega)
          rw [d2zz jzz, d3zz jzz (by omega)]; exact w8
        · have vzz := q6zz jzz (by omega)
          rw [(cz jzz (by omega)).1, (cz jzz (by omega)).2]; exact vzz
      · exact q7zz.eq (fun jzz x1zz x2zz => ⟨d2zz jzz, d3zz jzz (by omega)⟩) (fun jzz x1zz x2zz => cz jzz (by omega))
      · have w8 := h8 k1' (by omega)
        have vzz := q6zz k3zz (by omega)
        rw [d2zz k1', w8.1, hs1, congrFun u5 k3zz, vzz.1, hs2]; exact hA
      · rw [u6 k3zz, if_pos rfl]; exact q4zz
set_option maxHeartbeats 200000 in
theorem GoodC.tt {L : Int} {od : Bool} {rd oc o rd' oc' o' : Ob} {k1zz k2zz pzz bzz n k1' : Nat} (hzz : GoodC L od rd oc o rd' oc' o' k1zz k2zz pzz bzz n k1') : TT rd' o' ∧ gI o' 19 = 0 ∧ ((k1' + pzz : Nat) : Int) ≤ (gI o' 14).toInt ∧ (∀ jzz, jzz < k1zz → gA oc' 5 jzz = gA oc 5 jzz ∧ gA oc' 6 jzz = gA oc 6 jzz) ∧ k1zz ≤ k1' := by
  obtain ⟨k2', b', h0, h1, h2, h3, h4, h5, h6, h7, h8, -⟩ := hzz
  exact ⟨h1.1, h1.2.1, h1.2.2.2.2.2.2.1, h8, h0⟩
set_option maxHeartbeats 200000 in
theorem bnd_30 {xzz : Int32} (hzz : 30 ≤ xzz.toInt) : (bnd xzz).toInt < 2 := by
  unfold bnd
  by_cases c1zz : xzz < (31 : Int32)
  · have d1zz := cv_lt (a := xzz.toInt) (b := 31) rfl (by decide) c1zz
    have ezz : xzz = 30 := Int32.toInt_inj.mp ((show xzz.toInt = 30 by omega).trans (by decide))
    rw [if_pos c1zz, if_pos ezz]; decide
  · rw [if_neg c1zz]; decide
set_option maxHeartbeats 200000 in
theorem both_lp {rT : Ob → Ob → Int32 → Option (Int32 × Ob × Ob)} (hR : TstH rT) {od : Bool} {rd oc o yzz : Ob} {k1zz k2zz pzz bzz : Nat} {tst p0zz : Int32} {zzz : Int32 × Ob × Ob} (h30 : gI o 30 = p0zz) (hp0 : 0 ≤ p0zz.toInt) (hp8 : p0zz.toInt ≤ 8) (ht : ¬ tst = 0) (hbzz : bzz ≤ 400) (hbase : bzz = 0 ∨ (bnd (gA o 27 (bzz - 1))).toInt < 2) (hI : InT o bzz) :
    ∀ (Nzz N2 : Nat) (v2 : Int32) (rd1 oc1 o1 : Ob) (n k1' : Nat), GoodC 2 od rd oc o rd1 oc1 o1 k1zz k2zz pzz bzz n k1' → 0 ≤ v2.toInt → v2.toInt ≤ (k1' : Int) → lp_X6_readBoth_12 rT 12 400 Nzz (p0zz, v2, rd1, oc1) = some zzz → lp_X9_readExpression_20 N2 (tst, 2, o1) = some yzz → TstOut 2 od rd oc o zzz yzz tst k1zz k2zz pzz bzz (fun o' => ¬ IsW o' [4, 14, 1]) := by
  intro Nzz
  induction Nzz with
  | zero => intro N2 v2 rd1 oc1 o1 n k1' _ _ _ hzz; cases hzz
  | succ Nzz ihzz =>
    intro N2 v2 rd1 oc1 o1 n k1' gzz hv0 hv h1 hy
    have h1 : lb_X6_readBoth_12 rT 12 400 (lp_X6_readBoth_12 rT 12 400 Nzz) p0zz v2 rd1 oc1 = some zzz := h1
    unfold lb_X6_readBoth_12 at h1
    obtain ⟨hTzz, h19, hpos, hk13, hk11⟩ := gzz.tt
    have h400 := hTzz.1.2.2.2
    obtain ⟨azz, bb, ea, ebb, hab, hbb, -⟩ := hTzz.2.2.2.2
    have hlen : IsW o1 [4, 14, 1] → (gI o1 14).toInt < (gI o1 15).toInt := fun wzz => by
      obtain ⟨-, a', w1zz, w2zz, -⟩ := wzz
      have w2' : (gI o1 15).toInt = (a' : Int) + 3 := by rw [w2zz]; rfl
      omega
    have hend : ¬ IsW o1 [4, 14, 1] → zzz = (1, rd1, oc1) → TstOut 2 od rd oc o zzz yzz tst k1zz k2zz pzz bzz (fun o' => ¬ IsW o' [4, 14, 1]) := fun qzz ezz => by rw [ezz]; exact Or.inr ⟨rfl, N2, o1, n, k1', hy, gzz, qzz⟩
    by_cases c4zz : (400 : Int32) ≤ v2
    · have d4zz := cv_le (a := 400) (b := v2.toInt) (by decide) rfl c4zz
      exact hend (fun wzz => by have := hlen wzz; omega) (Option.some.inj (z_t h1 c4zz)).symm
    · obtain ⟨zw, ezw, h1⟩ := z_bd (z_f h1 c4zz)
      rcases iw8 (R := [4, 14, 1]) hTzz (by decide) tx5_ok ezw with ⟨q1zz, q2zz⟩ | ⟨q1zz, q2zz⟩
      · exact hend q2zz (Option.some.inj (z_t h1 q1zz)).symm
      · obtain ⟨zs, ezs, h1⟩ := z_bd (z_f h1 q1zz)
        obtain ⟨za, eza, h1⟩ := z_bd h1
        obtain ⟨zi, ezi, h1⟩ := z_bd h1
        obtain ⟨N3, zr, hbt, hy⟩ := ex_test h19 hy
        obtain ⟨z2, z3, z4, z5, f2zz, f3zz, f4zz, f5zz, ezr⟩ := bt_and hTzz q2zz hbt
        rw [ezr] at hy
        obtain ⟨k3zz, i1zz, i2zz, i3zz, i4zz, i5zz, i6zz, i7zz, i8zz, i9zz, i10zz, i11zz, i12zz, i13, i14, i15⟩ := ao_in gzz hbzz ⟨by decide, by decide⟩ (by rcases hbase with qzz | qzz; exact Or.inl qzz; exact Or.inr qzz) (hlen q2zz) f2zz f3zz f4zz f5zz ezs eza
        have hI5 : InT z5 (bzz + 1) := hI.ext (by omega) (fun jzz hj => (i4zz jzz hj).1) (fun jzz x1zz x2zz => by
          rw [show jzz = bzz by omega, i5zz]; decide)
        rcases plain_eq hR i1zz (i7zz.trans h30) hp0 hp8 ht (Or.inr (by rw [Nat.add_sub_cancel, i5zz]; decide)) hI5 ezi hy with gb | ⟨g1, N4zz, o4zz, n', k1'', hy4, g4, -⟩
        · have ezz : zzz = zi := by rw [← Option.some.inj (z_t h1 gb.1), ← gb.1]
          rw [ezz]; exact Or.inl (gb.tr i2zz i3zz)
        · have h1 := z_f h1 (by rw [g1]; decide)
          obtain ⟨zl, ezl, h1⟩ := z_bd h1
          obtain ⟨x7, e7zz, h1⟩ := z_lt h1
          have g5zz := ao_out (L := 2) i10zz i2zz i3zz i4zz i5zz i6zz i7zz i8zz i9zz i15 i14 i12zz i11zz i13 g4 (by decide) (by decide) (Or.inl ⟨rfl, rfl⟩) ezl
          have kk := g4.tt.2.2.2.2
          have d4zz := cv_nle (a := 400) (b := v2.toInt) (by decide) rfl c4zz
          have t7 : x7.toInt = v2.toInt + 1 := by rw [e7zz]; exact i32_add rfl (by decide) (by omega) (by omega)
          exact ihzz N4zz x7 zi.2.1 zl o4zz (n + n') k1'' g5zz (by omega) (by omega) h1 hy4
set_option maxHeartbeats 200000 in
theorem both_eq {rT : Ob → Ob → Int32 → Option (Int32 × Ob × Ob)} (hR : TstH rT) {od : Bool} {rd oc o yzz : Ob} {k1zz k2zz pzz bzz Nzz : Nat} {tst p0zz : Int32} {zzz : Int32 × Ob × Ob} (hzz : PSt od rd oc o k1zz k2zz pzz bzz) (h30 : gI o 30 = p0zz) (hp0 : 0 ≤ p0zz.toInt) (hp8 : p0zz.toInt ≤ 8) (ht : ¬ tst = 0) (hbase : bzz = 0 ∨ 30 ≤ (gA o 27 (bzz - 1)).toInt) (hI : InT o bzz) (h1 : f_X6_readBoth rT 12 400 rd oc p0zz = some zzz) (hy : lp_X9_readExpression_20 Nzz (tst, 0, o) = some yzz) : TstOut 2 od rd oc o zzz yzz tst k1zz k2zz pzz bzz (fun o' => ¬ IsW o' [4, 14, 1]) := by
  unfold f_X6_readBoth at h1
  obtain ⟨z1, ez1, h1⟩ := z_bd h1
  have hb2 : bzz = 0 ∨ (bnd (gA o 27 (bzz - 1))).toInt < 2 := by
    rcases hbase with qzz | qzz
    · exact Or.inl qzz
    · exact Or.inr (bnd_30 qzz)
  rcases plain_eq hR hzz h30 hp0 hp8 ht (by rcases hbase with qzz | qzz; exact Or.inl qzz; exact Or.inr (by omega)) hI ez1 hy with gzz | ⟨g1, N4zz, o4zz, n, k1', hy4, g4, -⟩
  · have ezz : zzz = z1 := by rw [← Option.some.inj (z_t h1 gzz.1), ← gzz.1]
    rw [ezz]; exact Or.inl gzz
  · exact both_lp hR h30 hp0 hp8 ht hzz.2.2.2.2.2.2.2.2.1 hb2 hI zfu N4zz 0 _ _ o4zz n k1' (g4.le (by decide)) (by decide) (by have : (0 : Int32).toInt = 0 := (by decide); omega) (z_f h1 (by rw [g1]; decide)) hy4
set_option maxHeartbeats 200000 in
theorem test_lp {rT : Ob → Ob → Int32 → Option (Int32 × Ob × Ob)} (hR : TstH rT) {od : Bool} {rd oc o yzz : Ob} {k1zz k2zz pzz bzz : Nat} {tst p0zz : Int32} {zzz : Int32 × Ob × Ob} (h30 : gI o 30 = p0zz) (hp0 : 0 ≤ p0zz.toInt) (hp8 : p0zz.toInt ≤ 8) (ht : ¬ tst = 0) (hbzz : bzz ≤ 400) (hbase : bzz = 0 ∨ (bnd (gA o 27 (bzz - 1))).toInt < 1) (hI : InT o bzz) :
    ∀ (Nzz N2 : Nat) (v2 : Int32) (rd1 oc1 o1 : Ob) (n k1' : Nat), GoodC 1 od rd oc o rd1 oc1 o1 k1zz k2zz pzz bzz n k1' → ¬ IsW o1 [4, 14, 1] → 0 ≤ v2.toInt → v2.toInt ≤ (k1' : Int) → lp_X6_readTest_12 rT 12 400 Nzz (p0zz, v2, rd1, oc1) = some zzz → lp_X9_readExpression_20 N2 (tst, 2, o1) = some yzz → TstOut 1 od rd oc o zzz yzz tst k1zz k2zz pzz bzz NoAO := by
  intro Nzz
  induction Nzz with
  | zero => intro N2 v2 rd1 oc1 o1 n k1' _ _ _ _ hzz; cases hzz
  | succ Nzz ihzz =>
    intro N2 v2 rd1 oc1 o1 n k1' gzz na hv0 hv h1 hy
    have h1 : lb_X6_readTest_12 rT 12 400 (lp_X6_readTest_12 rT 12 400 Nzz) p0zz v2 rd1 oc1 = some zzz := h1
    unfold lb_X6_readTest_12 at h1
    obtain ⟨hTzz, h19, hpos, hk13, hk11⟩ := gzz.tt
    have h400 := hTzz.1.2.2.2
    obtain ⟨azz, bb, ea, ebb, hab, hbb, -⟩ := hTzz.2.2.2.2
    have hlen : IsW o1 [18, 15] → (gI o1 14).toInt < (gI o1 15).toInt := fun wzz => by
      obtain ⟨-, a', w1zz, w2zz, -⟩ := wzz
      have w2' : (gI o1 15).toInt = (a' : Int) + 2 := by rw [w2zz]; rfl
      omega
    have hend : ¬ IsW o1 [18, 15] → zzz = (1, rd1, oc1) → TstOut 1 od rd oc o zzz yzz tst k1zz k2zz pzz bzz NoAO := fun qzz ezz => by rw [ezz]; exact Or.inr ⟨rfl, N2, o1, n, k1', hy, gzz, na, qzz⟩
    by_cases c4zz : (400 : Int32) ≤ v2
    · have d4zz := cv_le (a := 400) (b := v2.toInt) (by decide) rfl c4zz
      exact hend (fun wzz => by have := hlen wzz; omega) (Option.some.inj (z_t h1 c4zz)).symm
    · obtain ⟨zw, ezw, h1⟩ := z_bd (z_f h1 c4zz)
      rcases iw8 (R := [18, 15]) hTzz (by decide) tx4_ok ezw with ⟨q1zz, q2zz⟩ | ⟨q1zz, q2zz⟩
      · exact hend q2zz (Option.some.inj (z_t h1 q1zz)).symm
      · obtain ⟨zs, ezs, h1⟩ := z_bd (z_f h1 q1zz)
        obtain ⟨za, eza, h1⟩ := z_bd h1
        obtain ⟨zi, ezi, h1⟩ := z_bd h1
        obtain ⟨N3, zr, hbt, hy⟩ := ex_test h19 hy
        obtain ⟨z2, z3, z4, z5, f2zz, f3zz, f4zz, f5zz, ezr⟩ := bt_or hTzz na q2zz hbt
        rw [ezr] at hy
        obtain ⟨k3zz, i1zz, i2zz, i3zz, i4zz, i5zz, i6zz, i7zz, i8zz, i9zz, i10zz, i11zz, i12zz, i13, i14, i15⟩ := ao_in gzz hbzz ⟨by decide, by decide⟩ (by rcases hbase with qzz | qzz; exact Or.inl qzz; exact Or.inr qzz) (hlen q2zz) f2zz f3zz f4zz f5zz ezs eza
        have hI5 : InT z5 (bzz + 1) := hI.ext (by omega) (fun jzz hj => (i4zz jzz hj).1) (fun jzz x1zz x2zz => by
          rw [show jzz = bzz by omega, i5zz]; decide)
        rcases both_eq hR i1zz (i7zz.trans h30) hp0 hp8 ht (Or.inr (by rw [Nat.add_sub_cancel, i5zz]; decide)) hI5 ezi hy with gb | ⟨g1, N4zz, o4zz, n', k1'', hy4, g4, na4⟩
        · have ezz : zzz = zi := by rw [← Option.some.inj (z_t h1 gb.1), ← gb.1]
          rw [ezz]; exact Or.inl (gb.tr i2zz i3zz)
        · have h1 := z_f h1 (by rw [g1]; decide)
          obtain ⟨zl, ezl, h1⟩ := z_bd h1
          obtain ⟨x7, e7zz, h1⟩ := z_lt h1
          have g5zz := ao_out (L := 1) i10zz i2zz i3zz i4zz i5zz i6zz i7zz i8zz i9zz i15 i14 i12zz i11zz i13 g4 (by decide) (by decide) (Or.inr ⟨rfl, rfl⟩) ezl
          have kk := g4.tt.2.2.2.2
          have d4zz := cv_nle (a := 400) (b := v2.toInt) (by decide) rfl c4zz
          have t7 : x7.toInt = v2.toInt + 1 := by rw [e7zz]; exact i32_add rfl (by decide) (by omega) (by omega)
          exact ihzz N4zz x7 zi.2.1 zl o4zz (n + n') k1'' g5zz na4 (by omega) (by omega) h1 hy4
set_option maxHeartbeats 200000 in
theorem test_eq {rT : Ob → Ob → Int32 → Option (Int32 × Ob × Ob)} (hR : TstH rT) : TstH (fun rd oc p0zz => f_X6_readTest rT 12 400 rd oc p0zz) := by
  intro od rd oc o yzz k1zz k2zz pzz bzz Nzz tst p0zz zzz hzz h30 hp0 hp8 ht hbase h1 hy
  have h1 : f_X6_readTest rT 12 400 rd oc p0zz = some zzz := h1
  unfold f_X6_readTest at h1
  obtain ⟨z1, ez1, h1⟩ := z_bd h1
  have hI : InT o bzz := by
    rcases (show bzz = 0 ∨ 0 < bzz by omega) with qzz | qzz
    · exact Or.inl (fun jzz hj => by omega)
    · rcases hbase with uzz | uzz
      · omega
      · exact Or.inr ⟨bzz - 1, by omega, uzz, fun jzz x1zz x2zz => by omega⟩
  have hb1 : bzz = 0 ∨ (bnd (gA o 27 (bzz - 1))).toInt < 1 := by
    rcases hbase with qzz | qzz
    · exact Or.inl qzz
    · exact Or.inr (by rw [qzz]; decide)
  rcases both_eq hR hzz h30 hp0 hp8 ht (by rcases hbase with qzz | qzz; exact Or.inl qzz; exact Or.inr (by rw [qzz]; decide)) hI ez1 hy with gzz | ⟨g1, N4zz, o4zz, n, k1', hy4, g4, na⟩
  · have ezz : zzz = z1 := by rw [← Option.some.inj (z_t h1 gzz.1), ← gzz.1]
    rw [ezz]; exact Or.inl gzz
  · exact test_lp hR h30 hp0 hp8 ht hzz.2.2.2.2.2.2.2.2.1 hb1 hI zfu N4zz 0 _ _ o4zz n k1' (g4.le (by decide)) na (by decide) (by have : (0 : Int32).toInt = 0 := (by decide); omega) (z_f h1 (by rw [g1]; decide)) hy4
set_option maxHeartbeats 200000 in
theorem tests_all : ∀ d : Nat, TstH (fx_X6_readTest 12 400 d) := by
  intro d
  induction d with
  | zero => intro od rd oc o yzz k1zz k2zz pzz bzz Nzz tst p0zz zzz _ _ _ _ _ _ hzz; cases hzz
  | succ d ihzz =>
    have hzz := test_eq ihzz
    exact hzz
