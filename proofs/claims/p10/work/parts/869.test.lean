-- sums
set_option maxHeartbeats 200000 in
theorem Bad.tr {rd oc o rd' oc' o' yzz : Ob} {zzz : Int32 × Ob × Ob} (rzz : RF o o') (czz : CF rd oc rd' oc') (hzz : Bad rd' oc' o' zzz yzz) : Bad rd oc o zzz yzz := ⟨hzz.1, hzz.2.1, hzz.2.2.1, rzz.tr hzz.2.2.2.1, czz.tr hzz.2.2.2.2⟩
set_option maxHeartbeats 200000 in
theorem push9 {o o' : Ob} {op at' : Int32} {bzz : Nat} (eb : (gI o 29).toInt = (bzz : Int)) (hbzz : bzz ≤ 400) (hzz : f_X9_push o op at' = some o') : bzz < 400 ∧ (gI o' 29).toInt = (bzz : Int) + 1 ∧ gA o' 27 bzz = op ∧ gA o' 28 bzz = at' ∧ (∀ jzz, jzz ≠ bzz → gA o' 27 jzz = gA o 27 jzz ∧ gA o' 28 jzz = gA o 28 jzz) ∧ (∀ izz, izz ≠ 29 → gI o' izz = gI o izz) ∧ (∀ izz, izz ≠ 27 → izz ≠ 28 → gA o' izz = gA o izz) ∧ o'.2.1 = o.2.1 ∧ o'.2.2.2 = o.2.2.2 := by
  unfold f_X9_push at hzz
  obtain ⟨gzz, hzz⟩ := z_gd hzz
  obtain ⟨o2, e2zz, hzz⟩ := z_lt hzz
  obtain ⟨-, hzz⟩ := z_gd hzz
  obtain ⟨o4zz, e4zz, hzz⟩ := z_lt hzz
  obtain ⟨o5zz, e5zz, hzz⟩ := z_lt hzz
  have gk := (of_decide_eq_true gzz).2
  have ib : (gI o 29).toNatClampNeg = bzz := tnc_eq eb
  have k2zz : gI o2 29 = gI o 29 := by rw [e2zz]; rfl
  rw [ib] at e2zz
  rw [k2zz, ib] at e4zz
  have k29 : gI o5zz 29 = gI o 29 + 1 := by rw [e5zz, e4zz, e2zz]; rfl
  rw [← Option.some.inj hzz]
  refine ⟨by omega, by rw [k29]; exact i32_add eb (by decide) (by omega) (by omega), ?_, ?_, fun jzz hj => ⟨?_, ?_⟩, fun izz hizz => ?_, fun izz azz czz => ?_, by rw [e5zz, e4zz, e2zz]; rfl, by rw [e5zz, e4zz, e2zz]; rfl⟩
  · rw [e5zz, e4zz, e2zz]; exact if_pos rfl
  · rw [e5zz, e4zz]; exact if_pos rfl
  · rw [e5zz, e4zz, e2zz]; exact if_neg hj
  · rw [e5zz, e4zz, e2zz]; exact if_neg hj
  · rw [e5zz]; exact (fset_ne hizz).trans (by rw [e4zz, e2zz]; rfl)
  · have w0zz : gA o5zz izz = gA o4zz izz := by rw [e5zz]; rfl
    have w1zz : gA o4zz izz = gA o2 izz := by rw [e4zz]; exact fset_ne (f := fun izz => gA o2 izz) czz
    have w2zz : gA o2 izz = gA o izz := by rw [e2zz]; exact fset_ne (f := fun izz => gA o izz) azz
    exact w0zz.trans (w1zz.trans w2zz)
set_option maxHeartbeats 200000 in
/-- behind a sum or a part of one: what waits on the pile is a sum's signs that bind as L or more; settled, the codes say the same -/
def GoodT (L : Int) (od : Bool) (rd oc o rd' oc' o' : Ob) (k1zz k2zz pzz bzz n k1' : Nat) : Prop := ∃ k2' b' : Nat, k1zz ≤ k1' ∧ PSt od rd' oc' o' k1' k2' pzz b' ∧ bzz ≤ b' ∧ RF o o' ∧ CF rd oc rd' oc' ∧ (∀ jzz, jzz < bzz → gA o' 27 jzz = gA o 27 jzz ∧ gA o' 28 jzz = gA o 28 jzz) ∧ (∀ jzz, bzz ≤ jzz → jzz < b' → 20 ≤ (gA o' 27 jzz).toInt ∧ (gA o' 27 jzz).toInt ≤ 24) ∧ gI o' 30 = gI o 30 ∧ (∀ jzz, jzz < k1zz → gA oc' 5 jzz = gA oc 5 jzz ∧ gA oc' 6 jzz = gA oc 6 jzz) ∧ ckp k2zz o o' ∧ (gI o' 26).toInt = (gI o 26).toInt + (n : Int) ∧
  PEs L o' bzz (fun o3zz => ∃ k3zz : Nat, (gI o3zz 23).toInt = (k3zz : Int) ∧ k3zz ≤ 400 ∧ ckp k2zz o o3zz ∧ Sx od (gA oc' 5) (gA oc' 6) (gA o3zz 24) (gA o3zz 25) false k1zz k1' k2zz k3zz n)
set_option maxHeartbeats 200000 in
theorem Good1.t {L : Int} {od : Bool} {rd oc o rd' oc' o' : Ob} {k1zz k2zz pzz bzz n k1' k2' : Nat} (hzz : Good1 od rd oc o rd' oc' o' k1zz k2zz pzz bzz n k1' k2') : GoodT L od rd oc o rd' oc' o' k1zz k2zz pzz bzz n k1' := by
  obtain ⟨h1, h2, h3, h4, h5, h6, h7, h8, h9⟩ := hzz
  have l9 := h9.lt
  exact ⟨k2', bzz, by omega, h1, Nat.le_refl _, h2, h3, h4, fun jzz azz czz => by omega, h5, h6, h7, h8, PEs.none h1.2.2.2.2.2.2.2.1 (fun o'' fzz => ⟨k2', by rw [fzz.1 23 (by decide) (by decide) (by decide)]; exact h1.2.2.2.2.2.1, h1.2.2.2.2.2.2.2.2.2.1, fun jzz hj => by rw [fzz.gA 24, fzz.gA 25]; exact h7 jzz hj, by rw [fzz.gA 24, fzz.gA 25]; exact h9⟩)⟩
set_option maxHeartbeats 200000 in
theorem GoodT.le {L L' : Int} {od : Bool} {rd oc o rd' oc' o' : Ob} {k1zz k2zz pzz bzz n k1' : Nat} (hzz : GoodT L od rd oc o rd' oc' o' k1zz k2zz pzz bzz n k1') (hl : L' ≤ L) : GoodT L' od rd oc o rd' oc' o' k1zz k2zz pzz bzz n k1' := by
  obtain ⟨k2', b', h0, h1, h2, h3, h4, h5, h6, h7, h8, h9, h10, h11⟩ := hzz
  exact ⟨k2', b', h0, h1, h2, h3, h4, h5, h6, h7, h8, h9, h10, h11.le hl⟩
/-- a sign of a sum comes: what waits is settled, the sign goes on the pile, the next token is read -/
theorem op_in {L : Int} {od : Bool} {rd oc o rd1 oc1 o1 rd2 : Ob} {k1zz k2zz pzz bzz n k1' : Nat} {op : Int32} {z19 : Int32} {z20 z21 z22 : Ob} (gzz : GoodT L od rd oc o rd1 oc1 o1 k1zz k2zz pzz bzz n k1') (hbzz : bzz ≤ 400) (hop : 20 ≤ op.toInt ∧ op.toInt ≤ 24) (hl : z19.toInt ≤ L ∧ 1 ≤ z19.toInt) (hbase : bzz = 0 ∨ (bnd (gA o 27 (bzz - 1))).toInt < z19.toInt) (hs : gI o1 16 = 3)
    (e20 : f_X9_settle o1 z19 = some z20) (e21zz : f_X9_push z20 op 0 = some z21) (e22zz : f_X9_next z21 = some z22) (ec : f_X6_step rd1 = some rd2) :
    ∃ k3zz : Nat, PSt od rd2 oc1 z22 k1' k3zz (pzz + 1) (bzz + 1) ∧ RF o z22 ∧ CF rd oc rd2 oc1 ∧ (∀ jzz, jzz < bzz → gA z22 27 jzz = gA o 27 jzz ∧ gA z22 28 jzz = gA o 28 jzz) ∧ gA z22 27 bzz = op ∧ gI z22 30 = gI o 30 ∧ ckp k2zz o z22 ∧ (gI z22 26).toInt = (gI o 26).toInt + (n : Int) ∧ Sx od (gA oc1 5) (gA oc1 6) (gA z22 24) (gA z22 25) false k1zz k1' k2zz k3zz n ∧ bzz < 400 := by
  obtain ⟨k2', b', h0, h1, h2, h3, h4, h5, h6, h7, h8, h9, h10, h11⟩ := gzz
  obtain ⟨hTzz, h19, e5zz, hr, ek1, ek2, hp, eb, hb', hk2, hMzz⟩ := h1
  have topzz : bzz = 0 ∨ (bnd (gA o1 27 (bzz - 1))).toInt < z19.toInt := by
    rcases hbase with qzz | qzz
    · exact Or.inl qzz
    · rcases (show bzz = 0 ∨ 0 < bzz by omega) with uzz | uzz
      · exact Or.inl uzz
      · exact Or.inr (by rw [(h5 (bzz - 1) (by omega)).1]; exact qzz)
  obtain ⟨s1zz, s2zz, k3zz, s3zz, s4zz, s5, s6zz⟩ := h11.done FR9.rf hbzz hl.2 hl.1 topzz e20
  obtain ⟨p1zz, p2zz, p3zz, p4zz, p5zz, p6zz, p7zz, p8zz, p9zz⟩ := push9 s1zz hbzz e21zz
  have hT2 : TT rd1 z21 := by
    refine hTzz.cg rfl rfl rfl rfl rfl rfl ?_ ?_ ?_ ?_ ?_ ?_
    · rw [p6zz 13 (by decide)]; exact s2zz.1 13 (by decide) (by decide)
    · rw [p7zz 12 (by decide) (by decide)]; exact s2zz.2.2.1 12 (by decide) (by decide)
    · rw [p6zz 14 (by decide)]; exact s2zz.1 14 (by decide) (by decide)
    · rw [p6zz 15 (by decide)]; exact s2zz.1 15 (by decide) (by decide)
    · rw [p6zz 16 (by decide)]; exact s2zz.1 16 (by decide) (by decide)
    · exact (congrFun p8zz 17).trans (congrFun s2zz.2.1 17)
  obtain ⟨azz, bb, ea, ebb, hab, hbb, hx⟩ := hT2.2.2.2.2
  have q16zz : gI z21 16 = 3 := by rw [p6zz 16 (by decide), s2zz.1 16 (by decide) (by decide)]; exact hs
  have hbb' : bb = azz + 1 := by
    rcases hx with ⟨uzz, -⟩ | ⟨uzz, -⟩ | ⟨uzz, -⟩ | ⟨-, uzz, -⟩
    · exact absurd (uzz.symm.trans q16zz) (by decide)
    · exact absurd (uzz.symm.trans q16zz) (by decide)
    · exact absurd (uzz.symm.trans q16zz) (by decide)
    · exact uzz
  obtain ⟨T1, T2, T3, T4⟩ := tk_eq hT2.1 hT2.2.2.2.1 (by omega) (by omega) ec e22zz
  have k14 : gI z21 14 = gI o1 14 := (p6zz 14 (by decide)).trans (s2zz.1 14 (by decide) (by decide))
  have rp : RF z20 z21 := ⟨fun izz _ _ _ _ _ _ _ azz _ => p6zz izz azz, fun izz _ _ azz czz => p7zz izz azz czz, p9zz⟩
  have rr : RF o z22 := h3.tr (s2zz.rr.tr (rp.tr T3.rr))
  have cfzz : CF rd oc rd2 oc1 := h4.tr T2.cc
  have i26 : gI z22 26 = gI o1 26 := (T3.1 26 (by decide) (by decide) (by decide)).trans ((p6zz 26 (by decide)).trans (s2zz.1 26 (by decide) (by decide)))
  have i23 : (gI z22 23).toInt = (k3zz : Int) := by rw [T3.1 23 (by decide) (by decide) (by decide), p6zz 23 (by decide)]; exact s3zz
  have cA : ∀ izz, izz ≠ 27 → izz ≠ 28 → gA z22 izz = gA z20 izz := fun izz azz czz => (T3.gA izz).trans (p7zz izz azz czz)
  refine ⟨k3zz, ⟨T1, ?_, ?_, by rw [i26]; exact hr, ek1, i23, ?_, ?_, by omega, s4zz, hMzz.fr (oc := oc1) (oc' := oc1) T2.cc (s2zz.rr.tr (rp.tr T3.rr))⟩, rr, cfzz, fun jzz hj => ?_, ?_, ?_, fun jzz hj => ?_, by rw [i26]; exact h10, ?_, p1zz⟩
  · rw [T3.1 19 (by decide) (by decide) (by decide), p6zz 19 (by decide), s2zz.1 19 (by decide) (by decide)]; exact h19
  · rw [T2.1 5 (by decide) (by decide) (by decide) (by decide), i26]; exact e5zz
  · rw [k14] at ea; omega
  · rw [T3.1 29 (by decide) (by decide) (by decide)]; omega
  · rw [T3.gA 27, T3.gA 28, (p5zz jzz (by omega)).1, (p5zz jzz (by omega)).2, s2zz.2.2.1 27 (by decide) (by decide), s2zz.2.2.1 28 (by decide) (by decide)]; exact h5 jzz hj
  · rw [T3.gA 27]; exact p3zz
  · rw [T3.1 30 (by decide) (by decide) (by decide), p6zz 30 (by decide), s2zz.1 30 (by decide) (by decide)]; exact h7
  · rw [cA 24 (by decide) (by decide), cA 25 (by decide) (by decide)]; exact s5 jzz hj
  · rw [cA 24 (by decide) (by decide), cA 25 (by decide) (by decide)]; exact s6zz
set_option maxHeartbeats 200000 in
/-- what came behind the sign is read, the class has added its step: the whole, with the sign on the pile -/
theorem op_out {L L' : Int} {od : Bool} {rd oc o rd2 oc1 o2 rd3 oc3 o3zz oc4 : Ob} {k1zz k2zz pzz bzz n n' k1' k3zz k1'' : Nat} {op s : Int32} {z7 : Int32 × Ob} (hSzz : Sx od (gA oc1 5) (gA oc1 6) (gA o2 24) (gA o2 25) false k1zz k1' k2zz k3zz n) (rzz : RF o o2) (czz : CF rd oc rd2 oc1) (hpl : ∀ jzz, jzz < bzz → gA o2 27 jzz = gA o 27 jzz ∧ gA o2 28 jzz = gA o 28 jzz) (hop : gA o2 27 bzz = op) (h30 : gI o2 30 = gI o 30) (hck : ckp k2zz o o2) (h26 : (gI o2 26).toInt = (gI o 26).toInt + (n : Int)) (hbzz : bzz < 400) (hk13 : ∀ jzz, jzz < k1zz → gA oc1 5 jzz = gA oc 5 jzz ∧ gA oc1 6 jzz = gA oc 6 jzz)
    (gzz : GoodT L' od rd2 oc1 o2 rd3 oc3 o3zz k1' k3zz (pzz + 1) (bzz + 1) n' k1'') (hL : L ≤ L') (hbn : L ≤ (bnd op).toInt) (hopr : 20 ≤ op.toInt ∧ op.toInt ≤ 24) (hBO : opB s op) (ez : f_X0_add 12 400 oc3 s 0 = some z7) (e4zz : oc4 = z7.2) :
    GoodT L od rd oc o rd3 oc4 o3zz k1zz k2zz pzz bzz (n + n') (k1'' + 1) := by
  have hlt := hSzz.lt
  obtain ⟨k2', b', h0, h1, h2, h3, h4, h5, h6, h7, h8, h9, h10, h11⟩ := gzz
  obtain ⟨hTzz, h19, e5zz, hr, ek1, ek2, hp, eb, hb', hk2, hMzz⟩ := h1
  obtain ⟨azz, bb, ea, ebb, hab, hbb, -⟩ := hTzz.2.2.2.2
  have h400 := hTzz.1.2.2.2
  obtain ⟨d1zz, d2zz, d3zz, d4zz, d5zz, d6zz, d7zz⟩ := add8 ek1 (by omega) ez
  subst e4zz
  have cfzz : CF rd oc rd3 z7.2 := czz.tr (h4.tr (CF.add d6zz d7zz))
  refine ⟨k2', b', by omega, ⟨hTzz, h19, e5zz, hr, by omega, ek2, by omega, eb, hb', hk2, hMzz⟩, by omega, rzz.tr h3, cfzz, fun jzz hj => ?_, fun jzz azz czz => ?_, h7.trans h30, fun jzz hj => ?_, hck.tr (h9.le (by omega)), by omega, fun o3' f3zz Nzz lv yzz hl1 hl2 hy => ?_⟩
  · rw [(h5 jzz (by omega)).1, (h5 jzz (by omega)).2]; exact hpl jzz hj
  · rcases (show jzz = bzz ∨ bzz + 1 ≤ jzz by omega) with qzz | qzz
    · rw [qzz, (h5 bzz (by omega)).1, hop]; exact hopr
    · exact h6 jzz qzz czz
  · have w8 := h8 jzz (by omega)
    have w5 := d5zz jzz (by omega)
    rw [w5.1, w5.2, w8.1, w8.2]; exact hk13 jzz hj
  · obtain ⟨N', o4zz, q1zz, q2zz, q3zz, k4zz, q4zz, q5zz, q6zz, q7zz⟩ := h11 o3' f3zz Nzz lv yzz hl1 (by omega) hy
    have e27zz : gA o4zz 27 bzz = op := by rw [q3zz.2.2.1 27 (by decide) (by decide), f3zz.gA 27, (h5 bzz (by omega)).1]; exact hop
    have lt7 := q7zz.lt
    have n29 : ¬ op = 29 := fun ezz => by rw [ezz] at hopr; revert hopr; decide
    have n30zz : ¬ op = 30 := fun ezz => by rw [ezz] at hopr; revert hopr; decide
    obtain ⟨N'', o5zz, u1zz, u2zz, u3, u4zz, u5, u6, u7, u8⟩ := st_op (bzz := bzz) (czz := k4zz) (by omega) hbzz q4zz q5zz ⟨by rw [e27zz]; exact n29, by rw [e27zz]; exact n30zz⟩ (by rw [e27zz]; omega) q1zz
    refine ⟨N'', o5zz, u1zz, u5, q3zz.tr u2zz, k4zz + 1, by omega, by omega, ?_, ?_⟩
    · exact (hck.tr (q6zz.le (by omega))).tr (u3.le (by omega))
    · have cl := Sx.cl od (gA z7.2 5) (gA z7.2 6) (gA o5zz 24) (gA o5zz 25)
      refine cl.2.2.1 k1zz k1' k1'' k2zz k3zz k4zz n n' ?_ ?_ ?_
      · refine hSzz.eq (fun jzz x1zz x2zz => ?_) (fun jzz x1zz x2zz => ?_)
        · have w5 := d5zz jzz (by omega)
          have w8 := h8 jzz x2zz
          rw [w5.1, w5.2]; exact w8
        · have v1zz := u3 jzz (by omega)
          have v2 := q6zz jzz x2zz
          rw [v1zz.1, v1zz.2]; exact v2
      · refine q7zz.eq (fun jzz x1zz x2zz => d5zz jzz (by omega)) (fun jzz x1zz x2zz => u3 jzz x2zz)
      · rw [d3zz, u6, e27zz]; exact hBO
