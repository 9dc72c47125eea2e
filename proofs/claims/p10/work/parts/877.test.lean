-- and, or
set_option maxHeartbeats 200000 in
theorem land8 {oc oc' : Ob} {p0zz : Int32} {kzz k' : Nat} (e0zz : p0zz.toInt = (kzz : Int)) (ek : (gI oc 8).toInt = (k' : Int)) (hk : kzz < k') (hzz : f_X0_land 12 400 oc p0zz = some oc') : (gA oc' 6 kzz).toInt = (k' : Int) ∧ (∀ jzz, gA oc' 5 jzz = gA oc 5 jzz) ∧ (∀ jzz, jzz ≠ kzz → gA oc' 6 jzz = gA oc 6 jzz) ∧ (∀ izz, gI oc' izz = gI oc izz) ∧ (∀ izz, izz ≠ 6 → gA oc' izz = gA oc izz) := by
  unfold f_X0_land at hzz
  have hzz := z_f hzz (fun czz => by have czz := cv_lt (a := (kzz : Int)) (b := 0) e0zz (by decide) czz; omega)
  have hzz := z_f hzz (fun czz => by have czz := cv_le (a := (k' : Int)) (b := (kzz : Int)) ek e0zz czz; omega)
  obtain ⟨-, hzz⟩ := z_gd hzz
  obtain ⟨o2, e2zz, hzz⟩ := z_lt hzz
  have i0zz : p0zz.toNatClampNeg = kzz := tnc_eq e0zz
  rw [i0zz] at e2zz
  rw [← Option.some.inj hzz, e2zz]
  refine ⟨?_, fun _ => rfl, fun jzz hj => ?_, fun _ => rfl, fun izz hizz => ?_⟩
  · have wzz : gA (tA oc 6 kzz (gI oc 8)) 6 kzz = gI oc 8 := if_pos rfl
    rw [wzz]; exact ek
  · exact if_neg hj
  · exact fset_ne (f := fun izz => gA oc izz) hizz
set_option maxHeartbeats 200000 in
theorem bt_and {rd o : Ob} {zzz : Int32 × Ob} (hTzz : TT rd o) (wzz : IsW o [4, 14, 1]) (hzz : f_X9_behindTest o = some zzz) : ∃ z2 z3 z4 z5 : Ob, f_X9_settle o 2 = some z2 ∧ f_X9_push z2 29 (gI z2 23) = some z3 ∧ f_X9_emit z3 29 0 = some z4 ∧ f_X9_next z4 = some z5 ∧ zzz = (0, z5) := by
  unfold f_X9_behindTest at hzz
  obtain ⟨z1, e1zz, hzz⟩ := z_bd hzz
  rcases w9 (R := [4, 14, 1]) hTzz (all_dig (by decide)) (by decide) (by decide) e1zz with ⟨-, u2zz⟩ | ⟨u1zz, -⟩
  · exact absurd wzz u2zz
  · have hzz := z_f hzz u1zz
    unfold bk_X9_behindTest_22 at hzz
    have hzz := z_f hzz u1zz
    unfold bk_X9_behindTest_32 at hzz
    obtain ⟨z2, e2zz, hzz⟩ := z_bd hzz
    have hzz := z_f hzz u1zz
    unfold bk_X9_behindTest_47 at hzz
    obtain ⟨z3, e3zz, hzz⟩ := z_bd hzz
    have hzz := z_f hzz u1zz
    unfold bk_X9_behindTest_66 at hzz
    obtain ⟨z4, e4zz, hzz⟩ := z_bd hzz
    obtain ⟨z5, e5zz, hzz⟩ := z_bd hzz
    exact ⟨z2, z3, z4, z5, e2zz, e3zz, e4zz, e5zz, (Option.some.inj hzz).symm⟩
set_option maxHeartbeats 200000 in
theorem bt_or {rd o : Ob} {zzz : Int32 × Ob} (hTzz : TT rd o) (nw : ¬ IsW o [4, 14, 1]) (wzz : IsW o [18, 15]) (hzz : f_X9_behindTest o = some zzz) : ∃ z2 z3 z4 z5 : Ob, f_X9_settle o 1 = some z2 ∧ f_X9_push z2 30 (gI z2 23) = some z3 ∧ f_X9_emit z3 30 0 = some z4 ∧ f_X9_next z4 = some z5 ∧ zzz = (0, z5) := by
  unfold f_X9_behindTest at hzz
  obtain ⟨z1, e1zz, hzz⟩ := z_bd hzz
  rcases w9 (R := [4, 14, 1]) hTzz (all_dig (by decide)) (by decide) (by decide) e1zz with ⟨u1zz, -⟩ | ⟨-, u2zz⟩
  · obtain ⟨z6, e6zz, hzz⟩ := z_bd (z_t hzz u1zz)
    rcases w9 (R := [18, 15]) hTzz (all_dig (by decide)) (by decide) (by decide) e6zz with ⟨-, v2⟩ | ⟨v1zz, -⟩
    · exact absurd wzz v2
    · have hzz := z_f hzz v1zz
      unfold bk_X9_behindTest_22 at hzz
      have hzz := z_t hzz u1zz
      unfold bk_X9_behindTest_32 at hzz
      obtain ⟨z2, e2zz, hzz⟩ := z_bd hzz
      have hzz := z_t hzz u1zz
      unfold bk_X9_behindTest_47 at hzz
      obtain ⟨z3, e3zz, hzz⟩ := z_bd hzz
      have hzz := z_t hzz u1zz
      unfold bk_X9_behindTest_66 at hzz
      obtain ⟨z4, e4zz, hzz⟩ := z_bd hzz
      obtain ⟨z5, e5zz, hzz⟩ := z_bd hzz
      exact ⟨z2, z3, z4, z5, e2zz, e3zz, e4zz, e5zz, (Option.some.inj hzz).symm⟩
  · exact absurd u2zz nw
set_option maxHeartbeats 200000 in
theorem ao_in {L : Int} {od : Bool} {rd oc o rd1 oc1 o1 rd2 : Ob} {k1zz k2zz pzz bzz n k1' : Nat} {op s lv : Int32} {z2 z3 z4 z5 : Ob} {zc : Int32 × Ob} (gzz : GoodC L od rd oc o rd1 oc1 o1 k1zz k2zz pzz bzz n k1') (hbzz : bzz ≤ 400) (hl : lv.toInt ≤ L ∧ 1 ≤ lv.toInt) (hbase : bzz = 0 ∨ (bnd (gA o 27 (bzz - 1))).toInt < lv.toInt) (hlen : (gI o1 14).toInt < (gI o1 15).toInt)
    (e2zz : f_X9_settle o1 lv = some z2) (e3zz : f_X9_push z2 op (gI z2 23) = some z3) (e4zz : f_X9_emit z3 op 0 = some z4) (e5' : f_X9_next z4 = some z5) (ec : f_X6_step rd1 = some rd2) (ez : f_X0_add 12 400 oc1 s 0 = some zc) :
    ∃ k3zz : Nat, PSt od rd2 zc.2 z5 (k1' + 1) (k3zz + 1) pzz (bzz + 1) ∧ RF o z5 ∧ CF rd oc rd2 zc.2 ∧ (∀ jzz, jzz < bzz → gA z5 27 jzz = gA o 27 jzz ∧ gA z5 28 jzz = gA o 28 jzz) ∧ gA z5 27 bzz = op ∧ (gA z5 28 bzz).toInt = (k3zz : Int) ∧ gI z5 30 = gI o 30 ∧ ckp k2zz o z5 ∧ (gI z5 26).toInt = (gI o 26).toInt + (n : Int) ∧ Sx od (gA zc.2 5) (gA zc.2 6) (gA z5 24) (gA z5 25) true k1zz k1' k2zz k3zz n ∧ gA z5 24 k3zz = op ∧ gA zc.2 5 k1' = s ∧ zc.1.toInt = (k1' : Int) ∧ (∀ jzz, jzz < k1zz → gA zc.2 5 jzz = gA oc 5 jzz ∧ gA zc.2 6 jzz = gA oc 6 jzz) ∧ bzz < 400 := by
  obtain ⟨k2', b', h0, h1, h2, h3, h4, h5, h6, h7, h8, h9, h10, h11⟩ := gzz
  obtain ⟨hTzz, h19, e5zz, hr, ek1, ek2, hp, eb, hb', hk2, hMzz⟩ := h1
  have topzz : bzz = 0 ∨ (bnd (gA o1 27 (bzz - 1))).toInt < lv.toInt := by
    rcases (show bzz = 0 ∨ 0 < bzz by omega) with uzz | uzz
    · exact Or.inl uzz
    · rcases hbase with qzz | qzz
      · exact Or.inl qzz
      · exact Or.inr (by rw [(h5 (bzz - 1) (by omega)).1]; exact qzz)
  obtain ⟨azz, bb, ea, ebb, hab, hbb, -⟩ := hTzz.2.2.2.2
  have h400 := hTzz.1.2.2.2
  obtain ⟨s1zz, s2zz, k3zz, s3zz, s4zz, s5, s6zz⟩ := h11.done FR9.rf hbzz hl.2 hl.1 topzz e2zz
  have slt := s6zz.lt
  obtain ⟨p1zz, p2zz, p3zz, p4zz, p5zz, p6zz, p7zz, p8zz, p9zz⟩ := push9 s1zz hbzz e3zz
  obtain ⟨m1zz, m2zz, m3zz, m4zz, m5zz, m6zz, m7zz⟩ := emit9 (czz := k3zz) (by rw [p6zz 23 (by decide)]; exact s3zz) s4zz e4zz
  obtain ⟨d1zz, d2zz, d3zz, d4zz, d5zz, d6zz, d7zz⟩ := add8 ek1 (by omega) ez
  have j4zz : ∀ izz, izz ≠ 23 → izz ≠ 29 → gI z4 izz = gI o1 izz := fun izz x1zz x2zz => (m1zz.1 izz x1zz x2zz).trans ((p6zz izz x2zz).trans (s2zz.1 izz x1zz x2zz))
  have hT4 : TT rd1 z4 := by
    refine hTzz.cg rfl rfl rfl rfl rfl rfl (j4zz 13 (by decide) (by decide)) ?_ (j4zz 14 (by decide) (by decide)) (j4zz 15 (by decide) (by decide)) (j4zz 16 (by decide) (by decide)) ?_
    · exact (m1zz.2.2.1 12 (by decide) (by decide)).trans ((p7zz 12 (by decide) (by decide)).trans (s2zz.2.2.1 12 (by decide) (by decide)))
    · exact (congrFun m1zz.2.1 17).trans ((congrFun p8zz 17).trans (congrFun s2zz.2.1 17))
  have k15 := j4zz 15 (by decide) (by decide)
  have k13 := j4zz 13 (by decide) (by decide)
  obtain ⟨T1, T2, T3, T4⟩ := tk_eq hT4.1 hT4.2.2.2.1 (by rw [k15]; omega) (by rw [k15, k13]; omega) ec e5'
  rw [k15] at T4
  have rp : RF z2 z3 := ⟨fun izz _ _ _ _ _ _ _ azz _ => p6zz izz azz, fun izz _ _ azz czz => p7zz izz azz czz, p9zz⟩
  have r1zz : RF o1 z5 := s2zz.rr.tr (rp.tr (m1zz.rr.tr T3.rr))
  have i5zz : ∀ izz, izz ≠ 14 → izz ≠ 15 → izz ≠ 16 → izz ≠ 23 → izz ≠ 29 → gI z5 izz = gI o1 izz := fun izz x1zz x2zz x3 x4zz x5zz => (T3.1 izz x1zz x2zz x3).trans (j4zz izz x4zz x5zz)
  have i26 := i5zz 26 (by decide) (by decide) (by decide) (by decide) (by decide)
  have cz : ∀ jzz, jzz < k3zz → gA z5 24 jzz = gA z2 24 jzz ∧ gA z5 25 jzz = gA z2 25 jzz := fun jzz hj => by
    rw [T3.gA 24, T3.gA 25, (m2zz jzz hj).1, (m2zz jzz hj).2, p7zz 24 (by decide) (by decide), p7zz 25 (by decide) (by decide)]; exact ⟨rfl, rfl⟩
  refine ⟨k3zz, ⟨T1, ?_, ?_, by rw [i26]; exact hr, by omega, ?_, ?_, ?_, by omega, by omega, hMzz.fr (oc := oc1) (oc' := oc1) T2.cc r1zz⟩, h3.tr r1zz, h4.tr (T2.cc.tr (CF.add d6zz d7zz)), fun jzz hj => ?_, ?_, ?_, ?_, fun jzz hj => ?_, by rw [i26]; exact h10, ?_, ?_, d3zz, d1zz, fun jzz hj => ?_, p1zz⟩
  · rw [i5zz 19 (by decide) (by decide) (by decide) (by decide) (by decide)]; exact h19
  · rw [T2.1 5 (by decide) (by decide) (by decide) (by decide), i26]; exact e5zz
  · rw [T3.1 23 (by decide) (by decide) (by decide)]; omega
  · omega
  · rw [T3.1 29 (by decide) (by decide) (by decide), m4zz]; omega
  · rw [T3.gA 27, T3.gA 28, m1zz.2.2.1 27 (by decide) (by decide), m1zz.2.2.1 28 (by decide) (by decide), (p5zz jzz (by omega)).1, (p5zz jzz (by omega)).2, s2zz.2.2.1 27 (by decide) (by decide), s2zz.2.2.1 28 (by decide) (by decide)]; exact h5 jzz hj
  · rw [T3.gA 27, m1zz.2.2.1 27 (by decide) (by decide)]; exact p3zz
  · rw [T3.gA 28, m1zz.2.2.1 28 (by decide) (by decide), p4zz]; exact s3zz
  · rw [i5zz 30 (by decide) (by decide) (by decide) (by decide) (by decide)]; exact h7
  · rw [(cz jzz (by omega)).1, (cz jzz (by omega)).2]; exact s5 jzz hj
  · exact s6zz.eq (fun jzz x1zz x2zz => d5zz jzz (by omega)) (fun jzz x1zz x2zz => cz jzz x2zz)
  · rw [T3.gA 24]; exact m5zz
  · have w5 := d5zz jzz (by omega)
    rw [w5.1, w5.2]; exact h8 jzz hj
set_option maxHeartbeats 200000 in
theorem ao_out {L L' : Int} {od : Bool} {rd oc o rd2 oc2 o2 rd3 oc3 o3zz oc4 : Ob} {k1zz k2zz pzz bzz n n' k1' k3zz k1'' : Nat} {op s pl : Int32} (hSzz : Sx od (gA oc2 5) (gA oc2 6) (gA o2 24) (gA o2 25) true k1zz k1' k2zz k3zz n) (rzz : RF o o2) (czz : CF rd oc rd2 oc2) (hpl : ∀ jzz, jzz < bzz → gA o2 27 jzz = gA o 27 jzz ∧ gA o2 28 jzz = gA o 28 jzz) (hop : gA o2 27 bzz = op) (hat : (gA o2 28 bzz).toInt = (k3zz : Int)) (h30 : gI o2 30 = gI o 30) (hck : ckp k2zz o o2) (h26 : (gI o2 26).toInt = (gI o 26).toInt + (n : Int)) (hbzz : bzz < 400) (hk13 : ∀ jzz, jzz < k1zz → gA oc2 5 jzz = gA oc 5 jzz ∧ gA oc2 6 jzz = gA oc 6 jzz) (hs1 : gA oc2 5 k1' = s) (hs2 : gA o2 24 k3zz = op) (hpc : pl.toInt = (k1' : Int))
    (gzz : GoodC L' od rd2 oc2 o2 rd3 oc3 o3zz (k1' + 1) (k3zz + 1) pzz (bzz + 1) n' k1'') (hL : L ≤ L') (hbn : L ≤ (bnd op).toInt) (hA : opA s op) (ez : f_X0_land 12 400 oc3 pl = some oc4) : GoodC L od rd oc o rd3 oc4 o3zz k1zz k2zz pzz bzz (n + n') k1'' := by
  have hlt := hSzz.lt
  obtain ⟨k2', b', h0, h1, h2, h3, h4, h5, h6, h7, h8, h9, h10, h11⟩ := gzz
  obtain ⟨hTzz, h19, e5zz, hr, ek1, ek2, hp, eb, hb', hk2, hMzz⟩ := h1
  obtain ⟨d1zz, d2zz, d3zz, d4zz, d5zz⟩ := land8 hpc ek1 (by omega) ez
  have hop' : op = 29 ∨ op = 30 := by
    rcases hA with ⟨-, ezz⟩ | ⟨-, ezz⟩
    · exact Or.inl ezz
    · exact Or.inr ezz
  have hopr : 20 ≤ op.toInt ∧ op.toInt ≤ 30 := by rcases hop' with ezz | ezz <;> rw [ezz] <;> decide
  have cfzz : CF rd oc rd3 oc4 := czz.tr (h4.tr (CF.add (fun izz _ => d4zz izz) (fun izz _ xzz => d5zz izz xzz)))
  refine ⟨k2', b', by omega, ⟨hTzz, h19, e5zz, hr, by rw [d4zz 8]; exact ek1, ek2, hp, eb, hb', hk2, hMzz⟩, by omega, rzz.tr h3, cfzz, fun jzz hj => ?_, fun jzz azz czz => ?_, h7.trans h30, fun jzz hj => ?_, hck.tr (h9.le (by omega)), by omega, fun o3' f3zz Nzz lv yzz hl1 hl2 hy => ?_⟩
  · rw [(h5 jzz (by omega)).1, (h5 jzz (by omega)).2]; exact hpl jzz hj
  · rcases (show jzz = bzz ∨ bzz + 1 ≤ jzz by omega) with qzz | qzz
    · rw [qzz, (h5 bzz (by omega)).1, hop]; exact hopr
    · exact h6 jzz qzz czz
  · have w8 := h8 jzz (by omega)
    rw [d2zz jzz, d3zz jzz (by omega), w8.1, w8.2]; exact hk13 jzz hj
  · obtain ⟨N', o4zz, q1zz, q2zz, q3zz, k4zz, q4zz, q5zz, q6zz, q7zz⟩ := h11 o3' f3zz Nzz lv yzz hl1 (by omega) hy
    have e27zz : gA o4zz 27 bzz = op := by rw [q3zz.2.2.1 27 (by decide) (by decide), f3zz.gA 27, (h5 bzz (by omega)).1]; exact hop
    have e28zz : (gA o4zz 28 bzz).toInt = (k3zz : Int) := by rw [q3zz.2.2.1 28 (by decide) (by decide), f3zz.gA 28, (h5 bzz (by omega)).2]; exact hat
    have lt7 := q7zz.lt
    obtain ⟨N'', o5zz, u1zz, u2zz, u3, u4zz, u5, u6⟩ := st_ao (bzz := bzz) (czz := k4zz) (azz := k3zz) (by omega) hbzz (by rw [e27zz]; exact hop') e28zz (by rw [e27zz]; omega) q1zz
    have cz : ∀ jzz, jzz ≠ k3zz → gA o5zz 24 jzz = gA o4zz 24 jzz ∧ gA o5zz 25 jzz = gA o4zz 25 jzz := fun jzz hj => ⟨congrFun u5 jzz, by rw [u6 jzz, if_neg hj]⟩
    refine ⟨N'', o5zz, u1zz, u4zz, q3zz.tr u2zz, k4zz, by rw [u3]; exact q4zz, q5zz, fun jzz hj => ?_, ?_⟩
    · have wzz := hck jzz hj
      have vzz := q6zz jzz (by omega)
      rw [(cz jzz (by omega)).1, (cz jzz (by omega)).2, vzz.1, vzz.2]; exact wzz
    · have cl := Sx.cl od (gA oc4 5) (gA oc4 6) (gA o5zz 24) (gA o5zz 25)
      refine cl.2.2.2.2.1 k1zz k1' k1'' k2zz k3zz k4zz n n' ?_ ?_ ?_ d1zz ?_
      · refine hSzz.eq (fun jzz x1zz x2zz => ?_) (fun jzz x1zz x2zz => ?_)
        · have w8 := h8 jzz (by omega)
          rw [d2zz jzz, d3zz jzz (by omega)]; exact w8
        · have vzz := q6zz jzz (by omega)
          rw [(cz jzz (by omega)).1, (cz jzz (by omega)).2]; exact vzz
      · exact q7zz.eq (fun jzz x1zz x2zz => ⟨d2zz jzz, d3zz jzz (by omega)⟩) (fun jzz x1zz x2zz => cz jzz (by omega))
      · have w8 := h8 k1' (by omega)
        have vzz := q6zz k3zz (by omega)
        rw [d2zz k1', w8.1, hs1, congrFun u5 k3zz, vzz.1, hs2]; exact hA
      · rw [u6 k3zz, if_pos rfl]; exact q4zz
