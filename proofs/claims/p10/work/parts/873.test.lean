-- nots
set_option maxHeartbeats 200000 in
theorem iw8 {rd o : Ob} {t : Nat} {R : List Int} {zzz : Int32} (hzz : TT rd o) (ht : t < 9) (hczz : chnT t 0 [R] = true) (hz : f_X6_isWord rd t = some zzz) : (zzz = 0 ∧ ¬ IsW o R) ∨ (¬ zzz = 0 ∧ IsW o R) := by
  unfold f_X6_isWord at hz
  obtain ⟨z1, e1zz, hz⟩ := z_bd hz
  rcases wo8 hzz ht hczz (by show (1 : Nat) ≤ 20; decide) e1zz with ⟨jzz, R', ezz, ej, wzz⟩ | ⟨ezz, wzz⟩
  · cases jzz with
    | zero =>
      have eR : some R = some R' := ezz
      have e0zz : z1 = 0 := Int32.toInt_inj.mp (ej.trans (by decide))
      refine Or.inr ⟨?_, ?_⟩
      · rw [← Option.some.inj (z_t hz e0zz)]; decide
      · rw [Option.some.inj eR]; exact wzz
    | succ jzz => simp at ezz
  · exact Or.inl ⟨(Option.some.inj (z_f hz (by rw [ezz]; decide))).symm, wzz R (List.mem_singleton.mpr rfl)⟩
set_option maxHeartbeats 200000 in
theorem PEs.mono {L : Int} {o : Ob} {bzz : Nat} {R R' : Ob → Prop} (hzz : PEs L o bzz R) (hr : ∀ o3zz, R o3zz → R' o3zz) : PEs L o bzz R' := fun o' fzz Nzz lv yzz azz czz hy => by
  obtain ⟨N', o3zz, q1zz, q2zz, q3zz, q4zz⟩ := hzz o' fzz Nzz lv yzz azz czz hy
  exact ⟨N', o3zz, q1zz, q2zz, q3zz, hr o3zz q4zz⟩
set_option maxHeartbeats 200000 in
/-- i nots stand behind the reference's code; the class has none of them yet -/
def SNt (od : Bool) (s1zz w1zz s2zz w2zz : Nat → Int32) (k1zz k1' k2zz k3zz n izz : Nat) : Prop := (izz % 2 = 0 ∧ Sx od s1zz w1zz s2zz w2zz true k1zz k1' k2zz k3zz n) ∨ (izz % 2 = 1 ∧ ∃ czz : Nat, k3zz = czz + 1 ∧ s2zz czz = 28 ∧ Sx od s1zz w1zz s2zz w2zz true k1zz k1' k2zz czz n)
def NtR (od : Bool) (s1zz w1zz : Nat → Int32) (o : Ob) (k1zz k1' k2zz n izz : Nat) (o3zz : Ob) : Prop := ∃ k3zz : Nat, (gI o3zz 23).toInt = (k3zz : Int) ∧ k3zz ≤ 400 ∧ ckp k2zz o o3zz ∧ SNt od s1zz w1zz (gA o3zz 24) (gA o3zz 25) k1zz k1' k2zz k3zz n izz
set_option maxHeartbeats 200000 in
theorem not_step {L : Int} {od : Bool} {s1zz w1zz : Nat → Int32} {o o' : Ob} {k1zz k1' k2zz n czz izz : Nat} (hL : L ≤ 3) (hczz : czz < 400) (h28 : gA o' 27 czz = 28) (hzz : PEs L o' (czz + 1) (NtR od s1zz w1zz o k1zz k1' k2zz n izz)) : PEs L o' czz (NtR od s1zz w1zz o k1zz k1' k2zz n (izz + 1)) := by
  intro o2 f2zz Nzz lv yzz hl1 hl2 hy
  obtain ⟨N', o4zz, q1zz, q2zz, q3zz, k4zz, q4zz, q5zz, q6zz, q7zz⟩ := hzz o2 f2zz Nzz lv yzz hl1 hl2 hy
  have e27zz : gA o4zz 27 czz = 28 := by rw [q3zz.2.2.1 27 (by decide) (by decide), f2zz.gA 27]; exact h28
  have b28 : (bnd 28).toInt = 3 := by decide
  have lt7 : k2zz < k4zz := by
    rcases q7zz with ⟨-, wzz⟩ | ⟨-, c', ezz, -, wzz⟩
    · have := wzz.lt; omega
    · have := wzz.lt; omega
  obtain ⟨N'', o5zz, u1zz, u2zz, u3, u4zz, u5, u6, u7, u8⟩ := st_op (bzz := czz) (czz := k4zz) (by omega) hczz q4zz q5zz ⟨by rw [e27zz]; decide, by rw [e27zz]; decide⟩ (by rw [e27zz, b28]; omega) q1zz
  refine ⟨N'', o5zz, u1zz, u5, q3zz.tr u2zz, k4zz + 1, by omega, by omega, q6zz.tr (u3.le (by omega)), ?_⟩
  rcases q7zz with ⟨hizz, wzz⟩ | ⟨hizz, c', ezz, e28zz, wzz⟩
  · exact Or.inr ⟨by omega, k4zz, rfl, u6.trans e27zz, wzz.eq (fun jzz _ _ => ⟨rfl, rfl⟩) (fun jzz x1zz x2zz => u3 jzz x2zz)⟩
  · subst ezz
    have cl := Sx.cl od s1zz w1zz (gA o5zz 24) (gA o5zz 25)
    exact Or.inl ⟨by omega, cl.2.2.2.2.2.2 k1zz k1' k2zz c' n (wzz.eq (fun jzz _ _ => ⟨rfl, rfl⟩) (fun jzz x1zz x2zz => u3 jzz (by omega))) ((u3 c' (by omega)).1.trans e28zz) (u6.trans e27zz)⟩
set_option maxHeartbeats 200000 in
theorem nots_PE {L : Int} {od : Bool} {s1zz w1zz : Nat → Int32} {o o' : Ob} {k1zz k1' k2zz n : Nat} (hL : L ≤ 3) : ∀ (mzz czz izz : Nat), (∀ jzz, czz ≤ jzz → jzz < czz + mzz → gA o' 27 jzz = 28) → czz + mzz ≤ 400 → PEs L o' (czz + mzz) (NtR od s1zz w1zz o k1zz k1' k2zz n izz) → PEs L o' czz (NtR od s1zz w1zz o k1zz k1' k2zz n (izz + mzz)) := by
  intro mzz
  induction mzz with
  | zero => intro czz izz _ _ hzz; exact hzz
  | succ mzz ihzz =>
    intro czz izz h1 h2 hzz
    have h' := not_step hL (czz := czz + mzz) (by omega) (h1 (czz + mzz) (by omega) (by omega)) hzz
    have h3 := ihzz czz (izz + 1) (fun jzz azz bzz => h1 jzz azz (by omega)) (by omega) h'
    rw [show izz + 1 + mzz = izz + (mzz + 1) by omega] at h3
    exact h3
/-- m nots are read -/
def NI (od : Bool) (rd oc o : Ob) (k1zz k2zz pzz bzz mzz : Nat) (rd1 o1 : Ob) : Prop := PSt od rd1 oc o1 k1zz k2zz (pzz + mzz) (bzz + mzz) ∧ RF o o1 ∧ CF rd oc rd1 oc ∧ (∀ jzz, jzz < bzz → gA o1 27 jzz = gA o 27 jzz ∧ gA o1 28 jzz = gA o 28 jzz) ∧ (∀ jzz, bzz ≤ jzz → jzz < bzz + mzz → gA o1 27 jzz = 28) ∧ gI o1 30 = gI o 30 ∧ gA o1 24 = gA o 24 ∧ gA o1 25 = gA o 25 ∧ gI o1 26 = gI o 26
set_option maxHeartbeats 200000 in
theorem NI.rf {od : Bool} {rd oc o : Ob} {k1zz k2zz pzz bzz : Nat} (hzz : PSt od rd oc o k1zz k2zz pzz bzz) : NI od rd oc o k1zz k2zz pzz bzz 0 rd o := ⟨hzz, RF.rf, CF.rf, fun _ _ => ⟨rfl, rfl⟩, fun jzz azz czz => by omega, rfl, rfl, rfl, rfl⟩
/-- the class adds its own not, or none -/
theorem not_out {rT : Ob → Ob → Int32 → Option (Int32 × Ob × Ob)} {od : Bool} {rd oc o rd1 o1 rd3 oc3 o3zz : Ob} {k1zz k2zz pzz bzz n k1' mzz : Nat} {v2 : Int32} {zzz : Int32 × Ob × Ob} (hizz : NI od rd oc o k1zz k2zz pzz bzz mzz rd1 o1) (gzz : GoodC 3 od rd1 oc o1 rd3 oc3 o3zz k1zz k2zz (pzz + mzz) (bzz + mzz) n k1') (hv : (mzz % 2 = 0 ∧ v2 = 0) ∨ (mzz % 2 = 1 ∧ v2 = 1)) (h1 : bk_X6_readPlain_185 rT 12 400 v2 rd3 oc3 = some zzz) : zzz.1 = 1 ∧ zzz.2.1 = rd3 ∧ ∃ k1'' : Nat, GoodC 3 od rd oc o rd3 zzz.2.2 o3zz k1zz k2zz pzz bzz n k1'' := by
  obtain ⟨i1zz, i2zz, i3zz, i4zz, i5zz, i6zz, i7zz, i8zz, i9zz⟩ := hizz
  have hbm : bzz + mzz ≤ 400 := i1zz.2.2.2.2.2.2.2.2.1
  obtain ⟨k2', b', g0, g1, g2, g3zz, g4, g5zz, g6, g7, g8, g9, g10, g11⟩ := gzz
  obtain ⟨hTzz, h19, e5zz, hr, ek1, ek2, hp, eb, hb', hk2, hMzz⟩ := g1
  have ck0 : ckp k2zz o o1 := fun jzz _ => by rw [i7zz, i8zz]; exact ⟨rfl, rfl⟩
  have h28 : ∀ jzz, bzz ≤ jzz → jzz < bzz + mzz → gA o3zz 27 jzz = 28 := fun jzz x1zz x2zz => (g5zz jzz x2zz).1.trans (i5zz jzz x1zz x2zz)
  have hpl : ∀ jzz, jzz < bzz → gA o3zz 27 jzz = gA o 27 jzz ∧ gA o3zz 28 jzz = gA o 28 jzz := fun jzz hj => ⟨(g5zz jzz (by omega)).1.trans (i4zz jzz hj).1, (g5zz jzz (by omega)).2.trans (i4zz jzz hj).2⟩
  have c28zz : (28 : Int32).toInt = 28 := by decide
  have hrg : ∀ jzz, bzz ≤ jzz → jzz < b' → 20 ≤ (gA o3zz 27 jzz).toInt ∧ (gA o3zz 27 jzz).toInt ≤ 30 := fun jzz x1zz x2zz => by
    rcases (show jzz < bzz + mzz ∨ bzz + mzz ≤ jzz by omega) with qzz | qzz
    · rw [h28 jzz x1zz qzz, c28zz]; omega
    · exact g6 jzz qzz x2zz
  have hNzz := nots_PE (L := 3) (o := o1) (by decide) mzz bzz 0 h28 hbm (g11.mono (R' := NtR od (gA oc3 5) (gA oc3 6) o1 k1zz k1' k2zz n 0) (fun o4zz qzz => by
    obtain ⟨k3zz, q1zz, q2zz, q3zz, q4zz⟩ := qzz
    exact ⟨k3zz, q1zz, q2zz, q3zz, Or.inl ⟨rfl, q4zz⟩⟩))
  unfold bk_X6_readPlain_185 at h1
  rcases hv with ⟨hmzz, hv⟩ | ⟨hmzz, hv⟩
  · have ez := Option.some.inj (z_t h1 hv)
    rw [← ez]
    refine ⟨rfl, rfl, k1', k2', b', g0, ⟨hTzz, h19, e5zz, hr, ek1, ek2, by omega, eb, hb', hk2, hMzz⟩, by omega, i2zz.tr g3zz, i3zz.tr g4, hpl, hrg, g7.trans i6zz, g8, ck0.tr g9, by rw [g10, i9zz], hNzz.mono (fun o4zz qzz => ?_)⟩
    obtain ⟨k3zz, q1zz, q2zz, q3zz, q4zz⟩ := qzz
    rcases q4zz with ⟨-, wzz⟩ | ⟨ezz, -⟩
    · exact ⟨k3zz, q1zz, q2zz, ck0.tr q3zz, wzz⟩
    · omega
  · obtain ⟨z9, e9zz, h1⟩ := z_bd (z_f h1 (by rw [hv]; decide))
    have ez := Option.some.inj h1
    rw [← ez]
    obtain ⟨azz, bb, ea, ebb, hab, hbb, -⟩ := hTzz.2.2.2.2
    have h400 := hTzz.1.2.2.2
    obtain ⟨d1zz, d2zz, d3zz, d4zz, d5zz, d6zz, d7zz⟩ := add8 ek1 (by omega) e9zz
    refine ⟨rfl, rfl, k1' + 1, k2', b', by omega, ⟨hTzz, h19, e5zz, hr, by first | omega | (dsimp only; omega), ek2, by omega, eb, hb', hk2, hMzz⟩, by omega, i2zz.tr g3zz, i3zz.tr (g4.tr (CF.add d6zz d7zz)), hpl, hrg, g7.trans i6zz, fun jzz hj => ?_, ck0.tr g9, by rw [g10, i9zz], hNzz.mono (fun o4zz qzz => ?_)⟩
    · have w5 := d5zz jzz (by omega)
      rw [w5.1, w5.2]; exact g8 jzz hj
    · obtain ⟨k3zz, q1zz, q2zz, q3zz, q4zz⟩ := qzz
      rcases q4zz with ⟨ezz, -⟩ | ⟨-, c', ezz, e28zz, wzz⟩
      · omega
      · subst ezz
        have cl := Sx.cl od (gA z9.2 5) (gA z9.2 6) (gA o4zz 24) (gA o4zz 25)
        exact ⟨c' + 1, q1zz, q2zz, ck0.tr q3zz, cl.2.2.2.2.2.1 k1zz k1' k2zz c' n (wzz.eq (fun jzz x1zz x2zz => d5zz jzz (by omega)) (fun jzz _ _ => ⟨rfl, rfl⟩)) d3zz e28zz⟩
set_option maxHeartbeats 200000 in
theorem not_w : chnT 6 0 [[20, 15, 14]] = true := tx6_ok
set_option maxHeartbeats 200000 in
theorem nots_lp {rT : Ob → Ob → Int32 → Option (Int32 × Ob × Ob)} {od : Bool} {rd oc o yzz : Ob} {k1zz k2zz pzz bzz : Nat} {tst p0zz : Int32} {zzz : Int32 × Ob × Ob} :
    ∀ (Nzz N2 : Nat) (v2 v3 : Int32) (rd1 o1 : Ob) (mzz : Nat), NI od rd oc o k1zz k2zz pzz bzz mzz rd1 o1 → v3.toInt = (mzz : Int) → ((mzz % 2 = 0 ∧ v2 = 0) ∨ (mzz % 2 = 1 ∧ v2 = 1)) → lp_X6_readPlain_4 rT 12 400 Nzz (p0zz, v2, v3, rd1, oc) = some zzz → lp_X9_readExpression_20 N2 (tst, 0, o1) = some yzz →
    ∃ (N' m' : Nat) (v2' : Int32) (rd' o' : Ob), NI od rd oc o k1zz k2zz pzz bzz m' rd' o' ∧ ((m' % 2 = 0 ∧ v2' = 0) ∨ (m' % 2 = 1 ∧ v2' = 1)) ∧ ¬ IsW o' [20, 15, 14] ∧ bk_X6_readPlain_40 rT 12 400 p0zz v2' rd' oc = some zzz ∧ lp_X9_readExpression_20 N' (tst, 0, o') = some yzz := by
  intro Nzz
  induction Nzz with
  | zero => intro N2 v2 v3 rd1 o1 mzz _ _ _ hzz; cases hzz
  | succ Nzz ihzz =>
    intro N2 v2 v3 rd1 o1 mzz hizz e3zz hv hzz hy
    have hzz : lb_X6_readPlain_4 rT 12 400 (lp_X6_readPlain_4 rT 12 400 Nzz) p0zz v2 v3 rd1 oc = some zzz := hzz
    unfold lb_X6_readPlain_4 at hzz
    have hi' := hizz
    obtain ⟨i1zz, i2zz, i3zz, i4zz, i5zz, i6zz, i7zz, i8zz, i9zz⟩ := hizz
    obtain ⟨hTzz, h19, e5zz, hr, ek1, ek2, hp, eb, hbzz, hk2, hMzz⟩ := i1zz
    have h400 := hTzz.1.2.2.2
    obtain ⟨azz, bb, ea, ebb, hab, hbb, hx⟩ := hTzz.2.2.2.2
    by_cases c4zz : (400 : Int32) ≤ v3
    · have d4zz := cv_le (a := 400) (b := (mzz : Int)) (by decide) e3zz c4zz
      refine ⟨N2, mzz, v2, rd1, o1, hi', hv, fun wzz => ?_, z_t hzz c4zz, hy⟩
      obtain ⟨-, a', w1zz, w2zz, -⟩ := wzz
      have w2' : (gI o1 15).toInt = (a' : Int) + 3 := by rw [w2zz]; rfl
      omega
    · have d4zz := cv_nle (a := 400) (b := (mzz : Int)) (by decide) e3zz c4zz
      obtain ⟨z20, e20, hzz⟩ := z_bd (z_f hzz c4zz)
      rcases iw8 hTzz (by decide) not_w e20 with ⟨q1zz, q2zz⟩ | ⟨q1zz, q2zz⟩
      · exact ⟨N2, mzz, v2, rd1, o1, hi', hv, q2zz, z_t hzz q1zz, hy⟩
      · obtain ⟨z21, e21zz, hzz⟩ := z_bd (z_f hzz q1zz)
        obtain ⟨N3, zr, hzr, hy⟩ := ex_plain h19 hy
        unfold f_X9_readPlain at hzr
        obtain ⟨z1, ez1, hzr⟩ := z_bd hzr
        rcases w9 (R := [20, 15, 14]) hTzz (all_dig (by decide)) (by decide) (by decide) ez1 with ⟨u1zz, u2zz⟩ | ⟨u1zz, -⟩
        · exact absurd q2zz u2zz
        · obtain ⟨z5, ez5, hzr⟩ := z_bd (z_f hzr u1zz)
          obtain ⟨z6, ez6, hzr⟩ := z_bd hzr
          have ezr := Option.some.inj hzr
          rw [← ezr] at hy
          obtain ⟨p1zz, p2zz, p3zz, p4zz, p5zz, p6zz, p7zz, p8zz, p9zz⟩ := push9 eb hbzz ez5
          have hT2 : TT rd1 z5 := hTzz.cg rfl rfl rfl rfl rfl rfl (p6zz 13 (by decide)) (p7zz 12 (by decide) (by decide)) (p6zz 14 (by decide)) (p6zz 15 (by decide)) (p6zz 16 (by decide)) (congrFun p8zz 17)
          have k15 : gI z5 15 = gI o1 15 := p6zz 15 (by decide)
          have k13 : gI z5 13 = gI o1 13 := p6zz 13 (by decide)
          obtain ⟨T1, T2, T3, T4⟩ := tk_eq hT2.1 hT2.2.2.2.1 (by rw [k15]; omega) (by rw [k15, k13]; omega) e21zz ez6
          rw [k15] at T4
          have hlt : azz < bb := by
            obtain ⟨w0zz, a', w1zz, w2zz, -⟩ := q2zz
            have w2' : (gI o1 15).toInt = (a' : Int) + 3 := by rw [w2zz]; rfl
            omega
          have rp : RF o1 z5 := ⟨fun izz _ _ _ _ _ _ _ azz _ => p6zz izz azz, fun izz _ _ azz czz => p7zz izz azz czz, p9zz⟩
          have r1zz : RF o1 z6 := rp.tr T3.rr
          have j3zz : ∀ izz, izz ≠ 14 → izz ≠ 15 → izz ≠ 16 → izz ≠ 29 → gI z6 izz = gI o1 izz := fun izz x1zz x2zz x3 x4zz => (T3.1 izz x1zz x2zz x3).trans (p6zz izz x4zz)
          have jA : ∀ izz, izz ≠ 27 → izz ≠ 28 → gA z6 izz = gA o1 izz := fun izz x1zz x2zz => (T3.gA izz).trans (p7zz izz x1zz x2zz)
          have hn : NI od rd oc o k1zz k2zz pzz bzz (mzz + 1) z21 z6 := by
            refine ⟨⟨T1, ?_, ?_, ?_, ek1, ?_, ?_, ?_, by omega, hk2, hMzz.fr (oc := oc) (oc' := oc) T2.cc r1zz⟩, i2zz.tr r1zz, i3zz.tr T2.cc, fun jzz hj => ?_, fun jzz x1zz x2zz => ?_, ?_, ?_, ?_, ?_⟩
            · rw [j3zz 19 (by decide) (by decide) (by decide) (by decide)]; exact h19
            · rw [T2.1 5 (by decide) (by decide) (by decide) (by decide), j3zz 26 (by decide) (by decide) (by decide) (by decide)]; exact e5zz
            · rw [j3zz 26 (by decide) (by decide) (by decide) (by decide)]; exact hr
            · rw [j3zz 23 (by decide) (by decide) (by decide) (by decide)]; exact ek2
            · omega
            · rw [T3.1 29 (by decide) (by decide) (by decide)]; omega
            · rw [T3.gA 27, T3.gA 28, (p5zz jzz (by omega)).1, (p5zz jzz (by omega)).2]; exact i4zz jzz hj
            · rw [T3.gA 27]
              rcases (show jzz = bzz + mzz ∨ jzz < bzz + mzz by omega) with uzz | uzz
              · rw [uzz]; exact p3zz
              · rw [(p5zz jzz (by omega)).1]; exact i5zz jzz x1zz uzz
            · rw [j3zz 30 (by decide) (by decide) (by decide) (by decide)]; exact i6zz
            · rw [jA 24 (by decide) (by decide)]; exact i7zz
            · rw [jA 25 (by decide) (by decide)]; exact i8zz
            · rw [j3zz 26 (by decide) (by decide) (by decide) (by decide)]; exact i9zz
          rcases hv with ⟨hmzz, hv⟩ | ⟨hmzz, hv⟩
          · have hzz := z_t hzz hv
            unfold bk_X6_readPlain_33 at hzz
            obtain ⟨x22, e22zz, hzz⟩ := z_lt hzz
            have t : x22.toInt = (mzz : Int) + 1 := by rw [e22zz]; exact i32_add e3zz (by decide) (by omega) (by omega)
            exact ihzz N3 1 x22 z21 z6 (mzz + 1) hn (by omega) (Or.inr ⟨by omega, rfl⟩) hzz hy
          · have hzz := z_f hzz (by rw [hv]; decide)
            unfold bk_X6_readPlain_33 at hzz
            obtain ⟨x22, e22zz, hzz⟩ := z_lt hzz
            have t : x22.toInt = (mzz : Int) + 1 := by rw [e22zz]; exact i32_add e3zz (by decide) (by omega) (by omega)
            exact ihzz N3 0 x22 z21 z6 (mzz + 1) hn (by omega) (Or.inl ⟨by omega, rfl⟩) hzz hy
