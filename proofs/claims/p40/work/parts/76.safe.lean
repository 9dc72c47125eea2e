theorem h_isTold (o : Ob) (z : Int32) : ∀ (N : Nat) (v1 v2 v3 y : Int32), (z = 0 → v2 = 0) → lp_X9_isTold_13 o N (v1, v2, v3) = some y → z = 0 → y = 0 := by
  intro N
  induction N with
  | zero => intro v1 v2 v3 y _ h; exact absurd h (by intro h; cases h)
  | succ N ih =>
    intro v1 v2 v3 y hz h e
    have h : lb_X9_isTold_13 o (lp_X9_isTold_13 o N) v1 v2 v3 = some y := h
    unfold lb_X9_isTold_13 at h
    have hv := hz e
    split at h
    · obtain ⟨-, h⟩ := z_gd h
      rw [← Option.some.inj h]; exact hv
    · unfold bk_X9_isTold_47 bk_X9_isTold_48 at h
      exact ih v1 0 (v3 + 1) y (fun _ => rfl) h e
theorem h_told2 (o : Ob) (hI : IvX9 o) (p0 : Int32) (h0 : 0 ≤ p0.toInt) (h1 : p0.toInt ≤ 395) : wp (f_X9_isTold o p0) (fun y => ¬ y = 0 → 0 ≤ (gA o 12 p0.toNatClampNeg).toInt ∧ (gA o 12 p0.toNatClampNeg).toInt ≤ 6) := by
  obtain ⟨y, ey, -⟩ := s_X9_isTold o p0 hI ⟨h0, h1⟩
  refine ⟨y, ey, fun hy => ?_⟩
  unfold f_X9_isTold at ey
  obtain ⟨-, ey⟩ := z_gd ey
  obtain ⟨z, ez, ey⟩ := z_bd ey
  obtain ⟨z', ez', hz'⟩ := s_X9_isPerson o (gA o 12 p0.toNatClampNeg) hI
  have ezz : z = z' := Option.some.inj (ez.symm.trans ez')
  subst ezz
  refine hz'.2 (fun e => hy ?_)
  exact h_isTold o z zfu p0 z 0 y (fun e => e) ey e
theorem h_row58 (o0 : Ob) (P : Int32 × Ob → Prop) (rec35 : Int32 × Int32 × Int32 × Ob → Option (Int32 × Ob)) (v1 v2 v3 : Int32) (g3 : 0 ≤ v3.toInt) (g3b : v3.toInt ≤ 395) (t : Int32) (t0 : 0 ≤ t.toInt) (t6 : t.toInt ≤ 6)
    (hrec : ∀ (w2 : Int32) (o' : Ob), IvX9 o' → Kp [8, 14, 15, 16, 18, 19, 20, 21, 23, 26, 29, 34, 38, 43, 56, 57, 58, 59, 62] [4, 5, 7, 10, 12, 22, 24, 25, 27, 28, 42, 48, 50, 51, 55, 61] [(0, 1), (1, 2), (29, 36), (64, 71)] o0 o' → w2 = v2 + 1 → wp (bk_X9_row_116 rec35 v1 w2 v3 o') P) :
    ∀ (N : Nat) (v4 : Int32) (o : Ob), IvX9 o → Kp [8, 14, 15, 16, 18, 19, 20, 21, 23, 26, 29, 34, 38, 43, 56, 57, 58, 59, 62] [4, 5, 7, 10, 12, 22, 24, 25, 27, 28, 42, 48, 50, 51, 55, 61] [(0, 1), (1, 2), (29, 36), (64, 71)] o0 o → gA o 12 v3.toNatClampNeg = t → 0 ≤ v4.toInt → v4.toInt ≤ 4 → 4 < (N : Int) + v4.toInt → wp (lp_X9_row_58 rec35 N (v1, v2, v3, v4, o)) P := by
  intro N
  induction N with
  | zero => intro v4 o _ _ _ _ _ _; exfalso; omega
  | succ N ih =>
    intro v4 o hI hK ht h4 h4b hN
    show wp (lb_X9_row_58 rec35 (lp_X9_row_58 rec35 N) v1 v2 v3 v4 o) P
    unfold lb_X9_row_58
    refine wp_if (fun c => ?_) (fun c => ?_)
    · exact wp_lt (fun x9 e9 => hrec x9 o hI hK e9)
    · have c := cv_nle (a := 4) (b := v4.toInt) (by decide) rfl c
      rw [ht]
      have a1 : (v3 + (1 : Int32)).toInt = v3.toInt + 1 := i32_add rfl (by decide) (by omega) (by omega)
      have a2 : ((v3 + (1 : Int32)) + v4).toInt = v3.toInt + 1 + v4.toInt := i32_add a1 rfl (by omega) (by omega)
      have a3 : ((4 : Int32) * t).toInt = 4 * t.toInt := i32_mul (by decide) rfl (by omega) (by omega)
      have a4 : ((36 : Int32) + ((4 : Int32) * t)).toInt = 36 + 4 * t.toInt := i32_add (by decide) a3 (by omega) (by omega)
      have a5 : (((36 : Int32) + ((4 : Int32) * t)) + v4).toInt = 36 + 4 * t.toInt + v4.toInt := i32_add a4 rfl (by omega) (by omega)
      refine wp_gd (zin_of (m := 400) rfl (by omega) (by omega)) ?_
      refine wp_gd (zin_of (m := 400) rfl (by omega) (by omega)) ?_
      refine wp_gd (zin_of (m := 5484) rfl (by omega) (by omega)) ?_
      refine wp_lt (fun o13 e13 => ?_)
      refine wp_lt (fun x14 e14 => ?_)
      have t14 : x14.toInt = v4.toInt + 1 := by rw [e14]; exact i32_add rfl (by decide) (by omega) (by omega)
      refine ih x14 o13 ?_ (hK.trans (by rw [e13]; exact kp_bw (a := 36) (b := 64) (by decide) (by decide) (by omega) (by omega))) (by rw [e13]; exact ht) (by omega) (by omega) (by omega)
      rw [e13]
      refine spX9_row (n := (36 + 4 * t.toInt + v4.toInt).toNat) hI (by omega) (by omega) (fun s hs g1 g2 => ?_)
      exfalso
      have hh : ∀ s ∈ rowS, s.2.1 < 36 ∨ 64 ≤ s.1 := by decide
      rcases hh s hs with h | h <;> omega
set_option maxHeartbeats 4000000 in
set_option maxRecDepth 100000 in
theorem s_X9_row (o_me : Ob) (hI_me : IvX9 o_me)  : wp (f_X9_row   o_me) (fun (y : Int32 × Ob) => IvX9 y.2 ∧ Kp [8, 14, 15, 16, 18, 19, 20, 21, 23, 26, 29, 34, 38, 43, 56, 57, 58, 59, 62] [4, 5, 7, 10, 12, 22, 24, 25, 27, 28, 42, 48, 50, 51, 55, 61] [(0, 1), (1, 2), (29, 36), (64, 71)] o_me y.2) := by
  unfold f_X9_row
  refine wp_lt (fun o1 e1 => ?_)
  refine wp_lt (fun x2 e2 => ?_)
  refine wp_lt (fun o3 e3 => ?_)
  have b13 := igX9_13 hI_me
  have t2 : x2.toInt = (gI o_me 13).toInt := by rw [e2, e1]; rfl
  have hI3 : IvX9 o3 := by rw [e3, e1]; exact ipX9_13 hI_me ⟨by decide, by decide⟩
  have hK3 : Kp [8, 14, 15, 16, 18, 19, 20, 21, 23, 26, 29, 34, 38, 43, 56, 57, 58, 59, 62] [4, 5, 7, 10, 12, 22, 24, 25, 27, 28, 42, 48, 50, 51, 55, 61] [(0, 1), (1, 2), (29, 36), (64, 71)] o_me o3 := by rw [e3, e1]; exact Kp.trans (o' := sI o_me 0 0) (Kp.sI (by decide)) (Kp.sI (by decide))
  refine wp_if (fun c => ?_) (fun c => ?_)
  · refine wp_bd (s_X9_tell o3 (-6) hI3 ⟨by decide, by decide⟩) (fun z hz => ?_)
    exact wp_some ⟨hz.2.1, hK3.trans (hz.2.2.mono (by decide) (by decide) (by decide))⟩
  refine wp_lt (fun o4 e4 => ?_)
  have hI4 : IvX9 o4 := by rw [e4]; exact hI3
  have hK4 : Kp [8, 14, 15, 16, 18, 19, 20, 21, 23, 26, 29, 34, 38, 43, 56, 57, 58, 59, 62] [4, 5, 7, 10, 12, 22, 24, 25, 27, 28, 42, 48, 50, 51, 55, 61] [(0, 1), (1, 2), (29, 36), (64, 71)] o_me o4 := hK3.trans (by rw [e4]; exact Kp.sI (by decide))
  have loop : ∀ (N : Nat) (v2 v3 : Int32) (o : Ob), IvX9 o → Kp [8, 14, 15, 16, 18, 19, 20, 21, 23, 26, 29, 34, 38, 43, 56, 57, 58, 59, 62] [4, 5, 7, 10, 12, 22, 24, 25, 27, 28, 42, 48, 50, 51, 55, 61] [(0, 1), (1, 2), (29, 36), (64, 71)] o_me o → 0 ≤ v2.toInt → v2.toInt ≤ v3.toInt → 0 ≤ v3.toInt → v3.toInt ≤ 405 → 405 < (N : Int) + v3.toInt → wp (lp_X9_row_35 N (x2, v2, v3, o)) (fun (y : Int32 × Ob) => IvX9 y.2 ∧ Kp [8, 14, 15, 16, 18, 19, 20, 21, 23, 26, 29, 34, 38, 43, 56, 57, 58, 59, 62] [4, 5, 7, 10, 12, 22, 24, 25, 27, 28, 42, 48, 50, 51, 55, 61] [(0, 1), (1, 2), (29, 36), (64, 71)] o_me y.2) := by
    intro N
    induction N with
    | zero => intro v2 v3 o _ _ _ _ _ _ _; exfalso; omega
    | succ N ih =>
      intro v2 v3 o hI hK h2 h23 h3 h3b hN
      show wp (lb_X9_row_35 (lp_X9_row_35 N) x2 v2 v3 o) _
      unfold lb_X9_row_35
      refine wp_if (fun c => ?_) (fun c => ?_)
      · refine wp_bd (s_X9_tell o v2 hI ⟨by omega, by omega⟩) (fun z hz => ?_)
        exact wp_some ⟨hz.2.1, hK.trans (hz.2.2.mono (by decide) (by decide) (by decide))⟩
      have c := cv_nle (a := x2.toInt) (b := v3.toInt) rfl rfl c
      have h116 : ∀ (w2 : Int32) (o' : Ob), IvX9 o' → Kp [8, 14, 15, 16, 18, 19, 20, 21, 23, 26, 29, 34, 38, 43, 56, 57, 58, 59, 62] [4, 5, 7, 10, 12, 22, 24, 25, 27, 28, 42, 48, 50, 51, 55, 61] [(0, 1), (1, 2), (29, 36), (64, 71)] o_me o' → 0 ≤ w2.toInt → w2.toInt ≤ v3.toInt + 1 → wp (bk_X9_row_116 (lp_X9_row_35 N) x2 w2 v3 o') (fun (y : Int32 × Ob) => IvX9 y.2 ∧ Kp [8, 14, 15, 16, 18, 19, 20, 21, 23, 26, 29, 34, 38, 43, 56, 57, 58, 59, 62] [4, 5, 7, 10, 12, 22, 24, 25, 27, 28, 42, 48, 50, 51, 55, 61] [(0, 1), (1, 2), (29, 36), (64, 71)] o_me y.2) := by
        intro w2 o' hI' hK' g1 g2
        unfold bk_X9_row_116
        refine wp_lt (fun x7 e7 => ?_)
        have t7 : x7.toInt = v3.toInt + 5 := by rw [e7]; exact i32_add rfl (by decide) (by omega) (by omega)
        exact ih w2 x7 o' hI' hK' g1 (by omega) (by omega) (by omega) (by omega)
      have h106 : wp (bk_X9_row_106 (lp_X9_row_35 N) x2 v2 v3 o) (fun (y : Int32 × Ob) => IvX9 y.2 ∧ Kp [8, 14, 15, 16, 18, 19, 20, 21, 23, 26, 29, 34, 38, 43, 56, 57, 58, 59, 62] [4, 5, 7, 10, 12, 22, 24, 25, 27, 28, 42, 48, 50, 51, 55, 61] [(0, 1), (1, 2), (29, 36), (64, 71)] o_me y.2) := by
        unfold bk_X9_row_106
        refine wp_lt (fun o6 e6 => ?_)
        exact h116 v2 o6 (by rw [e6]; exact hI) (hK.trans (by rw [e6]; exact Kp.sI (by decide))) h2 (by omega)
      refine wp_if (fun c => h106) (fun c2 => ?_)
      have a4 : (v3 + (4 : Int32)).toInt = v3.toInt + 4 := i32_add rfl (by decide) (by omega) (by omega)
      have c2 := cv_nle (a := x2.toInt) (b := v3.toInt + 4) rfl a4 c2
      refine wp_bd (h_told2 o hI v3 (by omega) (by omega)) (fun z8 hz8 => ?_)
      refine wp_if (fun c => h106) (fun c3 => ?_)
      have r := hz8 c3
      refine h_row58 o_me _ (lp_X9_row_35 N) x2 v2 v3 (by omega) (by omega) (gA o 12 v3.toNatClampNeg) r.1 r.2 (fun w2 o' g1 g2 g3 => ?_) zfu 0 o hI hK rfl (by decide) (by decide) (by show (4 : Int) < ((100000 : Nat) : Int) + (0 : Int32).toInt; decide)
      have tw : w2.toInt = v2.toInt + 1 := by rw [g3]; exact i32_add rfl (by decide) (by omega) (by omega)
      exact h116 w2 o' g1 g2 (by omega) (by omega)
  have z0 : (0 : Int32).toInt = 0 := by decide
  exact loop zfu 0 0 o4 hI4 hK4 (by omega) (by omega) (by omega) (by omega) (by show (405 : Int) < ((100000 : Nat) : Int) + _; omega)

set_option maxHeartbeats 4000000 in
set_option maxRecDepth 100000 in
theorem s_X9_seen (o_me : Ob) (p0 : Int32) (p1 : Int32) (hI_me : IvX9 o_me)  : wp (f_X9_seen   o_me p0 p1) (fun (y : Int32 × Ob) => ((-6) ≤ y.1.toInt ∧ y.1.toInt ≤ 2147483647) ∧ IvX9 y.2 ∧ Kp [8, 11, 13, 14, 15, 16, 18, 19, 20, 21, 23, 26, 29, 34, 38, 43, 56, 57, 58, 59, 62] [4, 5, 7, 10, 12, 22, 24, 25, 27, 28, 42, 48, 50, 51, 55, 61] [(0, 1), (29, 36), (36, 64), (64, 71)] o_me y.2) := by
  have li0 : (-1 : Int32).toInt = (-1) := by decide
  have li1 : (-5 : Int32).toInt = (-5) := by decide
  have li2 : (0 : Int32).toInt = 0 := by decide
  have li3 : (0 : Int64).toInt = 0 := by decide
  have li4 : (1 : Int32).toInt = 1 := by decide
  have li5 : (2 : Int32).toInt = 2 := by decide
  have li6 : (6 : Int32).toInt = 6 := by decide
  have li7 : (71 : Int32).toInt = 71 := by decide
  have li8 : (9 : Int64).toInt = 9 := by decide
  unfold f_X9_seen
  refine wp_lt (fun o1 eo1 => ?_)
  have hIo1 : IvX9 o1 := by rw [eo1]; exact hI_me
  have ko1_v : (gI o1 0).toInt = 0 := by rw [eo1]; exact (show ((0 : Int32)).toInt = _ from by decide)
  have hkpo1 : Kp [8, 11, 13, 14, 15, 16, 18, 19, 20, 21, 23, 26, 29, 34, 38, 43, 56, 57, 58, 59, 62] [4, 5, 7, 10, 12, 22, 24, 25, 27, 28, 42, 48, 50, 51, 55, 61] [(0, 1), (29, 36), (36, 64), (64, 71)] o_me o1 := Kp.rf.trans (by rw [eo1]; exact Kp.sI (by decide))
  refine wp_bd (s_X9_isRace   p0    ) (fun z2 hz2 => ?_)
  obtain ⟨hz2_0, hz2_1⟩ := hz2
  refine wp_if (fun c3 => ?_) (fun c3 => ?_)
  · have c3 := cv_eq (a := z2.toInt) (b := 0) rfl (by decide) c3
    unfold bk_X9_seen_24
    refine wp_bd (s_X9_tell   o1 (-1 : Int32)  hIo1  ⟨by decide, by decide⟩) (fun z4 hz4 => ?_)
    obtain ⟨hz4_0, hz4_1, hz4_2⟩ := hz4
    have hkpz4_me : Kp [8, 11, 13, 14, 15, 16, 18, 19, 20, 21, 23, 26, 29, 34, 38, 43, 56, 57, 58, 59, 62] [4, 5, 7, 10, 12, 22, 24, 25, 27, 28, 42, 48, 50, 51, 55, 61] [(0, 1), (29, 36), (36, 64), (64, 71)] o_me z4.2 := hkpo1.trans (hz4_2.mono (by decide) (by decide) (by decide))
    refine wp_some ?_
    have rg5 := i32_rg z4.1
    exact (show ((-6) ≤ z4.1.toInt ∧ z4.1.toInt ≤ 2147483647) ∧ IvX9 z4.2 ∧ Kp [8, 11, 13, 14, 15, 16, 18, 19, 20, 21, 23, 26, 29, 34, 38, 43, 56, 57, 58, 59, 62] [4, 5, 7, 10, 12, 22, 24, 25, 27, 28, 42, 48, 50, 51, 55, 61] [(0, 1), (29, 36), (36, 64), (64, 71)] o_me z4.2 from ⟨⟨hz4_0.1, hz4_0.2⟩, hz4_1, hkpz4_me⟩)
  · have c3z := c3
    have c3i := hz2_1 c3
    have c3 := cv_ne (a := z2.toInt) (b := 0) rfl (by decide) c3
    have rg6 := i32_rg p1
    have t7 : p1.toInt64.toInt = p1.toInt := Int32.toInt_toInt64 _
    refine wp_bd (s_X9_in   p1.toInt64 (0 : Int64) (9 : Int64)    ) (fun z8 hz8 => ?_)
    obtain ⟨hz8_0, hz8_1⟩ := hz8
    refine wp_if (fun c9 => ?_) (fun c9 => ?_)
    · have c9 := cv_eq (a := z8.toInt) (b := 0) rfl (by decide) c9
      unfold bk_X9_seen_24
      refine wp_bd (s_X9_tell   o1 (-1 : Int32)  hIo1  ⟨by decide, by decide⟩) (fun z10 hz10 => ?_)
      obtain ⟨hz10_0, hz10_1, hz10_2⟩ := hz10
      have hkpz10_me : Kp [8, 11, 13, 14, 15, 16, 18, 19, 20, 21, 23, 26, 29, 34, 38, 43, 56, 57, 58, 59, 62] [4, 5, 7, 10, 12, 22, 24, 25, 27, 28, 42, 48, 50, 51, 55, 61] [(0, 1), (29, 36), (36, 64), (64, 71)] o_me z10.2 := hkpo1.trans (hz10_2.mono (by decide) (by decide) (by decide))
      refine wp_some ?_
      have rg11 := i32_rg z10.1
      exact (show ((-6) ≤ z10.1.toInt ∧ z10.1.toInt ≤ 2147483647) ∧ IvX9 z10.2 ∧ Kp [8, 11, 13, 14, 15, 16, 18, 19, 20, 21, 23, 26, 29, 34, 38, 43, 56, 57, 58, 59, 62] [4, 5, 7, 10, 12, 22, 24, 25, 27, 28, 42, 48, 50, 51, 55, 61] [(0, 1), (29, 36), (36, 64), (64, 71)] o_me z10.2 from ⟨⟨hz10_0.1, hz10_0.2⟩, hz10_1, hkpz10_me⟩)
    · have c9z := c9
      have c9i := hz8_1 c9
      have c9 := cv_ne (a := z8.toInt) (b := 0) rfl (by decide) c9
      have t12 := iaX9_3_1 hIo1 (j := (1 : Int32)) (by decide) (by decide)
      refine wp_lt (fun x13 ex13 => ?_)
      have tx13 : x13.toInt = (gA o1 3 (1 : Int32).toNatClampNeg).toInt := by rw [ex13]
      refine wp_if (fun c14 => ?_) (fun c14 => ?_)
      · have c14 := cv_eq (a := x13.toInt) (b := 6) rfl (by decide) c14
        refine wp_bd (s_X9_tell   o1 (-5 : Int32)  hIo1  ⟨by decide, by decide⟩) (fun z15 hz15 => ?_)
        obtain ⟨hz15_0, hz15_1, hz15_2⟩ := hz15
        have hkpz15_me : Kp [8, 11, 13, 14, 15, 16, 18, 19, 20, 21, 23, 26, 29, 34, 38, 43, 56, 57, 58, 59, 62] [4, 5, 7, 10, 12, 22, 24, 25, 27, 28, 42, 48, 50, 51, 55, 61] [(0, 1), (29, 36), (36, 64), (64, 71)] o_me z15.2 := hkpo1.trans (hz15_2.mono (by decide) (by decide) (by decide))
        have kz15_k16 : (gA z15.2 3 (1 : Int32).toNatClampNeg).toInt = (gA o1 3 (1 : Int32).toNatClampNeg).toInt := congrArg (fun g => (g (1 : Int32).toNatClampNeg).toInt) (hz15_2.2.1 3 (by decide))
        refine wp_some ?_
        have rg17 := i32_rg z15.1
        exact (show ((-6) ≤ z15.1.toInt ∧ z15.1.toInt ≤ 2147483647) ∧ IvX9 z15.2 ∧ Kp [8, 11, 13, 14, 15, 16, 18, 19, 20, 21, 23, 26, 29, 34, 38, 43, 56, 57, 58, 59, 62] [4, 5, 7, 10, 12, 22, 24, 25, 27, 28, 42, 48, 50, 51, 55, 61] [(0, 1), (29, 36), (36, 64), (64, 71)] o_me z15.2 from ⟨⟨hz15_0.1, hz15_0.2⟩, hz15_1, hkpz15_me⟩)
      · have c14 := cv_ne (a := x13.toInt) (b := 6) rfl (by decide) c14
        have t18 : ((2 : Int32) * x13).toInt = 2 * x13.toInt := i32_mul (by decide) rfl (zm_l (zl_e (k := 0) (zq_0 tx13.symm) t12.1 (by decide)) (by decide) (by decide)) (zm_u (zu_e (k := 6) (zq_0 tx13) t12.2 (by decide)) (by decide) (by decide))
        have t19 : ((71 : Int32) + ((2 : Int32) * x13)).toInt = 71 + ((2 : Int32) * x13).toInt := i32_add (by decide) rfl (zk_cl (zmq_l (c := 0) t18 (zl_e (k := 0) (zq_0 tx13.symm) t12.1 (by decide)) (by decide) (by decide)) (by decide)) (zk_cu (zmq_u (c := 12) t18 (zu_e (k := 6) (zq_0 tx13) t12.2 (by decide)) (by decide) (by decide)) (by decide))
        refine wp_gd (zin_of (m := 5484) rfl (Int.le_trans (by decide) (zaqc_l (c := 71) t19 (zmq_l (c := 0) t18 (zl_e (k := 0) (zq_0 tx13.symm) t12.1 (by decide)) (by decide) (by decide)) (by decide))) (zlt_m (c := 5483) (Int.le_trans (zaqc_u (c := 83) t19 (zmq_u (c := 12) t18 (zu_e (k := 6) (zq_0 tx13) t12.2 (by decide)) (by decide) (by decide)) (by decide)) (by decide)) (by decide))) ?_
        refine wp_lt (fun o20 eo20 => ?_)
        have hIo20 : IvX9 o20 := by rw [eo20]; exact ibX9_3 hIo1 (Int.le_trans (by decide) (zaqc_l (c := 71) t19 (zmq_l (c := 0) t18 (zl_e (k := 0) (zq_0 tx13.symm) t12.1 (by decide)) (by decide) (by decide)) (by decide))) (zaqc_u (c := 83) t19 (zmq_u (c := 12) t18 (zu_e (k := 6) (zq_0 tx13) t12.2 (by decide)) (by decide) (by decide)) (by decide)) (Or.inr (Or.inl (zlt_k (c := 1) (Int.le_trans (by decide) (zaqc_l (c := 71) t19 (zmq_l (c := 0) t18 (zl_e (k := 0) (zq_0 tx13.symm) t12.1 (by decide)) (by decide) (by decide)) (by decide))) (by decide)))) (Or.inr (Or.inl (zlt_k (c := 2) (Int.le_trans (by decide) (zaqc_l (c := 71) t19 (zmq_l (c := 0) t18 (zl_e (k := 0) (zq_0 tx13.symm) t12.1 (by decide)) (by decide) (by decide)) (by decide))) (by decide)))) (Or.inr (Or.inl (zlt_k (c := 3) (Int.le_trans (by decide) (zaqc_l (c := 71) t19 (zmq_l (c := 0) t18 (zl_e (k := 0) (zq_0 tx13.symm) t12.1 (by decide)) (by decide) (by decide)) (by decide))) (by decide)))) (Or.inr (Or.inl (zlt_k (c := 4) (Int.le_trans (by decide) (zaqc_l (c := 71) t19 (zmq_l (c := 0) t18 (zl_e (k := 0) (zq_0 tx13.symm) t12.1 (by decide)) (by decide) (by decide)) (by decide))) (by decide)))) (Or.inr (Or.inl (zlt_k (c := 8) (Int.le_trans (by decide) (zaqc_l (c := 71) t19 (zmq_l (c := 0) t18 (zl_e (k := 0) (zq_0 tx13.symm) t12.1 (by decide)) (by decide) (by decide)) (by decide))) (by decide)))) (Or.inr (Or.inl (zlt_k (c := 15) (Int.le_trans (by decide) (zaqc_l (c := 71) t19 (zmq_l (c := 0) t18 (zl_e (k := 0) (zq_0 tx13.symm) t12.1 (by decide)) (by decide) (by decide)) (by decide))) (by decide)))) (Or.inr (Or.inl (zlt_k (c := 29) (Int.le_trans (by decide) (zaqc_l (c := 71) t19 (zmq_l (c := 0) t18 (zl_e (k := 0) (zq_0 tx13.symm) t12.1 (by decide)) (by decide) (by decide)) (by decide))) (by decide)))) (Or.inr (Or.inl (zlt_k (c := 36) (Int.le_trans (by decide) (zaqc_l (c := 71) t19 (zmq_l (c := 0) t18 (zl_e (k := 0) (zq_0 tx13.symm) t12.1 (by decide)) (by decide) (by decide)) (by decide))) (by decide)))) (Or.inr (Or.inr ⟨c3i.1, (Int.le_trans c3i.2 (by decide))⟩))
        have ko20_k21 : (gA o20 3 (1 : Int32).toNatClampNeg).toInt = (gA o1 3 (1 : Int32).toNatClampNeg).toInt := by rw [eo20]; exact congrArg Int32.toInt (upd_ne (g := gA o1 3) (i := ((71 : Int32) + ((2 : Int32) * x13))) (j := (1 : Int32)) (v := p0) (Int.le_trans (by decide) (zaqc_l (c := 71) t19 (zmq_l (c := 0) t18 (zl_e (k := 0) (zq_0 tx13.symm) t12.1 (by decide)) (by decide) (by decide)) (by decide))) (by decide) (zne_r (k := 1) (l := 71) (by decide) (zaqc_l (c := 71) t19 (zmq_l (c := 0) t18 (zl_e (k := 0) (zq_0 tx13.symm) t12.1 (by decide)) (by decide) (by decide)) (by decide)) (by decide)))
        have ko20_k22 : (gI o20 0).toInt = (gI o1 0).toInt := by rw [eo20]; rfl
        have ko20_v : (gA o20 3 ((71 : Int32) + ((2 : Int32) * x13)).toNatClampNeg).toInt = p0.toInt := by rw [eo20]; exact congrArg Int32.toInt (upd_eq (g := gA o1 3) (i := ((71 : Int32) + ((2 : Int32) * x13))) (v := p0))
        have hkpo20 : Kp [8, 11, 13, 14, 15, 16, 18, 19, 20, 21, 23, 26, 29, 34, 38, 43, 56, 57, 58, 59, 62] [4, 5, 7, 10, 12, 22, 24, 25, 27, 28, 42, 48, 50, 51, 55, 61] [(0, 1), (29, 36), (36, 64), (64, 71)] o_me o20 := hkpo1.trans (by rw [eo20]; exact kp_bw (a := 71) (b := 5484) (by decide) (by decide) (Int.le_trans (by decide) (zaqc_l (c := 71) t19 (zmq_l (c := 0) t18 (zl_e (k := 0) (zq_0 tx13.symm) t12.1 (by decide)) (by decide) (by decide)) (by decide))) (Int.lt_of_le_of_lt (zaqc_u (c := 83) t19 (zmq_u (c := 12) t18 (zu_e (k := 6) (zq_0 tx13) t12.2 (by decide)) (by decide) (by decide)) (by decide)) (by decide)))
        have t23 : (((71 : Int32) + ((2 : Int32) * x13)) + (1 : Int32)).toInt = ((71 : Int32) + ((2 : Int32) * x13)).toInt + 1 := i32_add rfl (by decide) (zk_l (zaqc_l (c := 71) t19 (zmq_l (c := 0) t18 (zl_e (k := 0) (zq_0 tx13.symm) t12.1 (by decide)) (by decide) (by decide)) (by decide)) (by decide)) (zk_u (zaqc_u (c := 83) t19 (zmq_u (c := 12) t18 (zu_e (k := 6) (zq_0 tx13) t12.2 (by decide)) (by decide) (by decide)) (by decide)) (by decide))
        refine wp_gd (zin_of (m := 5484) rfl (zl_e (zq_r (c := (-1)) t23 (by decide)) (zaqc_l (c := 71) t19 (zmq_l (c := 0) t18 (zl_e (k := 0) (zq_0 tx13.symm) t12.1 (by decide)) (by decide) (by decide)) (by decide)) (by decide)) (zlt_m (c := 5483) (zu_e (Int.le_of_eq t23) (zaqc_u (c := 83) t19 (zmq_u (c := 12) t18 (zu_e (k := 6) (zq_0 tx13) t12.2 (by decide)) (by decide) (by decide)) (by decide)) (by decide)) (by decide))) ?_
        refine wp_lt (fun o24 eo24 => ?_)
        have hIo24 : IvX9 o24 := by rw [eo24]; exact ibX9_3 hIo20 (zl_e (zq_r (c := (-1)) t23 (by decide)) (zaqc_l (c := 71) t19 (zmq_l (c := 0) t18 (zl_e (k := 0) (zq_0 tx13.symm) t12.1 (by decide)) (by decide) (by decide)) (by decide)) (by decide)) (by omega) (Or.inr (Or.inl (zlt_k (c := 1) (zl_e (zq_r (c := (-1)) t23 (by decide)) (zaqc_l (c := 71) t19 (zmq_l (c := 0) t18 (zl_e (k := 0) (zq_0 tx13.symm) t12.1 (by decide)) (by decide) (by decide)) (by decide)) (by decide)) (by decide)))) (Or.inr (Or.inl (zlt_k (c := 2) (zl_e (zq_r (c := (-1)) t23 (by decide)) (zaqc_l (c := 71) t19 (zmq_l (c := 0) t18 (zl_e (k := 0) (zq_0 tx13.symm) t12.1 (by decide)) (by decide) (by decide)) (by decide)) (by decide)) (by decide)))) (Or.inr (Or.inl (zlt_k (c := 3) (zl_e (zq_r (c := (-1)) t23 (by decide)) (zaqc_l (c := 71) t19 (zmq_l (c := 0) t18 (zl_e (k := 0) (zq_0 tx13.symm) t12.1 (by decide)) (by decide) (by decide)) (by decide)) (by decide)) (by decide)))) (Or.inr (Or.inl (zlt_k (c := 4) (zl_e (zq_r (c := (-1)) t23 (by decide)) (zaqc_l (c := 71) t19 (zmq_l (c := 0) t18 (zl_e (k := 0) (zq_0 tx13.symm) t12.1 (by decide)) (by decide) (by decide)) (by decide)) (by decide)) (by decide)))) (Or.inr (Or.inl (zlt_k (c := 8) (zl_e (zq_r (c := (-1)) t23 (by decide)) (zaqc_l (c := 71) t19 (zmq_l (c := 0) t18 (zl_e (k := 0) (zq_0 tx13.symm) t12.1 (by decide)) (by decide) (by decide)) (by decide)) (by decide)) (by decide)))) (Or.inr (Or.inl (zlt_k (c := 15) (zl_e (zq_r (c := (-1)) t23 (by decide)) (zaqc_l (c := 71) t19 (zmq_l (c := 0) t18 (zl_e (k := 0) (zq_0 tx13.symm) t12.1 (by decide)) (by decide) (by decide)) (by decide)) (by decide)) (by decide)))) (Or.inr (Or.inl (zlt_k (c := 29) (zl_e (zq_r (c := (-1)) t23 (by decide)) (zaqc_l (c := 71) t19 (zmq_l (c := 0) t18 (zl_e (k := 0) (zq_0 tx13.symm) t12.1 (by decide)) (by decide) (by decide)) (by decide)) (by decide)) (by decide)))) (Or.inr (Or.inl (zlt_k (c := 36) (zl_e (zq_r (c := (-1)) t23 (by decide)) (zaqc_l (c := 71) t19 (zmq_l (c := 0) t18 (zl_e (k := 0) (zq_0 tx13.symm) t12.1 (by decide)) (by decide) (by decide)) (by decide)) (by decide)) (by decide)))) (Or.inr (Or.inr ⟨(zl_e (zd_e (c := 0) c9i.1 (zq_0 t7) (by decide)) (Int.le_of_eq tl0.symm) (by decide)), (zu_e (zd_e (c := 0) (zq_0 t7.symm) c9i.2 (by decide)) (Int.le_of_eq tl9) (by decide))⟩))
        have ko24_k25 : (gA o24 3 (1 : Int32).toNatClampNeg).toInt = (gA o20 3 (1 : Int32).toNatClampNeg).toInt := by rw [eo24]; exact congrArg Int32.toInt (upd_ne (g := gA o20 3) (i := (((71 : Int32) + ((2 : Int32) * x13)) + (1 : Int32))) (j := (1 : Int32)) (v := p1) (zl_e (zq_r (c := (-1)) t23 (by decide)) (zaqc_l (c := 71) t19 (zmq_l (c := 0) t18 (zl_e (k := 0) (zq_0 tx13.symm) t12.1 (by decide)) (by decide) (by decide)) (by decide)) (by decide)) (by decide) (zne_r (k := 1) (l := 72) (by decide) (zl_e (k := 72) (zq_r (c := (-1)) t23 (by decide)) (zaqc_l (c := 71) t19 (zmq_l (c := 0) t18 (zl_e (k := 0) (zq_0 tx13.symm) t12.1 (by decide)) (by decide) (by decide)) (by decide)) (by decide)) (by decide)))
        have ko24_k26 : (gI o24 0).toInt = (gI o20 0).toInt := by rw [eo24]; rfl
        have ko24_v : (gA o24 3 (((71 : Int32) + ((2 : Int32) * x13)) + (1 : Int32)).toNatClampNeg).toInt = p1.toInt := by rw [eo24]; exact congrArg Int32.toInt (upd_eq (g := gA o20 3) (i := (((71 : Int32) + ((2 : Int32) * x13)) + (1 : Int32))) (v := p1))
        have hkpo24 : Kp [8, 11, 13, 14, 15, 16, 18, 19, 20, 21, 23, 26, 29, 34, 38, 43, 56, 57, 58, 59, 62] [4, 5, 7, 10, 12, 22, 24, 25, 27, 28, 42, 48, 50, 51, 55, 61] [(0, 1), (29, 36), (36, 64), (64, 71)] o_me o24 := hkpo20.trans (by rw [eo24]; exact kp_bw (a := 71) (b := 5484) (by decide) (by decide) (Int.le_trans (by decide) (zl_e (k := 72) (zq_r (c := (-1)) t23 (by decide)) (zaqc_l (c := 71) t19 (zmq_l (c := 0) t18 (zl_e (k := 0) (zq_0 tx13.symm) t12.1 (by decide)) (by decide) (by decide)) (by decide)) (by decide))) (Int.lt_of_le_of_lt (zu_e (k := 84) (Int.le_of_eq t23) (zaqc_u (c := 83) t19 (zmq_u (c := 12) t18 (zu_e (k := 6) (zq_0 tx13) t12.2 (by decide)) (by decide) (by decide)) (by decide)) (by decide)) (by decide)))
        have t27 : ((gA o24 3 (1 : Int32).toNatClampNeg) + (1 : Int32)).toInt = (gA o24 3 (1 : Int32).toNatClampNeg).toInt + 1 := i32_add rfl (by decide) (zk_l (zl_e (k := 0) (zd_e (c := 0) (zq_0 ko20_k21.symm) (zq_0 ko24_k25.symm) (by decide)) t12.1 (by decide)) (by decide)) (zk_u (zu_e (k := 6) (zd_e (c := 0) (zq_0 ko24_k25) (zq_0 ko20_k21) (by decide)) t12.2 (by decide)) (by decide))
        refine wp_lt (fun o28 eo28 => ?_)
        have hIo28 : IvX9 o28 := by rw [eo28]; exact ibX9_3 hIo24 (by decide) (by decide) (Or.inr (Or.inl (by decide))) (Or.inr (Or.inr ⟨(zl_e (zd_e (c := (-1)) (zq_0 ko20_k21.symm) (zd_e (c := (-1)) (zq_0 ko24_k25.symm) (zq_r (c := (-1)) t27 (by decide)) (by decide)) (by decide)) t12.1 (by decide)), (by omega)⟩)) (Or.inl (by decide)) (Or.inl (by decide)) (Or.inl (by decide)) (Or.inl (by decide)) (Or.inl (by decide)) (Or.inl (by decide)) (Or.inl (by decide))
        have ko28_k29 : (gA o28 3 (((71 : Int32) + ((2 : Int32) * x13)) + (1 : Int32)).toNatClampNeg).toInt = (gA o24 3 (((71 : Int32) + ((2 : Int32) * x13)) + (1 : Int32)).toNatClampNeg).toInt := by rw [eo28]; exact congrArg Int32.toInt (upd_ne (g := gA o24 3) (i := (1 : Int32)) (j := (((71 : Int32) + ((2 : Int32) * x13)) + (1 : Int32))) (v := ((gA o24 3 (1 : Int32).toNatClampNeg) + (1 : Int32))) (by decide) (zl_e (zq_r (c := (-1)) t23 (by decide)) (zaqc_l (c := 71) t19 (zmq_l (c := 0) t18 (zl_e (k := 0) (zq_0 tx13.symm) t12.1 (by decide)) (by decide) (by decide)) (by decide)) (by decide)) (zne_l (k := 1) (l := 72) (by decide) (zl_e (k := 72) (zq_r (c := (-1)) t23 (by decide)) (zaqc_l (c := 71) t19 (zmq_l (c := 0) t18 (zl_e (k := 0) (zq_0 tx13.symm) t12.1 (by decide)) (by decide) (by decide)) (by decide)) (by decide)) (by decide)))
        have ko28_k30 : (gI o28 0).toInt = (gI o24 0).toInt := by rw [eo28]; rfl
        have ko28_v : (gA o28 3 (1 : Int32).toNatClampNeg).toInt = ((gA o24 3 (1 : Int32).toNatClampNeg) + (1 : Int32)).toInt := by rw [eo28]; exact congrArg Int32.toInt (upd_eq (g := gA o24 3) (i := (1 : Int32)) (v := ((gA o24 3 (1 : Int32).toNatClampNeg) + (1 : Int32))))
        have hkpo28 : Kp [8, 11, 13, 14, 15, 16, 18, 19, 20, 21, 23, 26, 29, 34, 38, 43, 56, 57, 58, 59, 62] [4, 5, 7, 10, 12, 22, 24, 25, 27, 28, 42, 48, 50, 51, 55, 61] [(0, 1), (29, 36), (36, 64), (64, 71)] o_me o28 := hkpo24.trans (by rw [eo28]; exact kp_bw (a := 1) (b := 2) (by decide) (by decide) (by decide) (by decide))
        have t31 : (x13 + (1 : Int32)).toInt = x13.toInt + 1 := i32_add rfl (by decide) (zk_l (zl_e (k := 0) (zq_0 tx13.symm) t12.1 (by decide)) (by decide)) (zk_u (zu_e (k := 6) (zq_0 tx13) t12.2 (by decide)) (by decide))
        have rg33 := i32_rg (x13 + (1 : Int32))
        refine wp_bd (s_X9_tell   o28 (x13 + (1 : Int32))  hIo28  ⟨(zl_e (zd_e (c := (-1)) (zq_0 tx13.symm) (zq_r (c := (-1)) t31 (by decide)) (by decide)) t12.1 (by decide)), rg33.2⟩) (fun z32 hz32 => ?_)
        obtain ⟨hz32_0, hz32_1, hz32_2⟩ := hz32
        have hkpz32_me : Kp [8, 11, 13, 14, 15, 16, 18, 19, 20, 21, 23, 26, 29, 34, 38, 43, 56, 57, 58, 59, 62] [4, 5, 7, 10, 12, 22, 24, 25, 27, 28, 42, 48, 50, 51, 55, 61] [(0, 1), (29, 36), (36, 64), (64, 71)] o_me z32.2 := hkpo28.trans (hz32_2.mono (by decide) (by decide) (by decide))
        have kz32_k34 : (gA z32.2 3 (((71 : Int32) + ((2 : Int32) * x13)) + (1 : Int32)).toNatClampNeg).toInt = (gA o28 3 (((71 : Int32) + ((2 : Int32) * x13)) + (1 : Int32)).toNatClampNeg).toInt := congrArg (fun g => (g (((71 : Int32) + ((2 : Int32) * x13)) + (1 : Int32)).toNatClampNeg).toInt) (hz32_2.2.1 3 (by decide))
        have kz32_k35 : (gA z32.2 3 (1 : Int32).toNatClampNeg).toInt = (gA o28 3 (1 : Int32).toNatClampNeg).toInt := congrArg (fun g => (g (1 : Int32).toNatClampNeg).toInt) (hz32_2.2.1 3 (by decide))
        refine wp_some ?_
        have rg36 := i32_rg z32.1
        exact (show ((-6) ≤ z32.1.toInt ∧ z32.1.toInt ≤ 2147483647) ∧ IvX9 z32.2 ∧ Kp [8, 11, 13, 14, 15, 16, 18, 19, 20, 21, 23, 26, 29, 34, 38, 43, 56, 57, 58, 59, 62] [4, 5, 7, 10, 12, 22, 24, 25, 27, 28, 42, 48, 50, 51, 55, 61] [(0, 1), (29, 36), (36, 64), (64, 71)] o_me z32.2 from ⟨⟨hz32_0.1, hz32_0.2⟩, hz32_1, hkpz32_me⟩)

set_option maxHeartbeats 4000000 in
set_option maxRecDepth 100000 in
theorem s_X9_status (o_me : Ob) (hI_me : IvX9 o_me)  : wp (f_X9_status   o_me) (fun (y : Int32 × Ob) => IvX9 y.2 ∧ Kp [1, 8, 11, 13, 14, 15, 16, 18, 19, 20, 21, 23, 26, 29, 34, 38, 43, 56, 57, 58, 59, 62] [2, 3, 4, 5, 7, 10, 12, 22, 24, 25, 27, 28, 42, 48, 50, 51, 55, 61] [(0, 1), (1, 2), (29, 36), (36, 64), (64, 71)] o_me y.2) := by
  unfold f_X9_status
  refine wp_lt (fun o1 eo1 => ?_)
  have hIo1 : IvX9 o1 := by rw [eo1]; exact hI_me
  have hkpo1 : Kp [1, 8, 11, 13, 14, 15, 16, 18, 19, 20, 21, 23, 26, 29, 34, 38, 43, 56, 57, 58, 59, 62] [2, 3, 4, 5, 7, 10, 12, 22, 24, 25, 27, 28, 42, 48, 50, 51, 55, 61] [(0, 1), (1, 2), (29, 36), (36, 64), (64, 71)] o_me o1 := Kp.rf.trans (by rw [eo1]; exact Kp.sI (by decide))
  refine wp_some ?_
  exact (show IvX9 o1 ∧ Kp [1, 8, 11, 13, 14, 15, 16, 18, 19, 20, 21, 23, 26, 29, 34, 38, 43, 56, 57, 58, 59, 62] [2, 3, 4, 5, 7, 10, 12, 22, 24, 25, 27, 28, 42, 48, 50, 51, 55, 61] [(0, 1), (1, 2), (29, 36), (36, 64), (64, 71)] o_me o1 from ⟨hIo1, hkpo1⟩)

set_option maxHeartbeats 4000000 in
set_option maxRecDepth 100000 in
theorem s_X9_stopped (o_me : Ob) (hI_me : IvX9 o_me)  : wp (f_X9_stopped   o_me) (fun (y : Int32 × Ob) => IvX9 y.2 ∧ Kp [1, 8, 11, 13, 14, 15, 16, 18, 19, 20, 21, 23, 26, 29, 34, 38, 43, 56, 57, 58, 59, 62] [2, 3, 4, 5, 7, 10, 12, 22, 24, 25, 27, 28, 42, 48, 50, 51, 55, 61] [(0, 1), (1, 2), (29, 36), (36, 64), (64, 71)] o_me y.2) := by
  unfold f_X9_stopped
  refine wp_lt (fun o1 eo1 => ?_)
  have hIo1 : IvX9 o1 := by rw [eo1]; exact hI_me
  have hkpo1 : Kp [1, 8, 11, 13, 14, 15, 16, 18, 19, 20, 21, 23, 26, 29, 34, 38, 43, 56, 57, 58, 59, 62] [2, 3, 4, 5, 7, 10, 12, 22, 24, 25, 27, 28, 42, 48, 50, 51, 55, 61] [(0, 1), (1, 2), (29, 36), (36, 64), (64, 71)] o_me o1 := Kp.rf.trans (by rw [eo1]; exact Kp.sI (by decide))
  refine wp_some ?_
  exact (show IvX9 o1 ∧ Kp [1, 8, 11, 13, 14, 15, 16, 18, 19, 20, 21, 23, 26, 29, 34, 38, 43, 56, 57, 58, 59, 62] [2, 3, 4, 5, 7, 10, 12, 22, 24, 25, 27, 28, 42, 48, 50, 51, 55, 61] [(0, 1), (1, 2), (29, 36), (36, 64), (64, 71)] o_me o1 from ⟨hIo1, hkpo1⟩)

set_option maxHeartbeats 4000000 in
set_option maxRecDepth 100000 in
theorem s_X9_strength (o_me : Ob) (p0 : Int32) (p1 : Int32) (p2 : Int32) (hI_me : IvX9 o_me)  : wp (f_X9_strength   o_me p0 p1 p2) (fun (y : Int32 × Ob) => IvX9 y.2 ∧ Kp [8, 11, 13, 14, 15, 16, 18, 19, 20, 21, 23, 26, 29, 34, 38, 43, 56, 57, 58, 59, 62] [4, 5, 7, 10, 12, 22, 24, 25, 27, 28, 42, 48, 50, 51, 55, 61] [(0, 1), (1, 2), (29, 36), (64, 71)] o_me y.2) := by
  unfold f_X9_strength
  refine wp_lt (fun o1 eo1 => ?_)
  have hIo1 : IvX9 o1 := by rw [eo1]; exact hI_me
  have hkpo1 : Kp [8, 11, 13, 14, 15, 16, 18, 19, 20, 21, 23, 26, 29, 34, 38, 43, 56, 57, 58, 59, 62] [4, 5, 7, 10, 12, 22, 24, 25, 27, 28, 42, 48, 50, 51, 55, 61] [(0, 1), (1, 2), (29, 36), (64, 71)] o_me o1 := Kp.rf.trans (by rw [eo1]; exact Kp.sI (by decide))
  refine wp_bd (s_X9_isRace   p1    ) (fun z2 hz2 => ?_)
  obtain ⟨hz2_0, hz2_1⟩ := hz2
  refine wp_if (fun c3 => ?_) (fun c3 => ?_)
  · have c3 := cv_eq (a := z2.toInt) (b := 0) rfl (by decide) c3
    unfold bk_X9_strength_24
    refine wp_bd (s_X9_tell   o1 (-1 : Int32)  hIo1  ⟨by decide, by decide⟩) (fun z4 hz4 => ?_)
    obtain ⟨hz4_0, hz4_1, hz4_2⟩ := hz4
    have hkpz4_me : Kp [8, 11, 13, 14, 15, 16, 18, 19, 20, 21, 23, 26, 29, 34, 38, 43, 56, 57, 58, 59, 62] [4, 5, 7, 10, 12, 22, 24, 25, 27, 28, 42, 48, 50, 51, 55, 61] [(0, 1), (1, 2), (29, 36), (64, 71)] o_me z4.2 := hkpo1.trans (hz4_2.mono (by decide) (by decide) (by decide))
    refine wp_some ?_
    exact (show IvX9 z4.2 ∧ Kp [8, 11, 13, 14, 15, 16, 18, 19, 20, 21, 23, 26, 29, 34, 38, 43, 56, 57, 58, 59, 62] [4, 5, 7, 10, 12, 22, 24, 25, 27, 28, 42, 48, 50, 51, 55, 61] [(0, 1), (1, 2), (29, 36), (64, 71)] o_me z4.2 from ⟨hz4_1, hkpz4_me⟩)
  · have c3i := hz2_1 c3
    refine wp_bd (s_X9_in   p2.toInt64 (0 : Int64) (9 : Int64)    ) (fun z7 hz7 => ?_)
    refine wp_if (fun c8 => ?_) (fun c8 => ?_)
    · unfold bk_X9_strength_24
      refine wp_bd (s_X9_tell   o1 (-1 : Int32)  hIo1  ⟨by decide, by decide⟩) (fun z9 hz9 => ?_)
      obtain ⟨hz9_0, hz9_1, hz9_2⟩ := hz9
      have hkpz9_me : Kp [8, 11, 13, 14, 15, 16, 18, 19, 20, 21, 23, 26, 29, 34, 38, 43, 56, 57, 58, 59, 62] [4, 5, 7, 10, 12, 22, 24, 25, 27, 28, 42, 48, 50, 51, 55, 61] [(0, 1), (1, 2), (29, 36), (64, 71)] o_me z9.2 := hkpo1.trans (hz9_2.mono (by decide) (by decide) (by decide))
      refine wp_some ?_
      exact (show IvX9 z9.2 ∧ Kp [8, 11, 13, 14, 15, 16, 18, 19, 20, 21, 23, 26, 29, 34, 38, 43, 56, 57, 58, 59, 62] [4, 5, 7, 10, 12, 22, 24, 25, 27, 28, 42, 48, 50, 51, 55, 61] [(0, 1), (1, 2), (29, 36), (64, 71)] o_me z9.2 from ⟨hz9_1, hkpz9_me⟩)
    · refine wp_bd (s_X9_isPerson   o1 p0  hIo1  ) (fun z10 hz10 => ?_)
      obtain ⟨hz10_0, hz10_1⟩ := hz10
      refine wp_if (fun c11 => ?_) (fun c11 => ?_)
      · have c11 := cv_eq (a := z10.toInt) (b := 0) rfl (by decide) c11
        refine wp_bd (s_X9_tell   o1 (-2 : Int32)  hIo1  ⟨by decide, by decide⟩) (fun z12 hz12 => ?_)
        obtain ⟨hz12_0, hz12_1, hz12_2⟩ := hz12
        have hkpz12_me : Kp [8, 11, 13, 14, 15, 16, 18, 19, 20, 21, 23, 26, 29, 34, 38, 43, 56, 57, 58, 59, 62] [4, 5, 7, 10, 12, 22, 24, 25, 27, 28, 42, 48, 50, 51, 55, 61] [(0, 1), (1, 2), (29, 36), (64, 71)] o_me z12.2 := hkpo1.trans (hz12_2.mono (by decide) (by decide) (by decide))
        refine wp_some ?_
        exact (show IvX9 z12.2 ∧ Kp [8, 11, 13, 14, 15, 16, 18, 19, 20, 21, 23, 26, 29, 34, 38, 43, 56, 57, 58, 59, 62] [4, 5, 7, 10, 12, 22, 24, 25, 27, 28, 42, 48, 50, 51, 55, 61] [(0, 1), (1, 2), (29, 36), (64, 71)] o_me z12.2 from ⟨hz12_1, hkpz12_me⟩)
      · have c11i := hz10_1 c11
        have t13 : ((4 : Int32) * p0).toInt = 4 * p0.toInt := i32_mul (by decide) rfl (zm_l c11i.1 (by decide) (by decide)) (zm_u c11i.2 (by decide) (by decide))
        have t14 : ((36 : Int32) + ((4 : Int32) * p0)).toInt = 36 + ((4 : Int32) * p0).toInt := i32_add (by decide) rfl (zk_cl (zmq_l (c := 0) t13 c11i.1 (by decide) (by decide)) (by decide)) (zk_cu (zmq_u (c := 24) t13 c11i.2 (by decide) (by decide)) (by decide))
        have t15 : (((36 : Int32) + ((4 : Int32) * p0)) + p1).toInt = ((36 : Int32) + ((4 : Int32) * p0)).toInt + p1.toInt := i32_add rfl rfl (zk_ll (zaqc_l (c := 36) t14 (zmq_l (c := 0) t13 c11i.1 (by decide) (by decide)) (by decide)) c3i.1 (by decide)) (zk_uu (zaqc_u (c := 60) t14 (zmq_u (c := 24) t13 c11i.2 (by decide) (by decide)) (by decide)) c3i.2 (by decide))
        refine wp_bd (s_X9_change   o1 (((36 : Int32) + ((4 : Int32) * p0)) + p1) p2  hIo1  ⟨(zaq_l (c := 36) t15 (zaqc_l (c := 36) t14 (zmq_l (c := 0) t13 c11i.1 (by decide) (by decide)) (by decide)) c3i.1 (by decide)), (zaq_u (c := 63) t15 (zaqc_u (c := 60) t14 (zmq_u (c := 24) t13 c11i.2 (by decide) (by decide)) (by decide)) c3i.2 (by decide))⟩) (fun z16 hz16 => ?_)
        obtain ⟨hz16_0, hz16_1⟩ := hz16
        have hkpz16_me : Kp [8, 11, 13, 14, 15, 16, 18, 19, 20, 21, 23, 26, 29, 34, 38, 43, 56, 57, 58, 59, 62] [4, 5, 7, 10, 12, 22, 24, 25, 27, 28, 42, 48, 50, 51, 55, 61] [(0, 1), (1, 2), (29, 36), (64, 71)] o_me z16.2 := hkpo1.trans (hz16_1.mono (by decide) (by decide) (by decide))
        refine wp_some ?_
        exact (show IvX9 z16.2 ∧ Kp [8, 11, 13, 14, 15, 16, 18, 19, 20, 21, 23, 26, 29, 34, 38, 43, 56, 57, 58, 59, 62] [4, 5, 7, 10, 12, 22, 24, 25, 27, 28, 42, 48, 50, 51, 55, 61] [(0, 1), (1, 2), (29, 36), (64, 71)] o_me z16.2 from ⟨hz16_0, hkpz16_me⟩)

set_option maxHeartbeats 4000000 in
set_option maxRecDepth 100000 in
theorem s_X9_take (o_me : Ob) (p0 : Int32) (hI_me : IvX9 o_me)  : wp (f_X9_take   o_me p0) (fun (y : Int32 × Ob) => ((-6) ≤ y.1.toInt ∧ y.1.toInt ≤ 2147483647) ∧ IvX9 y.2 ∧ Kp [11, 13, 14, 15, 16, 18, 19, 20, 21, 23, 26, 29, 34, 38, 43, 56, 57, 58, 59, 62] [4, 5, 10, 12, 22, 24, 25, 27, 28, 42, 48, 50, 51, 55, 61] [(0, 1), (1, 2), (29, 36), (36, 64), (64, 71)] o_me y.2) := by
  unfold f_X9_take
  refine wp_lt (fun o1 eo1 => ?_)
  have hIo1 : IvX9 o1 := by rw [eo1]; exact hI_me
  have hkpo1 : Kp [11, 13, 14, 15, 16, 18, 19, 20, 21, 23, 26, 29, 34, 38, 43, 56, 57, 58, 59, 62] [4, 5, 10, 12, 22, 24, 25, 27, 28, 42, 48, 50, 51, 55, 61] [(0, 1), (1, 2), (29, 36), (36, 64), (64, 71)] o_me o1 := Kp.rf.trans (by rw [eo1]; exact Kp.sI (by decide))
  refine wp_bd (s_X9_takeNow   o1 p0  hIo1  ) (fun z2 hz2 => ?_)
  obtain ⟨hz2_0, hz2_1, hz2_2⟩ := hz2
  have hkpz2_me : Kp [11, 13, 14, 15, 16, 18, 19, 20, 21, 23, 26, 29, 34, 38, 43, 56, 57, 58, 59, 62] [4, 5, 10, 12, 22, 24, 25, 27, 28, 42, 48, 50, 51, 55, 61] [(0, 1), (1, 2), (29, 36), (36, 64), (64, 71)] o_me z2.2 := hkpo1.trans (hz2_2.mono (by decide) (by decide) (by decide))
  refine wp_bd (s_X9_tell   z2.2 z2.1  hz2_1  ⟨(Int.le_trans (by decide) hz2_0.1), (Int.le_trans hz2_0.2 (by decide))⟩) (fun z3 hz3 => ?_)
  obtain ⟨hz3_0, hz3_1, hz3_2⟩ := hz3
  have hkpz3_me : Kp [11, 13, 14, 15, 16, 18, 19, 20, 21, 23, 26, 29, 34, 38, 43, 56, 57, 58, 59, 62] [4, 5, 10, 12, 22, 24, 25, 27, 28, 42, 48, 50, 51, 55, 61] [(0, 1), (1, 2), (29, 36), (36, 64), (64, 71)] o_me z3.2 := hkpz2_me.trans (hz3_2.mono (by decide) (by decide) (by decide))
  refine wp_some ?_
  exact (show ((-6) ≤ z3.1.toInt ∧ z3.1.toInt ≤ 2147483647) ∧ IvX9 z3.2 ∧ Kp [11, 13, 14, 15, 16, 18, 19, 20, 21, 23, 26, 29, 34, 38, 43, 56, 57, 58, 59, 62] [4, 5, 10, 12, 22, 24, 25, 27, 28, 42, 48, 50, 51, 55, 61] [(0, 1), (1, 2), (29, 36), (36, 64), (64, 71)] o_me z3.2 from ⟨⟨hz3_0.1, hz3_0.2⟩, hz3_1, hkpz3_me⟩)

set_option maxHeartbeats 4000000 in
set_option maxRecDepth 100000 in
theorem s_X9_change_v1 (o_me : Ob) (p0 : Int32) (p1 : Int32) (hI_me : IvX9 o_me) (q0 : 4 ≤ p0.toInt ∧ p0.toInt ≤ 6) : wp (f_X9_change   o_me p0 p1) (fun (y : Int32 × Ob) => IvX9 y.2 ∧ Kp [8, 11, 13, 14, 15, 16, 18, 19, 20, 21, 23, 26, 29, 34, 38, 43, 56, 57, 58, 59, 62] [2, 4, 5, 7, 10, 12, 22, 24, 25, 27, 28, 42, 48, 50, 51, 55, 61] [(0, 1), (1, 2), (29, 36), (36, 64), (64, 71)] o_me y.2) := by
  unfold f_X9_change
  refine wp_gd (zin_of (m := 5484) rfl (Int.le_trans (by decide) q0.1) (zlt_m (c := 5483) (Int.le_trans q0.2 (by decide)) (by decide))) ?_
  refine wp_lt (fun x1 ex1 => ?_)
  refine wp_gd (zin_of (m := 5484) rfl (Int.le_trans (by decide) q0.1) (zlt_m (c := 5483) (Int.le_trans q0.2 (by decide)) (by decide))) ?_
  refine wp_lt (fun o2 eo2 => ?_)
  have hIo2 : IvX9 o2 := by rw [eo2]; exact ibX9_3 hI_me (Int.le_trans (by decide) q0.1) (Int.le_trans q0.2 (by decide)) (Or.inr (Or.inl (zlt_k (c := 1) (Int.le_trans (by decide) q0.1) (by decide)))) (Or.inr (Or.inl (zlt_k (c := 2) (Int.le_trans (by decide) q0.1) (by decide)))) (Or.inr (Or.inl (zlt_k (c := 3) (Int.le_trans (by decide) q0.1) (by decide)))) (Or.inr (Or.inl (zlt_k (c := 4) q0.1 (by decide)))) (Or.inl (zlt_m (c := 6) q0.2 (by decide))) (Or.inl (zlt_m (c := 7) (Int.le_trans q0.2 (by decide)) (by decide))) (Or.inl (zlt_m (c := 21) (Int.le_trans q0.2 (by decide)) (by decide))) (Or.inl (zlt_m (c := 28) (Int.le_trans q0.2 (by decide)) (by decide))) (Or.inl (zlt_m (c := 70) (Int.le_trans q0.2 (by decide)) (by decide)))
  have hkpo2 : Kp [8, 11, 13, 14, 15, 16, 18, 19, 20, 21, 23, 26, 29, 34, 38, 43, 56, 57, 58, 59, 62] [2, 4, 5, 7, 10, 12, 22, 24, 25, 27, 28, 42, 48, 50, 51, 55, 61] [(0, 1), (1, 2), (29, 36), (36, 64), (64, 71)] o_me o2 := Kp.rf.trans (by rw [eo2]; exact kp_bw (a := 2) (b := 29) (by decide) (by decide) (Int.le_trans (by decide) q0.1) (Int.lt_of_le_of_lt q0.2 (by decide)))
  refine wp_lt (fun o3 eo3 => ?_)
  have hIo3 : IvX9 o3 := by rw [eo3]; exact hIo2
  have hkpo3 : Kp [8, 11, 13, 14, 15, 16, 18, 19, 20, 21, 23, 26, 29, 34, 38, 43, 56, 57, 58, 59, 62] [2, 4, 5, 7, 10, 12, 22, 24, 25, 27, 28, 42, 48, 50, 51, 55, 61] [(0, 1), (1, 2), (29, 36), (36, 64), (64, 71)] o_me o3 := hkpo2.trans (by rw [eo3]; exact Kp.sI (by decide))
  refine wp_some ?_
  exact (show IvX9 o3 ∧ Kp [8, 11, 13, 14, 15, 16, 18, 19, 20, 21, 23, 26, 29, 34, 38, 43, 56, 57, 58, 59, 62] [2, 4, 5, 7, 10, 12, 22, 24, 25, 27, 28, 42, 48, 50, 51, 55, 61] [(0, 1), (1, 2), (29, 36), (36, 64), (64, 71)] o_me o3 from ⟨hIo3, hkpo3⟩)

set_option maxHeartbeats 4000000 in
set_option maxRecDepth 100000 in
theorem s_X9_terms (o_me : Ob) (p0 : Int32) (p1 : Int32) (hI_me : IvX9 o_me)  : wp (f_X9_terms   o_me p0 p1) (fun (y : Int32 × Ob) => IvX9 y.2 ∧ Kp [11, 13, 14, 15, 16, 18, 19, 20, 21, 23, 26, 29, 34, 38, 43, 56, 57, 58, 59, 62] [4, 5, 7, 10, 12, 22, 24, 25, 27, 28, 42, 48, 50, 51, 55, 61] [(0, 1), (1, 2), (29, 36), (36, 64), (64, 71)] o_me y.2) := by
  unfold f_X9_terms
  refine wp_lt (fun o1 eo1 => ?_)
  have hIo1 : IvX9 o1 := by rw [eo1]; exact hI_me
  have hkpo1 : Kp [11, 13, 14, 15, 16, 18, 19, 20, 21, 23, 26, 29, 34, 38, 43, 56, 57, 58, 59, 62] [4, 5, 7, 10, 12, 22, 24, 25, 27, 28, 42, 48, 50, 51, 55, 61] [(0, 1), (1, 2), (29, 36), (36, 64), (64, 71)] o_me o1 := Kp.rf.trans (by rw [eo1]; exact Kp.sI (by decide))
  refine wp_if (fun c2 => ?_) (fun c2 => ?_)
  · have c2 := cv_eq (a := p0.toInt) (b := 0) rfl (by decide) c2
    refine wp_bd (s_X9_in   p1.toInt64 (0 : Int64) (999 : Int64)    ) (fun z5 hz5 => ?_)
    unfold bk_X9_terms_60
    refine wp_if (fun c6 => ?_) (fun c6 => ?_)
    · refine wp_bd (s_X9_tell   o1 (-1 : Int32)  hIo1  ⟨by decide, by decide⟩) (fun z7 hz7 => ?_)
      obtain ⟨hz7_0, hz7_1, hz7_2⟩ := hz7
      have hkpz7_me : Kp [11, 13, 14, 15, 16, 18, 19, 20, 21, 23, 26, 29, 34, 38, 43, 56, 57, 58, 59, 62] [4, 5, 7, 10, 12, 22, 24, 25, 27, 28, 42, 48, 50, 51, 55, 61] [(0, 1), (1, 2), (29, 36), (36, 64), (64, 71)] o_me z7.2 := hkpo1.trans (hz7_2.mono (by decide) (by decide) (by decide))
      refine wp_some ?_
      exact (show IvX9 z7.2 ∧ Kp [11, 13, 14, 15, 16, 18, 19, 20, 21, 23, 26, 29, 34, 38, 43, 56, 57, 58, 59, 62] [4, 5, 7, 10, 12, 22, 24, 25, 27, 28, 42, 48, 50, 51, 55, 61] [(0, 1), (1, 2), (29, 36), (36, 64), (64, 71)] o_me z7.2 from ⟨hz7_1, hkpz7_me⟩)
    · refine wp_lt (fun o8 eo8 => ?_)
      have hIo8 : IvX9 o8 := by rw [eo8]; exact ipX9_8 hIo1 ⟨by decide, by decide⟩
      have hkpo8 : Kp [11, 13, 14, 15, 16, 18, 19, 20, 21, 23, 26, 29, 34, 38, 43, 56, 57, 58, 59, 62] [4, 5, 7, 10, 12, 22, 24, 25, 27, 28, 42, 48, 50, 51, 55, 61] [(0, 1), (1, 2), (29, 36), (36, 64), (64, 71)] o_me o8 := hkpo1.trans (by rw [eo8]; exact Kp.sI (by decide))
      have t10 : ((4 : Int32) + p0).toInt = 4 + p0.toInt := i32_add (by decide) rfl (zk_cl (Int.le_of_eq c2.symm) (by decide)) (zk_cu (Int.le_of_eq c2) (by decide))
      refine wp_bd (s_X9_change_v1   o8 ((4 : Int32) + p0) p1  hIo8  ⟨(zaqc_l (c := 4) t10 (Int.le_of_eq c2.symm) (by decide)), (Int.le_trans (zaqc_u (c := 4) t10 (Int.le_of_eq c2) (by decide)) (by decide))⟩) (fun z11 hz11 => ?_)
      obtain ⟨hz11_0, hz11_1⟩ := hz11
      have hkpz11_me : Kp [11, 13, 14, 15, 16, 18, 19, 20, 21, 23, 26, 29, 34, 38, 43, 56, 57, 58, 59, 62] [4, 5, 7, 10, 12, 22, 24, 25, 27, 28, 42, 48, 50, 51, 55, 61] [(0, 1), (1, 2), (29, 36), (36, 64), (64, 71)] o_me z11.2 := hkpo8.trans (hz11_1.mono (by decide) (by decide) (by decide))
      refine wp_some ?_
      exact (show IvX9 z11.2 ∧ Kp [11, 13, 14, 15, 16, 18, 19, 20, 21, 23, 26, 29, 34, 38, 43, 56, 57, 58, 59, 62] [4, 5, 7, 10, 12, 22, 24, 25, 27, 28, 42, 48, 50, 51, 55, 61] [(0, 1), (1, 2), (29, 36), (36, 64), (64, 71)] o_me z11.2 from ⟨hz11_0, hkpz11_me⟩)
  · refine wp_if (fun c13 => ?_) (fun c13 => ?_)
    · have c13 := cv_eq (a := p0.toInt) (b := 1) rfl (by decide) c13
      refine wp_bd (s_X9_in   p1.toInt64 (0 : Int64) (10 : Int64)    ) (fun z16 hz16 => ?_)
      unfold bk_X9_terms_60
      refine wp_if (fun c17 => ?_) (fun c17 => ?_)
      · refine wp_bd (s_X9_tell   o1 (-1 : Int32)  hIo1  ⟨by decide, by decide⟩) (fun z18 hz18 => ?_)
        obtain ⟨hz18_0, hz18_1, hz18_2⟩ := hz18
        have hkpz18_me : Kp [11, 13, 14, 15, 16, 18, 19, 20, 21, 23, 26, 29, 34, 38, 43, 56, 57, 58, 59, 62] [4, 5, 7, 10, 12, 22, 24, 25, 27, 28, 42, 48, 50, 51, 55, 61] [(0, 1), (1, 2), (29, 36), (36, 64), (64, 71)] o_me z18.2 := hkpo1.trans (hz18_2.mono (by decide) (by decide) (by decide))
        refine wp_some ?_
        exact (show IvX9 z18.2 ∧ Kp [11, 13, 14, 15, 16, 18, 19, 20, 21, 23, 26, 29, 34, 38, 43, 56, 57, 58, 59, 62] [4, 5, 7, 10, 12, 22, 24, 25, 27, 28, 42, 48, 50, 51, 55, 61] [(0, 1), (1, 2), (29, 36), (36, 64), (64, 71)] o_me z18.2 from ⟨hz18_1, hkpz18_me⟩)
      · refine wp_lt (fun o19 eo19 => ?_)
        have hIo19 : IvX9 o19 := by rw [eo19]; exact ipX9_8 hIo1 ⟨by decide, by decide⟩
        have hkpo19 : Kp [11, 13, 14, 15, 16, 18, 19, 20, 21, 23, 26, 29, 34, 38, 43, 56, 57, 58, 59, 62] [4, 5, 7, 10, 12, 22, 24, 25, 27, 28, 42, 48, 50, 51, 55, 61] [(0, 1), (1, 2), (29, 36), (36, 64), (64, 71)] o_me o19 := hkpo1.trans (by rw [eo19]; exact Kp.sI (by decide))
        have t21 : ((4 : Int32) + p0).toInt = 4 + p0.toInt := i32_add (by decide) rfl (zk_cl (Int.le_of_eq c13.symm) (by decide)) (zk_cu (Int.le_of_eq c13) (by decide))
        refine wp_bd (s_X9_change_v1   o19 ((4 : Int32) + p0) p1  hIo19  ⟨(Int.le_trans (by decide) (zaqc_l (c := 5) t21 (Int.le_of_eq c13.symm) (by decide))), (Int.le_trans (zaqc_u (c := 5) t21 (Int.le_of_eq c13) (by decide)) (by decide))⟩) (fun z22 hz22 => ?_)
        obtain ⟨hz22_0, hz22_1⟩ := hz22
        have hkpz22_me : Kp [11, 13, 14, 15, 16, 18, 19, 20, 21, 23, 26, 29, 34, 38, 43, 56, 57, 58, 59, 62] [4, 5, 7, 10, 12, 22, 24, 25, 27, 28, 42, 48, 50, 51, 55, 61] [(0, 1), (1, 2), (29, 36), (36, 64), (64, 71)] o_me z22.2 := hkpo19.trans (hz22_1.mono (by decide) (by decide) (by decide))
        refine wp_some ?_
        exact (show IvX9 z22.2 ∧ Kp [11, 13, 14, 15, 16, 18, 19, 20, 21, 23, 26, 29, 34, 38, 43, 56, 57, 58, 59, 62] [4, 5, 7, 10, 12, 22, 24, 25, 27, 28, 42, 48, 50, 51, 55, 61] [(0, 1), (1, 2), (29, 36), (36, 64), (64, 71)] o_me z22.2 from ⟨hz22_0, hkpz22_me⟩)
    · refine wp_if (fun c24 => ?_) (fun c24 => ?_)
      · have c24 := cv_eq (a := p0.toInt) (b := 2) rfl (by decide) c24
        refine wp_bd (s_X9_in   p1.toInt64 (0 : Int64) (9 : Int64)    ) (fun z27 hz27 => ?_)
        refine wp_if (fun c28 => ?_) (fun c28 => ?_)
        · unfold bk_X9_terms_59
          obtain ⟨w29, ew29⟩ : ∃ z : Int32, z = (0 : Int32) := ⟨_, rfl⟩
          have tw29 : w29.toInt = 0 := by rw [ew29]; decide
          rw [show bk_X9_terms_60   p0 p1 (0 : Int32) o1 = bk_X9_terms_60   p0 p1 w29 o1 from by rw [ew29]]
          unfold bk_X9_terms_60
          refine wp_if (fun c30 => ?_) (fun c30 => ?_)
          · have c30 := cv_eq (a := w29.toInt) (b := 0) rfl (by decide) c30
            refine wp_bd (s_X9_tell   o1 (-1 : Int32)  hIo1  ⟨by decide, by decide⟩) (fun z31 hz31 => ?_)
            obtain ⟨hz31_0, hz31_1, hz31_2⟩ := hz31
            have hkpz31_me : Kp [11, 13, 14, 15, 16, 18, 19, 20, 21, 23, 26, 29, 34, 38, 43, 56, 57, 58, 59, 62] [4, 5, 7, 10, 12, 22, 24, 25, 27, 28, 42, 48, 50, 51, 55, 61] [(0, 1), (1, 2), (29, 36), (36, 64), (64, 71)] o_me z31.2 := hkpo1.trans (hz31_2.mono (by decide) (by decide) (by decide))
            refine wp_some ?_
            exact (show IvX9 z31.2 ∧ Kp [11, 13, 14, 15, 16, 18, 19, 20, 21, 23, 26, 29, 34, 38, 43, 56, 57, 58, 59, 62] [4, 5, 7, 10, 12, 22, 24, 25, 27, 28, 42, 48, 50, 51, 55, 61] [(0, 1), (1, 2), (29, 36), (36, 64), (64, 71)] o_me z31.2 from ⟨hz31_1, hkpz31_me⟩)
          · have c30 := cv_ne (a := w29.toInt) (b := 0) rfl (by decide) c30
            exact absurd (Int.le_antisymm (Int.le_of_eq tw29) (Int.le_of_eq tw29.symm)) c30
        · obtain ⟨w32, ew32⟩ : ∃ z : Int32, z = (1 : Int32) := ⟨_, rfl⟩
          have tw32 : w32.toInt = 1 := by rw [ew32]; decide
          rw [show bk_X9_terms_60   p0 p1 (1 : Int32) o1 = bk_X9_terms_60   p0 p1 w32 o1 from by rw [ew32]]
          unfold bk_X9_terms_60
          refine wp_if (fun c33 => ?_) (fun c33 => ?_)
          · have c33 := cv_eq (a := w32.toInt) (b := 0) rfl (by decide) c33
            exact absurd c33 (zne_r (k := 0) (l := 1) (by decide) (Int.le_of_eq tw32.symm) (by decide))
          · refine wp_lt (fun o34 eo34 => ?_)
            have hIo34 : IvX9 o34 := by rw [eo34]; exact ipX9_8 hIo1 ⟨by decide, by decide⟩
            have hkpo34 : Kp [11, 13, 14, 15, 16, 18, 19, 20, 21, 23, 26, 29, 34, 38, 43, 56, 57, 58, 59, 62] [4, 5, 7, 10, 12, 22, 24, 25, 27, 28, 42, 48, 50, 51, 55, 61] [(0, 1), (1, 2), (29, 36), (36, 64), (64, 71)] o_me o34 := hkpo1.trans (by rw [eo34]; exact Kp.sI (by decide))
            have t36 : ((4 : Int32) + p0).toInt = 4 + p0.toInt := i32_add (by decide) rfl (zk_cl (Int.le_of_eq c24.symm) (by decide)) (zk_cu (Int.le_of_eq c24) (by decide))
            refine wp_bd (s_X9_change_v1   o34 ((4 : Int32) + p0) p1  hIo34  ⟨(Int.le_trans (by decide) (zaqc_l (c := 6) t36 (Int.le_of_eq c24.symm) (by decide))), (zaqc_u (c := 6) t36 (Int.le_of_eq c24) (by decide))⟩) (fun z37 hz37 => ?_)
            obtain ⟨hz37_0, hz37_1⟩ := hz37
            have hkpz37_me : Kp [11, 13, 14, 15, 16, 18, 19, 20, 21, 23, 26, 29, 34, 38, 43, 56, 57, 58, 59, 62] [4, 5, 7, 10, 12, 22, 24, 25, 27, 28, 42, 48, 50, 51, 55, 61] [(0, 1), (1, 2), (29, 36), (36, 64), (64, 71)] o_me z37.2 := hkpo34.trans (hz37_1.mono (by decide) (by decide) (by decide))
            refine wp_some ?_
            exact (show IvX9 z37.2 ∧ Kp [11, 13, 14, 15, 16, 18, 19, 20, 21, 23, 26, 29, 34, 38, 43, 56, 57, 58, 59, 62] [4, 5, 7, 10, 12, 22, 24, 25, 27, 28, 42, 48, 50, 51, 55, 61] [(0, 1), (1, 2), (29, 36), (36, 64), (64, 71)] o_me z37.2 from ⟨hz37_0, hkpz37_me⟩)
      · unfold bk_X9_terms_59
        obtain ⟨w39, ew39⟩ : ∃ z : Int32, z = (0 : Int32) := ⟨_, rfl⟩
        have tw39 : w39.toInt = 0 := by rw [ew39]; decide
        rw [show bk_X9_terms_60   p0 p1 (0 : Int32) o1 = bk_X9_terms_60   p0 p1 w39 o1 from by rw [ew39]]
        unfold bk_X9_terms_60
        refine wp_if (fun c40 => ?_) (fun c40 => ?_)
        · have c40 := cv_eq (a := w39.toInt) (b := 0) rfl (by decide) c40
          refine wp_bd (s_X9_tell   o1 (-1 : Int32)  hIo1  ⟨by decide, by decide⟩) (fun z41 hz41 => ?_)
          obtain ⟨hz41_0, hz41_1, hz41_2⟩ := hz41
          have hkpz41_me : Kp [11, 13, 14, 15, 16, 18, 19, 20, 21, 23, 26, 29, 34, 38, 43, 56, 57, 58, 59, 62] [4, 5, 7, 10, 12, 22, 24, 25, 27, 28, 42, 48, 50, 51, 55, 61] [(0, 1), (1, 2), (29, 36), (36, 64), (64, 71)] o_me z41.2 := hkpo1.trans (hz41_2.mono (by decide) (by decide) (by decide))
          refine wp_some ?_
          exact (show IvX9 z41.2 ∧ Kp [11, 13, 14, 15, 16, 18, 19, 20, 21, 23, 26, 29, 34, 38, 43, 56, 57, 58, 59, 62] [4, 5, 7, 10, 12, 22, 24, 25, 27, 28, 42, 48, 50, 51, 55, 61] [(0, 1), (1, 2), (29, 36), (36, 64), (64, 71)] o_me z41.2 from ⟨hz41_1, hkpz41_me⟩)
        · have c40 := cv_ne (a := w39.toInt) (b := 0) rfl (by decide) c40
          exact absurd (Int.le_antisymm (Int.le_of_eq tw39) (Int.le_of_eq tw39.symm)) c40

set_option maxHeartbeats 4000000 in
set_option maxRecDepth 100000 in
theorem s_X9_undo (o_me : Ob) (hI_me : IvX9 o_me)  : wp (f_X9_undo   o_me) (fun (y : Int32 × Ob) => ((-6) ≤ y.1.toInt ∧ y.1.toInt ≤ 2147483647) ∧ IvX9 y.2 ∧ Kp [11, 13, 14, 15, 16, 18, 19, 20, 21, 23, 26, 29, 34, 38, 43, 56, 57, 58, 59, 62] [4, 5, 7, 10, 12, 22, 24, 25, 27, 28, 42, 48, 50, 51, 55, 61] [(0, 1), (1, 2), (29, 36), (36, 64), (64, 71)] o_me y.2) := by
  unfold f_X9_undo
  refine wp_lt (fun o1 eo1 => ?_)
  have hIo1 : IvX9 o1 := by rw [eo1]; exact hI_me
  have hkpo1 : Kp [11, 13, 14, 15, 16, 18, 19, 20, 21, 23, 26, 29, 34, 38, 43, 56, 57, 58, 59, 62] [4, 5, 7, 10, 12, 22, 24, 25, 27, 28, 42, 48, 50, 51, 55, 61] [(0, 1), (1, 2), (29, 36), (36, 64), (64, 71)] o_me o1 := Kp.rf.trans (by rw [eo1]; exact Kp.sI (by decide))
  have t2 := igX9_8 hIo1
  refine wp_if (fun c3 => ?_) (fun c3 => ?_)
  · have c3 := cv_eq (a := (gI o1 8).toInt) (b := 0) rfl (by decide) c3
    refine wp_bd (s_X9_tell   o1 (-3 : Int32)  hIo1  ⟨by decide, by decide⟩) (fun z4 hz4 => ?_)
    obtain ⟨hz4_0, hz4_1, hz4_2⟩ := hz4
    have hkpz4_me : Kp [11, 13, 14, 15, 16, 18, 19, 20, 21, 23, 26, 29, 34, 38, 43, 56, 57, 58, 59, 62] [4, 5, 7, 10, 12, 22, 24, 25, 27, 28, 42, 48, 50, 51, 55, 61] [(0, 1), (1, 2), (29, 36), (36, 64), (64, 71)] o_me z4.2 := hkpo1.trans (hz4_2.mono (by decide) (by decide) (by decide))
    refine wp_some ?_
    exact (show ((-6) ≤ z4.1.toInt ∧ z4.1.toInt ≤ 2147483647) ∧ IvX9 z4.2 ∧ Kp [11, 13, 14, 15, 16, 18, 19, 20, 21, 23, 26, 29, 34, 38, 43, 56, 57, 58, 59, 62] [4, 5, 7, 10, 12, 22, 24, 25, 27, 28, 42, 48, 50, 51, 55, 61] [(0, 1), (1, 2), (29, 36), (36, 64), (64, 71)] o_me z4.2 from ⟨⟨hz4_0.1, hz4_0.2⟩, hz4_1, hkpz4_me⟩)
  · have c3 := cv_ne (a := (gI o1 8).toInt) (b := 0) rfl (by decide) c3
    have t7 : ((gI o1 8) - (1 : Int32)).toInt = (gI o1 8).toInt - 1 := i32_sub rfl (by decide) (zs_l t2.1 (by decide)) (zs_u t2.2 (by decide))
    refine wp_lt (fun o8 eo8 => ?_)
    have hIo8 : IvX9 o8 := by rw [eo8]; exact ipX9_8 hIo1 ⟨(zl_e (zq_t (c := 1) t7 (by decide)) (zn_l (c := 1) t2.1 c3 (by decide)) (by decide)), (zu_e (zq_s (c := (-1)) t7 (by decide)) t2.2 (by decide))⟩
    have ko8_v : (gI o8 8).toInt = ((gI o1 8) - (1 : Int32)).toInt := by rw [eo8]; rfl
    have hkpo8 : Kp [11, 13, 14, 15, 16, 18, 19, 20, 21, 23, 26, 29, 34, 38, 43, 56, 57, 58, 59, 62] [4, 5, 7, 10, 12, 22, 24, 25, 27, 28, 42, 48, 50, 51, 55, 61] [(0, 1), (1, 2), (29, 36), (36, 64), (64, 71)] o_me o8 := hkpo1.trans (by rw [eo8]; exact Kp.sI (by decide))
    refine wp_bd (s_X9_putBack   o8 (gI o8 8)  hIo8  ⟨(zl_e (zd_e (c := 1) (zq_t (c := 1) t7 (by decide)) (zq_0 ko8_v.symm) (by decide)) (zn_l (c := 1) t2.1 c3 (by decide)) (by decide)), (zu_e (zd_e (c := (-1)) (zq_0 ko8_v) (zq_s (c := (-1)) t7 (by decide)) (by decide)) t2.2 (by decide))⟩) (fun z10 hz10 => ?_)
    obtain ⟨hz10_0, hz10_1⟩ := hz10
    have hkpz10_me : Kp [11, 13, 14, 15, 16, 18, 19, 20, 21, 23, 26, 29, 34, 38, 43, 56, 57, 58, 59, 62] [4, 5, 7, 10, 12, 22, 24, 25, 27, 28, 42, 48, 50, 51, 55, 61] [(0, 1), (1, 2), (29, 36), (36, 64), (64, 71)] o_me z10 := hkpo8.trans (hz10_1.mono (by decide) (by decide) (by decide))
    have kz10_k11 : (gI z10 8).toInt = (gI o8 8).toInt := congrArg Int32.toInt (hz10_1.1 8 (by decide))
    refine wp_gd (zin_of (m := 16) rfl (zl_e (zd_e (c := 1) (zq_t (c := 1) t7 (by decide)) (zd_e (c := 0) (zq_0 ko8_v.symm) (zq_0 kz10_k11.symm) (by decide)) (by decide)) (zn_l (c := 1) t2.1 c3 (by decide)) (by decide)) (zlt_m (c := 15) (zu_e (zd_e (c := (-1)) (zd_e (c := 0) (zq_0 kz10_k11) (zq_0 ko8_v) (by decide)) (zq_s (c := (-1)) t7 (by decide)) (by decide)) t2.2 (by decide)) (by decide))) ?_
    have t12 := iaX9_7_0 hz10_0 (j := gI z10 8) (zl_e (zd_e (c := 1) (zq_t (c := 1) t7 (by decide)) (zd_e (c := 0) (zq_0 ko8_v.symm) (zq_0 kz10_k11.symm) (by decide)) (by decide)) (zn_l (c := 1) t2.1 c3 (by decide)) (by decide)) (zu_e (zd_e (c := (-1)) (zd_e (c := 0) (zq_0 kz10_k11) (zq_0 ko8_v) (by decide)) (zq_s (c := (-1)) t7 (by decide)) (by decide)) t2.2 (by decide))
    refine wp_bd (s_X9_tell   z10 (gA z10 7 (gI z10 8).toNatClampNeg)  hz10_0  ⟨(Int.le_trans (by decide) t12.1), (Int.le_trans t12.2 (by decide))⟩) (fun z13 hz13 => ?_)
    obtain ⟨hz13_0, hz13_1, hz13_2⟩ := hz13
    have hkpz13_me : Kp [11, 13, 14, 15, 16, 18, 19, 20, 21, 23, 26, 29, 34, 38, 43, 56, 57, 58, 59, 62] [4, 5, 7, 10, 12, 22, 24, 25, 27, 28, 42, 48, 50, 51, 55, 61] [(0, 1), (1, 2), (29, 36), (36, 64), (64, 71)] o_me z13.2 := hkpz10_me.trans (hz13_2.mono (by decide) (by decide) (by decide))
    refine wp_some ?_
    exact (show ((-6) ≤ z13.1.toInt ∧ z13.1.toInt ≤ 2147483647) ∧ IvX9 z13.2 ∧ Kp [11, 13, 14, 15, 16, 18, 19, 20, 21, 23, 26, 29, 34, 38, 43, 56, 57, 58, 59, 62] [4, 5, 7, 10, 12, 22, 24, 25, 27, 28, 42, 48, 50, 51, 55, 61] [(0, 1), (1, 2), (29, 36), (36, 64), (64, 71)] o_me z13.2 from ⟨⟨hz13_0.1, hz13_0.2⟩, hz13_1, hkpz13_me⟩)

set_option maxHeartbeats 4000000 in
set_option maxRecDepth 100000 in
theorem s_X2_isPerson {pl : List CR} (o_me : Ob) (p0 : Int32) (hI_me : IvX2 pl o_me)  : wp (f_X2_isPerson   o_me p0) (fun (y : Int32) => (0 ≤ y.toInt ∧ y.toInt ≤ 1) ∧ (¬ y = 0 → (0 ≤ p0.toInt ∧ p0.toInt ≤ 6) ∧ (p0.toInt ≤ (gI o_me 7).toInt + (-1)))) := by
  have li0 : (0 : Int32).toInt = 0 := by decide
  have li1 : (1 : Int32).toInt = 1 := by decide
  unfold f_X2_isPerson
  refine wp_if (fun c1 => ?_) (fun c1 => ?_)
  · have c1 := cv_lt (a := p0.toInt) (b := 0) rfl (by decide) c1
    refine wp_some ?_
    exact (show (0 ≤ (0 : Int32).toInt ∧ (0 : Int32).toInt ≤ 1) ∧ (¬ (0 : Int32) = 0 → (0 ≤ p0.toInt ∧ p0.toInt ≤ 6) ∧ (p0.toInt ≤ (gI o_me 7).toInt + (-1))) from ⟨⟨by decide, by decide⟩, (fun h9 => absurd rfl h9)⟩)
  · have c1 := cv_nlt (a := p0.toInt) (b := 0) rfl (by decide) c1
    have t2 := igX2_7 hI_me
    have rg4 := i32_rg p0
    refine wp_if (fun c3 => ?_) (fun c3 => ?_)
    · have c3 := cv_ge (a := p0.toInt) (b := (gI o_me 7).toInt) rfl rfl c3
      refine wp_some ?_
      exact (show (0 ≤ (0 : Int32).toInt ∧ (0 : Int32).toInt ≤ 1) ∧ (¬ (0 : Int32) = 0 → (0 ≤ p0.toInt ∧ p0.toInt ≤ 6) ∧ (p0.toInt ≤ (gI o_me 7).toInt + (-1))) from ⟨⟨by decide, by decide⟩, (fun h9 => absurd rfl h9)⟩)
    · have c3 := cv_nge (a := p0.toInt) (b := (gI o_me 7).toInt) rfl rfl c3
      refine wp_some ?_
      exact (show (0 ≤ (1 : Int32).toInt ∧ (1 : Int32).toInt ≤ 1) ∧ (¬ (1 : Int32) = 0 → (0 ≤ p0.toInt ∧ p0.toInt ≤ 6) ∧ (p0.toInt ≤ (gI o_me 7).toInt + (-1))) from ⟨⟨by decide, by decide⟩, (fun h9 => ⟨⟨by omega, by omega⟩, by omega⟩)⟩)

set_option maxHeartbeats 4000000 in
set_option maxRecDepth 100000 in
theorem s_X8_isRace (p0 : Int32)   : wp (f_X8_isRace   p0) (fun (y : Int32) => (0 ≤ y.toInt ∧ y.toInt ≤ 1) ∧ (¬ y = 0 → (0 ≤ p0.toInt ∧ p0.toInt ≤ 3))) := by
  have li0 : (0 : Int32).toInt = 0 := by decide
  have li1 : (1 : Int32).toInt = 1 := by decide
  have li2 : (4 : Int32).toInt = 4 := by decide
  unfold f_X8_isRace
  refine wp_if (fun c1 => ?_) (fun c1 => ?_)
  · have c1 := cv_lt (a := p0.toInt) (b := 0) rfl (by decide) c1
    refine wp_some ?_
    exact (show (0 ≤ (0 : Int32).toInt ∧ (0 : Int32).toInt ≤ 1) ∧ (¬ (0 : Int32) = 0 → (0 ≤ p0.toInt ∧ p0.toInt ≤ 3)) from ⟨⟨by decide, by decide⟩, (fun h9 => absurd rfl h9)⟩)
  · have c1 := cv_nlt (a := p0.toInt) (b := 0) rfl (by decide) c1
    refine wp_if (fun c2 => ?_) (fun c2 => ?_)
    · have c2 := cv_ge (a := p0.toInt) (b := 4) rfl (by decide) c2
      refine wp_some ?_
      exact (show (0 ≤ (0 : Int32).toInt ∧ (0 : Int32).toInt ≤ 1) ∧ (¬ (0 : Int32) = 0 → (0 ≤ p0.toInt ∧ p0.toInt ≤ 3)) from ⟨⟨by decide, by decide⟩, (fun h9 => absurd rfl h9)⟩)
    · have c2 := cv_nge (a := p0.toInt) (b := 4) rfl (by decide) c2
      refine wp_some ?_
      exact (show (0 ≤ (1 : Int32).toInt ∧ (1 : Int32).toInt ≤ 1) ∧ (¬ (1 : Int32) = 0 → (0 ≤ p0.toInt ∧ p0.toInt ≤ 3)) from ⟨⟨by decide, by decide⟩, (fun h9 => ⟨by omega, by omega⟩)⟩)

set_option maxHeartbeats 4000000 in
set_option maxRecDepth 100000 in
theorem s_X2_isLaw {pl : List CR} (o_me : Ob) (p0 : Int32) (hI_me : IvX2 pl o_me)  : wp (f_X2_isLaw   o_me p0) (fun (y : Int32) => (0 ≤ y.toInt ∧ y.toInt ≤ 1) ∧ (¬ y = 0 → (0 ≤ p0.toInt ∧ p0.toInt ≤ 5) ∧ (p0.toInt ≤ (gI o_me 9).toInt + (-1)))) := by
  have li0 : (0 : Int32).toInt = 0 := by decide
  have li1 : (1 : Int32).toInt = 1 := by decide
  unfold f_X2_isLaw
  refine wp_if (fun c1 => ?_) (fun c1 => ?_)
  · have c1 := cv_lt (a := p0.toInt) (b := 0) rfl (by decide) c1
    refine wp_some ?_
    exact (show (0 ≤ (0 : Int32).toInt ∧ (0 : Int32).toInt ≤ 1) ∧ (¬ (0 : Int32) = 0 → (0 ≤ p0.toInt ∧ p0.toInt ≤ 5) ∧ (p0.toInt ≤ (gI o_me 9).toInt + (-1))) from ⟨⟨by decide, by decide⟩, (fun h9 => absurd rfl h9)⟩)
  · have c1 := cv_nlt (a := p0.toInt) (b := 0) rfl (by decide) c1
    have t2 := igX2_9 hI_me
    have rg4 := i32_rg p0
    refine wp_if (fun c3 => ?_) (fun c3 => ?_)
    · have c3 := cv_ge (a := p0.toInt) (b := (gI o_me 9).toInt) rfl rfl c3
      refine wp_some ?_
      exact (show (0 ≤ (0 : Int32).toInt ∧ (0 : Int32).toInt ≤ 1) ∧ (¬ (0 : Int32) = 0 → (0 ≤ p0.toInt ∧ p0.toInt ≤ 5) ∧ (p0.toInt ≤ (gI o_me 9).toInt + (-1))) from ⟨⟨by decide, by decide⟩, (fun h9 => absurd rfl h9)⟩)
    · have c3 := cv_nge (a := p0.toInt) (b := (gI o_me 9).toInt) rfl rfl c3
      refine wp_some ?_
      exact (show (0 ≤ (1 : Int32).toInt ∧ (1 : Int32).toInt ≤ 1) ∧ (¬ (1 : Int32) = 0 → (0 ≤ p0.toInt ∧ p0.toInt ≤ 5) ∧ (p0.toInt ≤ (gI o_me 9).toInt + (-1))) from ⟨⟨by decide, by decide⟩, (fun h9 => ⟨⟨by omega, by omega⟩, by omega⟩)⟩)

set_option maxHeartbeats 4000000 in
set_option maxRecDepth 100000 in
theorem s_X2_lawAt {pl : List CR} (o_me : Ob) (p0 : Int32) (hI_me : IvX2 pl o_me)  : wp (f_X2_lawAt   o_me p0) (fun (y : Option Nat) => zpo pl y = true) := by
  unfold f_X2_lawAt
  refine wp_bd (s_X2_isLaw   o_me p0  hI_me  ) (fun z1 hz1 => ?_)
  obtain ⟨hz1_0, hz1_1⟩ := hz1
  refine wp_if (fun c2 => ?_) (fun c2 => ?_)
  · have c2 := cv_eq (a := z1.toInt) (b := 0) rfl (by decide) c2
    refine wp_some ?_
    exact (show zpo pl none = true from rfl)
  · have c2i := hz1_1 c2
    refine wp_gd (zin_of (m := 6) rfl c2i.1.1 (zlt_m (c := 5) c2i.1.2 (by decide))) ?_
    have po3 := irX2 hI_me (j := p0) c2i.1.1 c2i.1.2
    refine wp_some ?_
    exact (show zpo pl (gR o_me 6 p0.toNatClampNeg) = true from po3)

set_option maxHeartbeats 4000000 in
set_option maxRecDepth 100000 in
theorem s_X2_lawInForce {pl : List CR} (o_me : Ob) (hI_me : IvX2 pl o_me)  : wp (f_X2_lawInForce   o_me) (fun (y : Option Nat) => zpo pl y = true) := by
  unfold f_X2_lawInForce
  refine wp_bd (s_X2_lawAt   o_me (gI o_me 10)  hI_me  ) (fun z2 hz2 => ?_)
  have hz2_0 := hz2
  refine wp_some ?_
  exact (show zpo pl z2 = true from hz2_0)

set_option maxHeartbeats 4000000 in
set_option maxRecDepth 100000 in
theorem s_X1_told_N (o_me : Ob) (p1 : Int32) (p2 : Int32) (p3 : Int32) (p4 : Int32) (hI_me : IvX1 o_me)  : wp (f_X1_told_N   o_me p1 p2 p3 p4) (fun (y : Int64) => ((-9000000000000000000) ≤ y.toInt ∧ y.toInt ≤ (-9000000000000000000))) := by
  unfold f_X1_told_N
  refine wp_some ?_
  exact (show ((-9000000000000000000) ≤ (-9000000000000000000 : Int64).toInt ∧ (-9000000000000000000 : Int64).toInt ≤ (-9000000000000000000)) from ⟨by decide, by decide⟩)

set_option maxHeartbeats 4000000 in
set_option maxRecDepth 100000 in
theorem s_X3_setLawWords_O {pl : List CR} (o_me : Ob) (o_a0 : Ob) (o_a0_now : Ob) (p1 : Int32) (p2 : Int32) (p3 : Int32) (hI_me : IvX3 o_me) (hI_a0 : IvX2 pl o_a0) (hI_a0_now : IvX4 o_a0_now) (q0 : 0 ≤ p1.toInt ∧ p1.toInt ≤ 6) (q1 : 0 ≤ p2.toInt ∧ p2.toInt ≤ 3) : wp (f_X3_setLawWords_O   o_me o_a0 o_a0_now p1 p2 p3) (fun (y : Ob) => IvX3 y ∧ Kp [] [] [] o_me y) := by
  unfold f_X3_setLawWords_O
  refine wp_lt (fun o1 eo1 => ?_)
  have hIo1 : IvX3 o1 := by rw [eo1]; exact hI_me
  have hkpo1 : Kp [] [] [] o_me o1 := Kp.rf.trans (by rw [eo1]; exact Kp.tA (by decide) (by decide))
  refine wp_lt (fun o2 eo2 => ?_)
  have hIo2 : IvX3 o2 := by rw [eo2]; exact hIo1
  have hkpo2 : Kp [] [] [] o_me o2 := hkpo1.trans (by rw [eo2]; exact Kp.tA (by decide) (by decide))
  have t4 : (p1 * (4 : Int32)).toInt = p1.toInt * 4 := i32_mul rfl (by decide) (zr_l q0.1 (by decide) (by decide)) (zr_u q0.2 (by decide) (by decide))
  have t5 : ((p1 * (4 : Int32)) + p2).toInt = (p1 * (4 : Int32)).toInt + p2.toInt := i32_add rfl rfl (zk_ll (zrq_l (c := 0) t4 q0.1 (by decide) (by decide)) q1.1 (by decide)) (zk_uu (zrq_u (c := 24) t4 q0.2 (by decide) (by decide)) q1.2 (by decide))
  refine wp_gd (zin_of (m := 28) rfl (zaq_l (c := 0) t5 (zrq_l (c := 0) t4 q0.1 (by decide) (by decide)) q1.1 (by decide)) (zlt_m (c := 27) (zaq_u (c := 27) t5 (zrq_u (c := 24) t4 q0.2 (by decide) (by decide)) q1.2 (by decide)) (by decide))) ?_
  refine wp_lt (fun o6 eo6 => ?_)
  have hIo6 : IvX3 o6 := by rw [eo6]; exact hIo2
  have hkpo6 : Kp [] [] [] o_me o6 := hkpo2.trans (by rw [eo6]; exact Kp.tA (by decide) (by decide))
  refine wp_gd (zin_of (m := 7) rfl q0.1 (zlt_m (c := 6) q0.2 (by decide))) ?_
  refine wp_lt (fun o10 eo10 => ?_)
  have hIo10 : IvX3 o10 := by rw [eo10]; exact hIo6
  have hkpo10 : Kp [] [] [] o_me o10 := hkpo6.trans (by rw [eo10]; exact Kp.tA (by decide) (by decide))
  refine wp_gd (zin_of (m := 7) rfl q0.1 (zlt_m (c := 6) q0.2 (by decide))) ?_
  refine wp_lt (fun o14 eo14 => ?_)
  have hIo14 : IvX3 o14 := by rw [eo14]; exact hIo10
  have hkpo14 : Kp [] [] [] o_me o14 := hkpo10.trans (by rw [eo14]; exact Kp.tA (by decide) (by decide))
  refine wp_lt (fun o19 eo19 => ?_)
  have hIo19 : IvX3 o19 := by rw [eo19]; exact hIo14
  have hkpo19 : Kp [] [] [] o_me o19 := hkpo14.trans (by rw [eo19]; exact Kp.tA (by decide) (by decide))
  refine wp_lt (fun o25 eo25 => ?_)
  have hIo25 : IvX3 o25 := by rw [eo25]; exact hIo19
  have hkpo25 : Kp [] [] [] o_me o25 := hkpo19.trans (by rw [eo25]; exact Kp.tA (by decide) (by decide))
  refine wp_lt (fun o32 eo32 => ?_)
  have hIo32 : IvX3 o32 := by rw [eo32]; exact hIo25
  have hkpo32 : Kp [] [] [] o_me o32 := hkpo25.trans (by rw [eo32]; exact Kp.tA (by decide) (by decide))
  refine wp_lt (fun o40 eo40 => ?_)
  have hIo40 : IvX3 o40 := by rw [eo40]; exact hIo32
  have hkpo40 : Kp [] [] [] o_me o40 := hkpo32.trans (by rw [eo40]; exact Kp.tA (by decide) (by decide))
  refine wp_some ?_
  exact (show IvX3 o40 ∧ Kp [] [] [] o_me o40 from ⟨hIo40, hkpo40⟩)

set_option maxHeartbeats 4000000 in
set_option maxRecDepth 100000 in
theorem s_X3_wordWorth (o_me : Ob) (p0 : Int32) (hI_me : IvX3 o_me)  : wp (f_X3_wordWorth   o_me p0) (fun (y : Int64) => ((-9000000000000000000) ≤ y.toInt ∧ y.toInt ≤ 2147483647)) := by
  unfold f_X3_wordWorth
  refine wp_if (fun c1 => ?_) (fun c1 => ?_)
  · have c1 := cv_lt (a := p0.toInt) (b := 0) rfl (by decide) c1
    refine wp_some ?_
    exact (show ((-9000000000000000000) ≤ (-9000000000000000000 : Int64).toInt ∧ (-9000000000000000000 : Int64).toInt ≤ 2147483647) from ⟨by decide, by decide⟩)
  · have c1 := cv_nlt (a := p0.toInt) (b := 0) rfl (by decide) c1
    refine wp_if (fun c2 => ?_) (fun c2 => ?_)
    · have c2 := cv_ge (a := p0.toInt) (b := 19) rfl (by decide) c2
      refine wp_some ?_
      exact (show ((-9000000000000000000) ≤ (-9000000000000000000 : Int64).toInt ∧ (-9000000000000000000 : Int64).toInt ≤ 2147483647) from ⟨by decide, by decide⟩)
    · have c2 := cv_nge (a := p0.toInt) (b := 19) rfl (by decide) c2
      refine wp_gd (zin_of (m := 19) rfl c1 (zlt_m (c := 18) (zlt_u (c := 18) c2 (by decide)) (by decide))) ?_
      have rg3 := i32_rg (gA o_me 0 p0.toNatClampNeg)
      have t4 : ((gA o_me 0 p0.toNatClampNeg).toInt64).toInt = (gA o_me 0 p0.toNatClampNeg).toInt := Int32.toInt_toInt64 _
      refine wp_some ?_
      exact (show ((-9000000000000000000) ≤ ((gA o_me 0 p0.toNatClampNeg).toInt64).toInt ∧ ((gA o_me 0 p0.toNatClampNeg).toInt64).toInt ≤ 2147483647) from ⟨(zl_e (zq_0 t4.symm) rg3.1 (by decide)), (zu_e (zq_0 t4) rg3.2 (by decide))⟩)

set_option maxHeartbeats 4000000 in
set_option maxRecDepth 100000 in
theorem s_X3_joined (p0 : Int32) (p1 : Int64) (p2 : Int64)   : wp (f_X3_joined   p0 p1 p2) (fun (y : Int64) => ((-9000000000000000000) ≤ y.toInt ∧ y.toInt ≤ 1000000000)) := by
  unfold f_X3_joined
  refine wp_if (fun c1 => ?_) (fun c1 => ?_)
  · refine wp_lt (fun x2 ex2 => ?_)
    unfold bk_X3_joined_164
    refine wp_if (fun c3 => ?_) (fun c3 => ?_)
    · have c3 := cvl_gt (a := x2.toInt) (b := 1000000000) rfl (by decide) c3
      unfold bk_X3_joined_182
      refine wp_some ?_
      exact (show ((-9000000000000000000) ≤ (-9000000000000000000 : Int64).toInt ∧ (-9000000000000000000 : Int64).toInt ≤ 1000000000) from ⟨by decide, by decide⟩)
    · have c3 := cvl_ngt (a := x2.toInt) (b := 1000000000) rfl (by decide) c3
      refine wp_if (fun c4 => ?_) (fun c4 => ?_)
      · have c4 := cvl_ge (a := x2.toInt) (b := (-1000000000)) rfl (by decide) c4
        refine wp_some ?_
        exact (show ((-9000000000000000000) ≤ x2.toInt ∧ x2.toInt ≤ 1000000000) from ⟨(Int.le_trans (by decide) c4), c3⟩)
      · unfold bk_X3_joined_182
        refine wp_some ?_
        exact (show ((-9000000000000000000) ≤ (-9000000000000000000 : Int64).toInt ∧ (-9000000000000000000 : Int64).toInt ≤ 1000000000) from ⟨by decide, by decide⟩)
  refine wp_if (fun c5 => ?_) (fun c5 => ?_)
  · refine wp_lt (fun x6 ex6 => ?_)
    unfold bk_X3_joined_164
    refine wp_if (fun c7 => ?_) (fun c7 => ?_)
    · have c7 := cvl_gt (a := x6.toInt) (b := 1000000000) rfl (by decide) c7
      unfold bk_X3_joined_182
      refine wp_some ?_
      exact (show ((-9000000000000000000) ≤ (-9000000000000000000 : Int64).toInt ∧ (-9000000000000000000 : Int64).toInt ≤ 1000000000) from ⟨by decide, by decide⟩)
    · have c7 := cvl_ngt (a := x6.toInt) (b := 1000000000) rfl (by decide) c7
      refine wp_if (fun c8 => ?_) (fun c8 => ?_)
      · have c8 := cvl_ge (a := x6.toInt) (b := (-1000000000)) rfl (by decide) c8
        refine wp_some ?_
        exact (show ((-9000000000000000000) ≤ x6.toInt ∧ x6.toInt ≤ 1000000000) from ⟨(Int.le_trans (by decide) c8), c7⟩)
      · unfold bk_X3_joined_182
        refine wp_some ?_
        exact (show ((-9000000000000000000) ≤ (-9000000000000000000 : Int64).toInt ∧ (-9000000000000000000 : Int64).toInt ≤ 1000000000) from ⟨by decide, by decide⟩)
  refine wp_if (fun c9 => ?_) (fun c9 => ?_)
  · refine wp_lt (fun x10 ex10 => ?_)
    unfold bk_X3_joined_164
    refine wp_if (fun c11 => ?_) (fun c11 => ?_)
    · have c11 := cvl_gt (a := x10.toInt) (b := 1000000000) rfl (by decide) c11
      unfold bk_X3_joined_182
      refine wp_some ?_
      exact (show ((-9000000000000000000) ≤ (-9000000000000000000 : Int64).toInt ∧ (-9000000000000000000 : Int64).toInt ≤ 1000000000) from ⟨by decide, by decide⟩)
    · have c11 := cvl_ngt (a := x10.toInt) (b := 1000000000) rfl (by decide) c11
      refine wp_if (fun c12 => ?_) (fun c12 => ?_)
      · have c12 := cvl_ge (a := x10.toInt) (b := (-1000000000)) rfl (by decide) c12
        refine wp_some ?_
        exact (show ((-9000000000000000000) ≤ x10.toInt ∧ x10.toInt ≤ 1000000000) from ⟨(Int.le_trans (by decide) c12), c11⟩)
      · unfold bk_X3_joined_182
        refine wp_some ?_
        exact (show ((-9000000000000000000) ≤ (-9000000000000000000 : Int64).toInt ∧ (-9000000000000000000 : Int64).toInt ≤ 1000000000) from ⟨by decide, by decide⟩)
  refine wp_if (fun c13 => ?_) (fun c13 => ?_)
  · refine wp_if (fun c14 => ?_) (fun c14 => ?_)
    · have c14 := cvl_eq (a := p2.toInt) (b := 0) rfl (by decide) c14
      obtain ⟨w15, ew15⟩ : ∃ z : Int64, z = (-9000000000000000000 : Int64) := ⟨_, rfl⟩
      have tw15 : w15.toInt = (-9000000000000000000) := by rw [ew15]; decide
      rw [show bk_X3_joined_91   (-9000000000000000000 : Int64) = bk_X3_joined_91   w15 from by rw [ew15]]
      unfold bk_X3_joined_91
      unfold bk_X3_joined_164
      refine wp_if (fun c16 => ?_) (fun c16 => ?_)
      · have c16 := cvl_gt (a := w15.toInt) (b := 1000000000) rfl (by decide) c16
        exact absurd c16 (Int.not_lt.mpr (Int.le_trans (Int.le_of_eq tw15) (by decide)))
      · refine wp_if (fun c17 => ?_) (fun c17 => ?_)
        · have c17 := cvl_ge (a := w15.toInt) (b := (-1000000000)) rfl (by decide) c17
          exact absurd c17 (Int.not_le.mpr (zlt_m (c := (-1000000001)) (Int.le_trans (Int.le_of_eq tw15) (by decide)) (by decide)))
        · unfold bk_X3_joined_182
          refine wp_some ?_
          exact (show ((-9000000000000000000) ≤ (-9000000000000000000 : Int64).toInt ∧ (-9000000000000000000 : Int64).toInt ≤ 1000000000) from ⟨by decide, by decide⟩)
    · have c14z := mt (fun e9 => (lg_cmp_eq _ _).mpr e9) c14
      refine wp_gd (decide_eq_true c14z) ?_
      obtain ⟨w18, ew18⟩ : ∃ z : Int64, z = p1 / p2 := ⟨_, rfl⟩
      rw [show bk_X3_joined_91   (p1 / p2) = bk_X3_joined_91   w18 from by rw [ew18]]
      unfold bk_X3_joined_91
      unfold bk_X3_joined_164
      refine wp_if (fun c19 => ?_) (fun c19 => ?_)
      · have c19 := cvl_gt (a := w18.toInt) (b := 1000000000) rfl (by decide) c19
        unfold bk_X3_joined_182
        refine wp_some ?_
        exact (show ((-9000000000000000000) ≤ (-9000000000000000000 : Int64).toInt ∧ (-9000000000000000000 : Int64).toInt ≤ 1000000000) from ⟨by decide, by decide⟩)
      · have c19 := cvl_ngt (a := w18.toInt) (b := 1000000000) rfl (by decide) c19
        refine wp_if (fun c20 => ?_) (fun c20 => ?_)
        · have c20 := cvl_ge (a := w18.toInt) (b := (-1000000000)) rfl (by decide) c20
          refine wp_some ?_
          exact (show ((-9000000000000000000) ≤ w18.toInt ∧ w18.toInt ≤ 1000000000) from ⟨(Int.le_trans (by decide) c20), c19⟩)
        · unfold bk_X3_joined_182
          refine wp_some ?_
          exact (show ((-9000000000000000000) ≤ (-9000000000000000000 : Int64).toInt ∧ (-9000000000000000000 : Int64).toInt ≤ 1000000000) from ⟨by decide, by decide⟩)
  refine wp_if (fun c21 => ?_) (fun c21 => ?_)
  · refine wp_if (fun c22 => ?_) (fun c22 => ?_)
    · have c22 := cvl_eq (a := p2.toInt) (b := 0) rfl (by decide) c22
      obtain ⟨w23, ew23⟩ : ∃ z : Int64, z = (-9000000000000000000 : Int64) := ⟨_, rfl⟩
      have tw23 : w23.toInt = (-9000000000000000000) := by rw [ew23]; decide
      rw [show bk_X3_joined_111   (-9000000000000000000 : Int64) = bk_X3_joined_111   w23 from by rw [ew23]]
      unfold bk_X3_joined_111
      unfold bk_X3_joined_164
      refine wp_if (fun c24 => ?_) (fun c24 => ?_)
      · have c24 := cvl_gt (a := w23.toInt) (b := 1000000000) rfl (by decide) c24
        exact absurd c24 (Int.not_lt.mpr (Int.le_trans (Int.le_of_eq tw23) (by decide)))
      · refine wp_if (fun c25 => ?_) (fun c25 => ?_)
        · have c25 := cvl_ge (a := w23.toInt) (b := (-1000000000)) rfl (by decide) c25
          exact absurd c25 (Int.not_le.mpr (zlt_m (c := (-1000000001)) (Int.le_trans (Int.le_of_eq tw23) (by decide)) (by decide)))
        · unfold bk_X3_joined_182
          refine wp_some ?_
          exact (show ((-9000000000000000000) ≤ (-9000000000000000000 : Int64).toInt ∧ (-9000000000000000000 : Int64).toInt ≤ 1000000000) from ⟨by decide, by decide⟩)
    · have c22z := mt (fun e9 => (lg_cmp_eq _ _).mpr e9) c22
      refine wp_gd (decide_eq_true c22z) ?_
      obtain ⟨w26, ew26⟩ : ∃ z : Int64, z = p1 - p1 / p2 * p2 := ⟨_, rfl⟩
      rw [show bk_X3_joined_111   (p1 - p1 / p2 * p2) = bk_X3_joined_111   w26 from by rw [ew26]]
      unfold bk_X3_joined_111
      unfold bk_X3_joined_164
      refine wp_if (fun c27 => ?_) (fun c27 => ?_)
      · have c27 := cvl_gt (a := w26.toInt) (b := 1000000000) rfl (by decide) c27
        unfold bk_X3_joined_182
        refine wp_some ?_
        exact (show ((-9000000000000000000) ≤ (-9000000000000000000 : Int64).toInt ∧ (-9000000000000000000 : Int64).toInt ≤ 1000000000) from ⟨by decide, by decide⟩)
      · have c27 := cvl_ngt (a := w26.toInt) (b := 1000000000) rfl (by decide) c27
        refine wp_if (fun c28 => ?_) (fun c28 => ?_)
        · have c28 := cvl_ge (a := w26.toInt) (b := (-1000000000)) rfl (by decide) c28
          refine wp_some ?_
          exact (show ((-9000000000000000000) ≤ w26.toInt ∧ w26.toInt ≤ 1000000000) from ⟨(Int.le_trans (by decide) c28), c27⟩)
        · unfold bk_X3_joined_182
          refine wp_some ?_
          exact (show ((-9000000000000000000) ≤ (-9000000000000000000 : Int64).toInt ∧ (-9000000000000000000 : Int64).toInt ≤ 1000000000) from ⟨by decide, by decide⟩)
  refine wp_if (fun c29 => ?_) (fun c29 => ?_)
  · refine wp_if (fun c30 => ?_) (fun c30 => ?_)
    · obtain ⟨w31, ew31⟩ : ∃ z : Int64, z = (0 : Int64) := ⟨_, rfl⟩
      have tw31 : w31.toInt = 0 := by rw [ew31]; decide
      rw [show bk_X3_joined_127   (0 : Int64) = bk_X3_joined_127   w31 from by rw [ew31]]
      unfold bk_X3_joined_127
      unfold bk_X3_joined_164
      refine wp_if (fun c32 => ?_) (fun c32 => ?_)
      · have c32 := cvl_gt (a := w31.toInt) (b := 1000000000) rfl (by decide) c32
        exact absurd c32 (Int.not_lt.mpr (Int.le_trans (Int.le_of_eq tw31) (by decide)))
      · refine wp_if (fun c33 => ?_) (fun c33 => ?_)
        · have c33 := cvl_ge (a := w31.toInt) (b := (-1000000000)) rfl (by decide) c33
          refine wp_some ?_
          exact (show ((-9000000000000000000) ≤ w31.toInt ∧ w31.toInt ≤ 1000000000) from ⟨(Int.le_trans (by decide) (Int.le_of_eq tw31.symm)), (Int.le_trans (Int.le_of_eq tw31) (by decide))⟩)
        · have c33 := cvl_nge (a := w31.toInt) (b := (-1000000000)) rfl (by decide) c33
          exact absurd c33 (Int.not_lt.mpr (Int.le_trans (by decide) (Int.le_of_eq tw31.symm)))
    · obtain ⟨w34, ew34⟩ : ∃ z : Int64, z = (1 : Int64) := ⟨_, rfl⟩
      have tw34 : w34.toInt = 1 := by rw [ew34]; decide
      rw [show bk_X3_joined_127   (1 : Int64) = bk_X3_joined_127   w34 from by rw [ew34]]
      unfold bk_X3_joined_127
      unfold bk_X3_joined_164
      refine wp_if (fun c35 => ?_) (fun c35 => ?_)
      · have c35 := cvl_gt (a := w34.toInt) (b := 1000000000) rfl (by decide) c35
        exact absurd c35 (Int.not_lt.mpr (Int.le_trans (Int.le_of_eq tw34) (by decide)))
      · refine wp_if (fun c36 => ?_) (fun c36 => ?_)
        · have c36 := cvl_ge (a := w34.toInt) (b := (-1000000000)) rfl (by decide) c36
          refine wp_some ?_
          exact (show ((-9000000000000000000) ≤ w34.toInt ∧ w34.toInt ≤ 1000000000) from ⟨(Int.le_trans (by decide) (Int.le_of_eq tw34.symm)), (Int.le_trans (Int.le_of_eq tw34) (by decide))⟩)
        · have c36 := cvl_nge (a := w34.toInt) (b := (-1000000000)) rfl (by decide) c36
          exact absurd c36 (Int.not_lt.mpr (Int.le_trans (by decide) (Int.le_of_eq tw34.symm)))
  refine wp_if (fun c37 => ?_) (fun c37 => ?_)
  · refine wp_if (fun c38 => ?_) (fun c38 => ?_)
    · obtain ⟨w39, ew39⟩ : ∃ z : Int64, z = (0 : Int64) := ⟨_, rfl⟩
      have tw39 : w39.toInt = 0 := by rw [ew39]; decide
      rw [show bk_X3_joined_143   (0 : Int64) = bk_X3_joined_143   w39 from by rw [ew39]]
      unfold bk_X3_joined_143
      unfold bk_X3_joined_164
      refine wp_if (fun c40 => ?_) (fun c40 => ?_)
      · have c40 := cvl_gt (a := w39.toInt) (b := 1000000000) rfl (by decide) c40
        exact absurd c40 (Int.not_lt.mpr (Int.le_trans (Int.le_of_eq tw39) (by decide)))
      · refine wp_if (fun c41 => ?_) (fun c41 => ?_)
        · have c41 := cvl_ge (a := w39.toInt) (b := (-1000000000)) rfl (by decide) c41
          refine wp_some ?_
          exact (show ((-9000000000000000000) ≤ w39.toInt ∧ w39.toInt ≤ 1000000000) from ⟨(Int.le_trans (by decide) (Int.le_of_eq tw39.symm)), (Int.le_trans (Int.le_of_eq tw39) (by decide))⟩)
        · have c41 := cvl_nge (a := w39.toInt) (b := (-1000000000)) rfl (by decide) c41
          exact absurd c41 (Int.not_lt.mpr (Int.le_trans (by decide) (Int.le_of_eq tw39.symm)))
    · obtain ⟨w42, ew42⟩ : ∃ z : Int64, z = (1 : Int64) := ⟨_, rfl⟩
      have tw42 : w42.toInt = 1 := by rw [ew42]; decide
      rw [show bk_X3_joined_143   (1 : Int64) = bk_X3_joined_143   w42 from by rw [ew42]]
      unfold bk_X3_joined_143
      unfold bk_X3_joined_164
      refine wp_if (fun c43 => ?_) (fun c43 => ?_)
      · have c43 := cvl_gt (a := w42.toInt) (b := 1000000000) rfl (by decide) c43
        exact absurd c43 (Int.not_lt.mpr (Int.le_trans (Int.le_of_eq tw42) (by decide)))
      · refine wp_if (fun c44 => ?_) (fun c44 => ?_)
        · have c44 := cvl_ge (a := w42.toInt) (b := (-1000000000)) rfl (by decide) c44
          refine wp_some ?_
          exact (show ((-9000000000000000000) ≤ w42.toInt ∧ w42.toInt ≤ 1000000000) from ⟨(Int.le_trans (by decide) (Int.le_of_eq tw42.symm)), (Int.le_trans (Int.le_of_eq tw42) (by decide))⟩)
        · have c44 := cvl_nge (a := w42.toInt) (b := (-1000000000)) rfl (by decide) c44
          exact absurd c44 (Int.not_lt.mpr (Int.le_trans (by decide) (Int.le_of_eq tw42.symm)))
  refine wp_if (fun c45 => ?_) (fun c45 => ?_)
  · refine wp_if (fun c46 => ?_) (fun c46 => ?_)
    · obtain ⟨w47, ew47⟩ : ∃ z : Int64, z = (1 : Int64) := ⟨_, rfl⟩
      have tw47 : w47.toInt = 1 := by rw [ew47]; decide
      rw [show bk_X3_joined_159   (1 : Int64) = bk_X3_joined_159   w47 from by rw [ew47]]
      unfold bk_X3_joined_159
      unfold bk_X3_joined_164
      refine wp_if (fun c48 => ?_) (fun c48 => ?_)
      · have c48 := cvl_gt (a := w47.toInt) (b := 1000000000) rfl (by decide) c48
        exact absurd c48 (Int.not_lt.mpr (Int.le_trans (Int.le_of_eq tw47) (by decide)))
      · refine wp_if (fun c49 => ?_) (fun c49 => ?_)
        · have c49 := cvl_ge (a := w47.toInt) (b := (-1000000000)) rfl (by decide) c49
          refine wp_some ?_
          exact (show ((-9000000000000000000) ≤ w47.toInt ∧ w47.toInt ≤ 1000000000) from ⟨(Int.le_trans (by decide) (Int.le_of_eq tw47.symm)), (Int.le_trans (Int.le_of_eq tw47) (by decide))⟩)
        · have c49 := cvl_nge (a := w47.toInt) (b := (-1000000000)) rfl (by decide) c49
          exact absurd c49 (Int.not_lt.mpr (Int.le_trans (by decide) (Int.le_of_eq tw47.symm)))
    · obtain ⟨w50, ew50⟩ : ∃ z : Int64, z = (0 : Int64) := ⟨_, rfl⟩
      have tw50 : w50.toInt = 0 := by rw [ew50]; decide
      rw [show bk_X3_joined_159   (0 : Int64) = bk_X3_joined_159   w50 from by rw [ew50]]
      unfold bk_X3_joined_159
      unfold bk_X3_joined_164
      refine wp_if (fun c51 => ?_) (fun c51 => ?_)
      · have c51 := cvl_gt (a := w50.toInt) (b := 1000000000) rfl (by decide) c51
        exact absurd c51 (Int.not_lt.mpr (Int.le_trans (Int.le_of_eq tw50) (by decide)))
      · refine wp_if (fun c52 => ?_) (fun c52 => ?_)
        · have c52 := cvl_ge (a := w50.toInt) (b := (-1000000000)) rfl (by decide) c52
          refine wp_some ?_
          exact (show ((-9000000000000000000) ≤ w50.toInt ∧ w50.toInt ≤ 1000000000) from ⟨(Int.le_trans (by decide) (Int.le_of_eq tw50.symm)), (Int.le_trans (Int.le_of_eq tw50) (by decide))⟩)
        · have c52 := cvl_nge (a := w50.toInt) (b := (-1000000000)) rfl (by decide) c52
          exact absurd c52 (Int.not_lt.mpr (Int.le_trans (by decide) (Int.le_of_eq tw50.symm)))
  obtain ⟨w53, ew53⟩ : ∃ z : Int64, z = (-9000000000000000000 : Int64) := ⟨_, rfl⟩
  have tw53 : w53.toInt = (-9000000000000000000) := by rw [ew53]; decide
  rw [show bk_X3_joined_164   (-9000000000000000000 : Int64) = bk_X3_joined_164   w53 from by rw [ew53]]
  unfold bk_X3_joined_164
  refine wp_if (fun c54 => ?_) (fun c54 => ?_)
  · have c54 := cvl_gt (a := w53.toInt) (b := 1000000000) rfl (by decide) c54
    exact absurd c54 (Int.not_lt.mpr (Int.le_trans (Int.le_of_eq tw53) (by decide)))
  · refine wp_if (fun c55 => ?_) (fun c55 => ?_)
    · have c55 := cvl_ge (a := w53.toInt) (b := (-1000000000)) rfl (by decide) c55
      exact absurd c55 (Int.not_le.mpr (zlt_m (c := (-1000000001)) (Int.le_trans (Int.le_of_eq tw53) (by decide)) (by decide)))
    · unfold bk_X3_joined_182
      refine wp_some ?_
      exact (show ((-9000000000000000000) ≤ (-9000000000000000000 : Int64).toInt ∧ (-9000000000000000000 : Int64).toInt ≤ 1000000000) from ⟨by decide, by decide⟩)

set_option maxHeartbeats 4000000 in
set_option maxRecDepth 100000 in
theorem s_X3_worth_O (nc_a0 : Nat) (ns_a0 : Nat) (o_me : Ob) (o_a0 : Ob) (p1 : Int32) (p2 : Int32) (hI_me : IvX3 o_me) (hI_a0 : IvX0 nc_a0 ns_a0 o_a0)  : wp (f_X3_worth_O  nc_a0 ns_a0 o_me o_a0 p1 p2) (fun (y : Int64 × Ob) => IvX3 y.2 ∧ Kp [] [] [] o_me y.2) := by
  have li0 : (-9000000000000000000 : Int64).toInt = (-9000000000000000000) := by decide
  have li1 : (0 : Int32).toInt = 0 := by decide
  have li2 : (0 : Int64).toInt = 0 := by decide
  have li3 : (1 : Int32).toInt = 1 := by decide
  have li4 : (1 : Int64).toInt = 1 := by decide
  have li5 : (2 : Int32).toInt = 2 := by decide
  have li6 : (4 : Int32).toInt = 4 := by decide
  have li7 : (50 : Int32).toInt = 50 := by decide
  unfold f_X3_worth_O
  have t9nc := igX0_7 hI_a0
  have t9ns := igX0_8 hI_a0
  have rg2 := i32_rg p1
  have rg3 := i32_rg p2
  refine wp_if (fun c1 => ?_) (fun c1 => ?_)
  · have c1 := cv_lt (a := p1.toInt) (b := p2.toInt) rfl rfl c1
    have t4 : 0 ≤ (if (0 : Int32) < p1 then p1 else (0 : Int32)).toInt ∧ (if (0 : Int32) < p1 then p1 else (0 : Int32)).toInt ≤ 2147483646 := z_max (a := 0) (b := p1.toInt) (by decide) rfl (Or.inl (by decide)) ⟨(by decide), (zu_e (zl_d c1) rg3.2 (by decide))⟩
    have t5 := z_mxg (0 : Int32) p1
    refine wp_lt (fun x6 ex6 => ?_)
    have tx6 : x6.toInt = (if (0 : Int32) < p1 then p1 else (0 : Int32)).toInt := by rw [ex6]
    have t7 : (-2147483647) ≤ (if (gI o_a0 8) < p2 then (gI o_a0 8) else p2).toInt ∧ (if (gI o_a0 8) < p2 then (gI o_a0 8) else p2).toInt ≤ 400 := z_min (a := p2.toInt) (b := (gI o_a0 8).toInt) rfl rfl ⟨(zl_e (zl_d c1) rg2.1 (by decide)), (Int.le_trans (by decide) t9ns.1)⟩ (Or.inr (zu_e (zl_0 t9ns.2.1) t9ns.2.2 (by decide)))
    have t8 := z_mng p2 (gI o_a0 8)
    refine wp_lt (fun x9 ex9 => ?_)
    have tx9 : x9.toInt = (if (gI o_a0 8) < p2 then (gI o_a0 8) else p2).toInt := by rw [ex9]
    have lp1 : ∀ (N1 : Nat) (v3_1 : Int32) (v4_1 : Int32) (v5_1 : Int32) (v6_1 : Int32) (v7_1 : Int32) (o_me_1 : Ob), IvX3 o_me_1 → Kp [] [] [] o_me o_me_1 → (0 ≤ v4_1.toInt ∧ v4_1.toInt ≤ 50) → (0 ≤ v5_1.toInt ∧ v5_1.toInt ≤ 2147483647) → ((-2147483647) ≤ v6_1.toInt ∧ v6_1.toInt ≤ 400) → (v6_1.toInt ≤ x9.toInt + 0) → (v6_1.toInt - v5_1.toInt).toNat < N1 → wp (lp_X3_worth_O_30 nc_a0 ns_a0 o_a0  N1 (v3_1, v4_1, v5_1, v6_1, v7_1, o_me_1)) (fun (y : Int64 × Ob) => IvX3 y.2 ∧ Kp [] [] [] o_me y.2) := by
      intro N1
      induction N1 with
      | zero =>
        intro v3_1 v4_1 v5_1 v6_1 v7_1 o_me_1 hI_me_1 hkp_me_1 hh10 hh11 hh12 hh13 hN1
        exact absurd hN1 (Nat.not_lt_zero _)
      | succ N1 ihx =>
        have ih1 := ihx
        intro v3_1 v4_1 v5_1 v6_1 v7_1 o_me_1 hI_me_1 hkp_me_1 hh10 hh11 hh12 hh13 hN1
        show wp (lb_X3_worth_O_30 nc_a0 ns_a0 o_a0  (lp_X3_worth_O_30 nc_a0 ns_a0 o_a0  N1) v3_1 v4_1 v5_1 v6_1 v7_1 o_me_1) (fun (y : Int64 × Ob) => IvX3 y.2 ∧ Kp [] [] [] o_me y.2)
        unfold lb_X3_worth_O_30
        have rg15 := i32_rg v7_1
        have rg16 := i32_rg v3_1
        refine wp_if (fun c14 => ?_) (fun c14 => ?_)
        · have c14 := cv_ge (a := v7_1.toInt) (b := v3_1.toInt) rfl rfl c14
          unfold bk_X3_worth_O_287
          refine wp_if (fun c17 => ?_) (fun c17 => ?_)
          · have c17 := cv_eq (a := v4_1.toInt) (b := 1) rfl (by decide) c17
            refine wp_some ?_
            exact (show IvX3 o_me_1 ∧ Kp [] [] [] o_me o_me_1 from ⟨hI_me_1, hkp_me_1⟩)
          · have c17 := cv_ne (a := v4_1.toInt) (b := 1) rfl (by decide) c17
            refine wp_some ?_
            exact (show IvX3 o_me_1 ∧ Kp [] [] [] o_me o_me_1 from ⟨hI_me_1, hkp_me_1⟩)
        · have c14 := cv_nge (a := v7_1.toInt) (b := v3_1.toInt) rfl rfl c14
          have rg19 := i32_rg v5_1
          refine wp_if (fun c18 => ?_) (fun c18 => ?_)
          · have c18 := cv_ge (a := v5_1.toInt) (b := v6_1.toInt) rfl rfl c18
            unfold bk_X3_worth_O_287
            refine wp_if (fun c20 => ?_) (fun c20 => ?_)
            · have c20 := cv_eq (a := v4_1.toInt) (b := 1) rfl (by decide) c20
              refine wp_some ?_
              exact (show IvX3 o_me_1 ∧ Kp [] [] [] o_me o_me_1 from ⟨hI_me_1, hkp_me_1⟩)
            · have c20 := cv_ne (a := v4_1.toInt) (b := 1) rfl (by decide) c20
              refine wp_some ?_
              exact (show IvX3 o_me_1 ∧ Kp [] [] [] o_me o_me_1 from ⟨hI_me_1, hkp_me_1⟩)
          · have c18 := cv_nge (a := v5_1.toInt) (b := v6_1.toInt) rfl rfl c18
            refine wp_gd (zin_of (m := (ns_a0 : Int)) rfl hh11.1 (by omega)) ?_
            refine wp_lt (fun x21 ex21 => ?_)
            have tx21 : x21.toInt = (gA o_a0 5 v5_1.toNatClampNeg).toInt := by rw [ex21]
            refine wp_gd (zin_of (m := (ns_a0 : Int)) rfl hh11.1 (by omega)) ?_
            refine wp_lt (fun x22 ex22 => ?_)
            have tx22 : x22.toInt = (gA o_a0 6 v5_1.toNatClampNeg).toInt := by rw [ex22]
            refine wp_lt (fun x23 ex23 => ?_)
            have tx23 : x23.toInt = v5_1.toInt + 1 := by rw [ex23]; exact i32_add rfl (by decide) (zk_l hh11.1 (by decide)) (zk_u (zu_e (k := 399) (zl_d c18) hh12.2 (by decide)) (by decide))
            refine wp_if (fun c24 => ?_) (fun c24 => ?_)
            · have c24 := cv_eq (a := x21.toInt) (b := 0) rfl (by decide) c24
              unfold bk_X3_worth_O_75
              refine wp_if (fun c25 => ?_) (fun c25 => ?_)
              · have c25 := cv_lt (a := v4_1.toInt) (b := 50) rfl (by decide) c25
                refine wp_if (fun c26 => ?_) (fun c26 => ?_)
                · have c26 := cv_eq (a := x21.toInt) (b := 0) rfl (by decide) c26
                  have rg27 := i32_rg x22
                  have t28 : x22.toInt64.toInt = x22.toInt := Int32.toInt_toInt64 _
                  unfold bk_X3_worth_O_112
                  refine wp_gd (zin_of (m := 50) rfl hh10.1 (zlt_m (c := 49) (zlt_u (c := 49) c25 (by decide)) (by decide))) ?_
                  refine wp_lt (fun o29 eo29 => ?_)
                  have hIo29 : IvX3 o29 := by rw [eo29]; exact hI_me_1
                  have hkpo29 : Kp [] [] [] o_me o29 := hkp_me_1.trans (by rw [eo29]; exact Kp.tM)
                  refine wp_lt (fun x30 ex30 => ?_)
                  have tx30 : x30.toInt = v4_1.toInt + 1 := by rw [ex30]; exact i32_add rfl (by decide) (zk_l hh10.1 (by decide)) (zk_u (zlt_u (c := 49) c25 (by decide)) (by decide))
                  unfold bk_X3_worth_O_281
                  refine wp_lt (fun x31 ex31 => ?_)
                  have tx31 : x31.toInt = v7_1.toInt + 1 := by rw [ex31]; exact i32_add rfl (by decide) (zk_l rg15.1 (by decide)) (zk_u (zu_e (k := 2147483646) (zl_d c14) rg16.2 (by decide)) (by decide))
                  have rg32 := i32_rg x23
                  exact ih1 v3_1 x30 x23 v6_1 x31 o29 hIo29 hkpo29 ⟨(zl_e (zq_r (c := (-1)) tx30 (by decide)) hh10.1 (by decide)), (zu_e (Int.le_of_eq tx30) (zlt_u (c := 49) c25 (by decide)) (by decide))⟩ ⟨(zl_e (zq_r (c := (-1)) tx23 (by decide)) hh11.1 (by decide)), rg32.2⟩ ⟨hh12.1, hh12.2⟩ hh13 (zms_2 hN1 (zq_r (c := (-1)) tx23 (by decide)) (zd_r (c := 0) (by decide)) (zl_d c18))
                · have c26z := c26
                  have c26 := cv_ne (a := x21.toInt) (b := 0) rfl (by decide) c26
                  exact absurd (Int.le_antisymm (Int.le_of_eq c24) (Int.le_of_eq c24.symm)) c26
              · have c25 := cv_nlt (a := v4_1.toInt) (b := 50) rfl (by decide) c25
                refine wp_some ?_
                exact (show IvX3 o_me_1 ∧ Kp [] [] [] o_me o_me_1 from ⟨hI_me_1, hkp_me_1⟩)
            · have c24z := c24
              have c24 := cv_ne (a := x21.toInt) (b := 0) rfl (by decide) c24
              refine wp_if (fun c33 => ?_) (fun c33 => ?_)
              · have c33 := cv_eq (a := x21.toInt) (b := 1) rfl (by decide) c33
                unfold bk_X3_worth_O_75
                refine wp_if (fun c34 => ?_) (fun c34 => ?_)
                · have c34 := cv_lt (a := v4_1.toInt) (b := 50) rfl (by decide) c34
                  refine wp_if (fun c35 => ?_) (fun c35 => ?_)
                  · have c35 := cv_eq (a := x21.toInt) (b := 0) rfl (by decide) c35
                    exact absurd c35 c24
                  · have c35z := c35
                    have c35 := cv_ne (a := x21.toInt) (b := 0) rfl (by decide) c35
                    refine wp_bd (s_X3_wordWorth   o_me_1 x22  hI_me_1  ) (fun z36 hz36 => ?_)
                    have hz36_0 := hz36
                    unfold bk_X3_worth_O_112
                    refine wp_gd (zin_of (m := 50) rfl hh10.1 (zlt_m (c := 49) (zlt_u (c := 49) c34 (by decide)) (by decide))) ?_
                    refine wp_lt (fun o37 eo37 => ?_)
                    have hIo37 : IvX3 o37 := by rw [eo37]; exact hI_me_1
                    have hkpo37 : Kp [] [] [] o_me o37 := hkp_me_1.trans (by rw [eo37]; exact Kp.tM)
                    refine wp_lt (fun x38 ex38 => ?_)
                    have tx38 : x38.toInt = v4_1.toInt + 1 := by rw [ex38]; exact i32_add rfl (by decide) (zk_l hh10.1 (by decide)) (zk_u (zlt_u (c := 49) c34 (by decide)) (by decide))
                    unfold bk_X3_worth_O_281
                    refine wp_lt (fun x39 ex39 => ?_)
                    have tx39 : x39.toInt = v7_1.toInt + 1 := by rw [ex39]; exact i32_add rfl (by decide) (zk_l rg15.1 (by decide)) (zk_u (zu_e (k := 2147483646) (zl_d c14) rg16.2 (by decide)) (by decide))
                    have rg40 := i32_rg x23
                    exact ih1 v3_1 x38 x23 v6_1 x39 o37 hIo37 hkpo37 ⟨(zl_e (zq_r (c := (-1)) tx38 (by decide)) hh10.1 (by decide)), (zu_e (Int.le_of_eq tx38) (zlt_u (c := 49) c34 (by decide)) (by decide))⟩ ⟨(zl_e (zq_r (c := (-1)) tx23 (by decide)) hh11.1 (by decide)), rg40.2⟩ ⟨hh12.1, hh12.2⟩ hh13 (zms_2 hN1 (zq_r (c := (-1)) tx23 (by decide)) (zd_r (c := 0) (by decide)) (zl_d c18))
                · have c34 := cv_nlt (a := v4_1.toInt) (b := 50) rfl (by decide) c34
                  refine wp_some ?_
                  exact (show IvX3 o_me_1 ∧ Kp [] [] [] o_me o_me_1 from ⟨hI_me_1, hkp_me_1⟩)
              · have c33 := cv_ne (a := x21.toInt) (b := 1) rfl (by decide) c33
                refine wp_if (fun c41 => ?_) (fun c41 => ?_)
                · have c41 := cv_gt (a := x21.toInt) (b := 4) rfl (by decide) c41
                  refine wp_if (fun c42 => ?_) (fun c42 => ?_)
                  · have c42 := cv_ge (a := v4_1.toInt) (b := 2) rfl (by decide) c42
                    refine wp_lt (fun x43 ex43 => ?_)
                    have tx43 : x43.toInt = v4_1.toInt + (-1) := by rw [ex43]; exact i32_add rfl (by decide) (zk_l c42 (by decide)) (zk_u hh10.2 (by decide))
                    have t44 : (x43 - (1 : Int32)).toInt = x43.toInt - 1 := i32_sub rfl (by decide) (zs_l (zl_e (k := 1) (zq_r (c := 1) tx43 (by decide)) c42 (by decide)) (by decide)) (zs_u (zu_e (k := 49) (Int.le_of_eq tx43) hh10.2 (by decide)) (by decide))
                    refine wp_gd (zin_of (m := 50) rfl (zl_e (zd_e (c := 2) (zq_r (c := 1) tx43 (by decide)) (zq_t (c := 1) t44 (by decide)) (by decide)) c42 (by decide)) (zlt_m (c := 49) (zu_e (zd_e (c := (-2)) (zq_s (c := (-1)) t44 (by decide)) (Int.le_of_eq tx43) (by decide)) hh10.2 (by decide)) (by decide))) ?_
                    refine wp_gd (zin_of (m := 50) rfl (zl_e (zq_r (c := 1) tx43 (by decide)) c42 (by decide)) (zlt_m (c := 49) (zu_e (Int.le_of_eq tx43) hh10.2 (by decide)) (by decide))) ?_
                    refine wp_bd (s_X3_joined   x21 (gM o_me_1 1 (x43 - (1 : Int32)).toNatClampNeg) (gM o_me_1 1 x43.toNatClampNeg)    ) (fun z45 hz45 => ?_)
                    have hz45_0 := hz45
                    refine wp_gd (zin_of (m := 50) rfl (zl_e (zd_e (c := 2) (zq_r (c := 1) tx43 (by decide)) (zq_t (c := 1) t44 (by decide)) (by decide)) c42 (by decide)) (zlt_m (c := 49) (zu_e (zd_e (c := (-2)) (zq_s (c := (-1)) t44 (by decide)) (Int.le_of_eq tx43) (by decide)) hh10.2 (by decide)) (by decide))) ?_
                    refine wp_lt (fun o46 eo46 => ?_)
                    have hIo46 : IvX3 o46 := by rw [eo46]; exact hI_me_1
                    have hkpo46 : Kp [] [] [] o_me o46 := hkp_me_1.trans (by rw [eo46]; exact Kp.tM)
                    refine wp_gd (zin_of (m := 50) rfl (zl_e (zd_e (c := 2) (zq_r (c := 1) tx43 (by decide)) (zq_t (c := 1) t44 (by decide)) (by decide)) c42 (by decide)) (zlt_m (c := 49) (zu_e (zd_e (c := (-2)) (zq_s (c := (-1)) t44 (by decide)) (Int.le_of_eq tx43) (by decide)) hh10.2 (by decide)) (by decide))) ?_
                    refine wp_if (fun c47 => ?_) (fun c47 => ?_)
                    · have c47 := cvl_eq (a := (gM o46 1 (x43 - (1 : Int32)).toNatClampNeg).toInt) (b := (-9000000000000000000)) rfl (by decide) c47
                      refine wp_some ?_
                      exact (show IvX3 o46 ∧ Kp [] [] [] o_me o46 from ⟨hIo46, hkpo46⟩)
                    · have c47 := cvl_ne (a := (gM o46 1 (x43 - (1 : Int32)).toNatClampNeg).toInt) (b := (-9000000000000000000)) rfl (by decide) c47
                      unfold bk_X3_worth_O_281
                      refine wp_lt (fun x48 ex48 => ?_)
                      have tx48 : x48.toInt = v7_1.toInt + 1 := by rw [ex48]; exact i32_add rfl (by decide) (zk_l rg15.1 (by decide)) (zk_u (zu_e (k := 2147483646) (zl_d c14) rg16.2 (by decide)) (by decide))
                      have rg49 := i32_rg x23
                      exact ih1 v3_1 x43 x23 v6_1 x48 o46 hIo46 hkpo46 ⟨(zl_e (zq_r (c := 1) tx43 (by decide)) c42 (by decide)), (zu_e (Int.le_of_eq tx43) hh10.2 (by decide))⟩ ⟨(zl_e (zq_r (c := (-1)) tx23 (by decide)) hh11.1 (by decide)), rg49.2⟩ ⟨hh12.1, hh12.2⟩ hh13 (zms_2 hN1 (zq_r (c := (-1)) tx23 (by decide)) (zd_r (c := 0) (by decide)) (zl_d c18))
                  · have c42 := cv_nge (a := v4_1.toInt) (b := 2) rfl (by decide) c42
                    refine wp_some ?_
                    exact (show IvX3 o_me_1 ∧ Kp [] [] [] o_me o_me_1 from ⟨hI_me_1, hkp_me_1⟩)
                · have c41 := cv_ngt (a := x21.toInt) (b := 4) rfl (by decide) c41
                  refine wp_if (fun c50 => ?_) (fun c50 => ?_)
                  · have c50 := cv_ge (a := v4_1.toInt) (b := 1) rfl (by decide) c50
                    have t51 : (v4_1 - (1 : Int32)).toInt = v4_1.toInt - 1 := i32_sub rfl (by decide) (zs_l c50 (by decide)) (zs_u hh10.2 (by decide))
                    refine wp_gd (zin_of (m := 50) rfl (zl_e (zq_t (c := 1) t51 (by decide)) c50 (by decide)) (zlt_m (c := 49) (zu_e (zq_s (c := (-1)) t51 (by decide)) hh10.2 (by decide)) (by decide))) ?_
                    refine wp_if (fun c52 => ?_) (fun c52 => ?_)
                    · have c52 := cvl_eq (a := (gM o_me_1 1 (v4_1 - (1 : Int32)).toNatClampNeg).toInt) (b := 1) rfl (by decide) c52
                      obtain ⟨w53, ew53⟩ : ∃ z : Int32, z = (1 : Int32) := ⟨_, rfl⟩
                      have tw53 : w53.toInt = 1 := by rw [ew53]; decide
                      rw [show bk_X3_worth_O_154 nc_a0 ns_a0 o_a0 (lp_X3_worth_O_30 nc_a0 ns_a0 o_a0  N1) v3_1 v4_1 x23 v6_1 v7_1 x21 x22 (1 : Int32) o_me_1 = bk_X3_worth_O_154 nc_a0 ns_a0 o_a0 (lp_X3_worth_O_30 nc_a0 ns_a0 o_a0  N1) v3_1 v4_1 x23 v6_1 v7_1 x21 x22 w53 o_me_1 from by rw [ew53]]
                      unfold bk_X3_worth_O_154
                      refine wp_if (fun c54 => ?_) (fun c54 => ?_)
                      · have c54 := cv_eq (a := x21.toInt) (b := 2) rfl (by decide) c54
                        refine wp_if (fun c55 => ?_) (fun c55 => ?_)
                        · have c55 := cv_eq (a := w53.toInt) (b := 0) rfl (by decide) c55
                          exact absurd c55 (zne_r (k := 0) (l := 1) (by decide) (Int.le_of_eq tw53.symm) (by decide))
                        · have c55z := c55
                          have c55 := cv_ne (a := w53.toInt) (b := 0) rfl (by decide) c55
                          obtain ⟨w56, ew56⟩ : ∃ z : Int64, z = (0 : Int64) := ⟨_, rfl⟩
                          have tw56 : w56.toInt = 0 := by rw [ew56]; decide
                          obtain ⟨w57, ew57⟩ : ∃ z : Int32, z = v4_1 - (1 : Int32) := ⟨_, rfl⟩
                          have tw57 : w57.toInt = (v4_1 - (1 : Int32)).toInt := by rw [ew57]
                          rw [show bk_X3_worth_O_180 nc_a0 ns_a0 o_a0 (lp_X3_worth_O_30 nc_a0 ns_a0 o_a0  N1) v3_1 v4_1 x23 v6_1 v7_1 (0 : Int64) (v4_1 - (1 : Int32)) o_me_1 = bk_X3_worth_O_180 nc_a0 ns_a0 o_a0 (lp_X3_worth_O_30 nc_a0 ns_a0 o_a0  N1) v3_1 v4_1 x23 v6_1 v7_1 w56 w57 o_me_1 from by rw [ew56, ew57]]
                          unfold bk_X3_worth_O_180
                          refine wp_gd (zin_of (m := 50) rfl (zl_e (zd_e (c := 1) (zq_t (c := 1) t51 (by decide)) (zq_0 tw57.symm) (by decide)) c50 (by decide)) (zlt_m (c := 49) (zu_e (zd_e (c := (-1)) (zq_0 tw57) (zq_s (c := (-1)) t51 (by decide)) (by decide)) hh10.2 (by decide)) (by decide))) ?_
                          refine wp_lt (fun o58 eo58 => ?_)
                          have hIo58 : IvX3 o58 := by rw [eo58]; exact hI_me_1
                          have hkpo58 : Kp [] [] [] o_me o58 := hkp_me_1.trans (by rw [eo58]; exact Kp.tM)
                          unfold bk_X3_worth_O_215
                          unfold bk_X3_worth_O_281
                          refine wp_lt (fun x59 ex59 => ?_)
                          have tx59 : x59.toInt = v7_1.toInt + 1 := by rw [ex59]; exact i32_add rfl (by decide) (zk_l rg15.1 (by decide)) (zk_u (zu_e (k := 2147483646) (zl_d c14) rg16.2 (by decide)) (by decide))
                          have rg60 := i32_rg x23
                          exact ih1 v3_1 v4_1 x23 v6_1 x59 o58 hIo58 hkpo58 ⟨hh10.1, hh10.2⟩ ⟨(zl_e (zq_r (c := (-1)) tx23 (by decide)) hh11.1 (by decide)), rg60.2⟩ ⟨hh12.1, hh12.2⟩ hh13 (zms_2 hN1 (zq_r (c := (-1)) tx23 (by decide)) (zd_r (c := 0) (by decide)) (zl_d c18))
                      · have c54 := cv_ne (a := x21.toInt) (b := 2) rfl (by decide) c54
                        refine wp_if (fun c61 => ?_) (fun c61 => ?_)
                        · have c61 := cv_eq (a := x21.toInt) (b := 4) rfl (by decide) c61
                          obtain ⟨w62, ew62⟩ : ∃ z : Int32, z = (1 : Int32) := ⟨_, rfl⟩
                          have tw62 : w62.toInt = 1 := by rw [ew62]; decide
                          rw [show bk_X3_worth_O_197 nc_a0 ns_a0 o_a0 (lp_X3_worth_O_30 nc_a0 ns_a0 o_a0  N1) v3_1 v4_1 x23 v6_1 v7_1 x22 (1 : Int32) w53 o_me_1 = bk_X3_worth_O_197 nc_a0 ns_a0 o_a0 (lp_X3_worth_O_30 nc_a0 ns_a0 o_a0  N1) v3_1 v4_1 x23 v6_1 v7_1 x22 w62 w53 o_me_1 from by rw [ew62]]
                          unfold bk_X3_worth_O_197
                          refine wp_if (fun c63 => ?_) (fun c63 => ?_)
                          · have c63 := cv_eq (a := w53.toInt) (b := w62.toInt) rfl rfl c63
                            have rg65 := i32_rg x22
                            have t64 : 1 ≤ (if x23 < x22 then x22 else x23).toInt ∧ (if x23 < x22 then x22 else x23).toInt ≤ 2147483647 := z_max (a := x23.toInt) (b := x22.toInt) rfl rfl (Or.inl (zl_e (zq_r (c := (-1)) tx23 (by decide)) hh11.1 (by decide))) ⟨(zu_e (zd_e (c := 0) (Int.le_of_eq tx23) (zl_d c18) (by decide)) hh12.2 (by decide)), rg65.2⟩
                            have t66 := z_mxg x23 x22
                            refine wp_lt (fun x67 ex67 => ?_)
                            have tx67 : x67.toInt = (if x23 < x22 then x22 else x23).toInt := by rw [ex67]
                            unfold bk_X3_worth_O_215
                            unfold bk_X3_worth_O_281
                            refine wp_lt (fun x68 ex68 => ?_)
                            have tx68 : x68.toInt = v7_1.toInt + 1 := by rw [ex68]; exact i32_add rfl (by decide) (zk_l rg15.1 (by decide)) (zk_u (zu_e (k := 2147483646) (zl_d c14) rg16.2 (by decide)) (by decide))
                            have rg69 := i32_rg x67
                            exact ih1 v3_1 v4_1 x67 v6_1 x68 o_me_1 hI_me_1 hkp_me_1 ⟨hh10.1, hh10.2⟩ ⟨(zl_e (zq_0 tx67.symm) t64.1 (by decide)), rg69.2⟩ ⟨hh12.1, hh12.2⟩ hh13 (zms_2 hN1 (zd_e (c := (-1)) (zd_e (c := (-1)) (zq_r (c := (-1)) tx23 (by decide)) (zl_0 t66.1) (by decide)) (zq_0 tx67.symm) (by decide)) (zd_r (c := 0) (by decide)) (zl_d c18))
                          · have c63 := cv_ne (a := w53.toInt) (b := w62.toInt) rfl rfl c63
                            exact absurd (Int.le_antisymm (zz_0 (zd_b (Int.le_of_eq tw53) (Int.le_of_eq tw62.symm) (by decide))) (zz_0 (zd_b (Int.le_of_eq tw62) (Int.le_of_eq tw53.symm) (by decide)))) c63
                        · have c61 := cv_ne (a := x21.toInt) (b := 4) rfl (by decide) c61
                          obtain ⟨w70, ew70⟩ : ∃ z : Int32, z = (0 : Int32) := ⟨_, rfl⟩
                          have tw70 : w70.toInt = 0 := by rw [ew70]; decide
                          rw [show bk_X3_worth_O_197 nc_a0 ns_a0 o_a0 (lp_X3_worth_O_30 nc_a0 ns_a0 o_a0  N1) v3_1 v4_1 x23 v6_1 v7_1 x22 (0 : Int32) w53 o_me_1 = bk_X3_worth_O_197 nc_a0 ns_a0 o_a0 (lp_X3_worth_O_30 nc_a0 ns_a0 o_a0  N1) v3_1 v4_1 x23 v6_1 v7_1 x22 w70 w53 o_me_1 from by rw [ew70]]
                          unfold bk_X3_worth_O_197
                          refine wp_if (fun c71 => ?_) (fun c71 => ?_)
                          · have c71 := cv_eq (a := w53.toInt) (b := w70.toInt) rfl rfl c71
                            exact absurd c71 (zne_r (k := 0) (l := 1) (Int.le_of_eq tw70) (Int.le_of_eq tw53.symm) (by decide))
                          · have c71 := cv_ne (a := w53.toInt) (b := w70.toInt) rfl rfl c71
                            refine wp_lt (fun x72 ex72 => ?_)
                            have tx72 : x72.toInt = v4_1.toInt + (-1) := by rw [ex72]; exact i32_add rfl (by decide) (zk_l c50 (by decide)) (zk_u hh10.2 (by decide))
                            unfold bk_X3_worth_O_215
                            unfold bk_X3_worth_O_281
                            refine wp_lt (fun x73 ex73 => ?_)
                            have tx73 : x73.toInt = v7_1.toInt + 1 := by rw [ex73]; exact i32_add rfl (by decide) (zk_l rg15.1 (by decide)) (zk_u (zu_e (k := 2147483646) (zl_d c14) rg16.2 (by decide)) (by decide))
                            have rg74 := i32_rg x23
                            exact ih1 v3_1 x72 x23 v6_1 x73 o_me_1 hI_me_1 hkp_me_1 ⟨(zl_e (zq_r (c := 1) tx72 (by decide)) c50 (by decide)), (zu_e (Int.le_of_eq tx72) hh10.2 (by decide))⟩ ⟨(zl_e (zq_r (c := (-1)) tx23 (by decide)) hh11.1 (by decide)), rg74.2⟩ ⟨hh12.1, hh12.2⟩ hh13 (zms_2 hN1 (zq_r (c := (-1)) tx23 (by decide)) (zd_r (c := 0) (by decide)) (zl_d c18))
                    · have c52 := cvl_ne (a := (gM o_me_1 1 (v4_1 - (1 : Int32)).toNatClampNeg).toInt) (b := 1) rfl (by decide) c52
                      obtain ⟨w75, ew75⟩ : ∃ z : Int32, z = (0 : Int32) := ⟨_, rfl⟩
                      have tw75 : w75.toInt = 0 := by rw [ew75]; decide
                      rw [show bk_X3_worth_O_154 nc_a0 ns_a0 o_a0 (lp_X3_worth_O_30 nc_a0 ns_a0 o_a0  N1) v3_1 v4_1 x23 v6_1 v7_1 x21 x22 (0 : Int32) o_me_1 = bk_X3_worth_O_154 nc_a0 ns_a0 o_a0 (lp_X3_worth_O_30 nc_a0 ns_a0 o_a0  N1) v3_1 v4_1 x23 v6_1 v7_1 x21 x22 w75 o_me_1 from by rw [ew75]]
                      unfold bk_X3_worth_O_154
                      refine wp_if (fun c76 => ?_) (fun c76 => ?_)
                      · have c76 := cv_eq (a := x21.toInt) (b := 2) rfl (by decide) c76
                        refine wp_if (fun c77 => ?_) (fun c77 => ?_)
                        · have c77 := cv_eq (a := w75.toInt) (b := 0) rfl (by decide) c77
                          obtain ⟨w78, ew78⟩ : ∃ z : Int64, z = (1 : Int64) := ⟨_, rfl⟩
                          have tw78 : w78.toInt = 1 := by rw [ew78]; decide
                          obtain ⟨w79, ew79⟩ : ∃ z : Int32, z = v4_1 - (1 : Int32) := ⟨_, rfl⟩
                          have tw79 : w79.toInt = (v4_1 - (1 : Int32)).toInt := by rw [ew79]
                          rw [show bk_X3_worth_O_180 nc_a0 ns_a0 o_a0 (lp_X3_worth_O_30 nc_a0 ns_a0 o_a0  N1) v3_1 v4_1 x23 v6_1 v7_1 (1 : Int64) (v4_1 - (1 : Int32)) o_me_1 = bk_X3_worth_O_180 nc_a0 ns_a0 o_a0 (lp_X3_worth_O_30 nc_a0 ns_a0 o_a0  N1) v3_1 v4_1 x23 v6_1 v7_1 w78 w79 o_me_1 from by rw [ew78, ew79]]
                          unfold bk_X3_worth_O_180
                          refine wp_gd (zin_of (m := 50) rfl (zl_e (zd_e (c := 1) (zq_t (c := 1) t51 (by decide)) (zq_0 tw79.symm) (by decide)) c50 (by decide)) (zlt_m (c := 49) (zu_e (zd_e (c := (-1)) (zq_0 tw79) (zq_s (c := (-1)) t51 (by decide)) (by decide)) hh10.2 (by decide)) (by decide))) ?_
                          refine wp_lt (fun o80 eo80 => ?_)
                          have hIo80 : IvX3 o80 := by rw [eo80]; exact hI_me_1
                          have hkpo80 : Kp [] [] [] o_me o80 := hkp_me_1.trans (by rw [eo80]; exact Kp.tM)
                          unfold bk_X3_worth_O_215
                          unfold bk_X3_worth_O_281
                          refine wp_lt (fun x81 ex81 => ?_)
                          have tx81 : x81.toInt = v7_1.toInt + 1 := by rw [ex81]; exact i32_add rfl (by decide) (zk_l rg15.1 (by decide)) (zk_u (zu_e (k := 2147483646) (zl_d c14) rg16.2 (by decide)) (by decide))
                          have rg82 := i32_rg x23
                          exact ih1 v3_1 v4_1 x23 v6_1 x81 o80 hIo80 hkpo80 ⟨hh10.1, hh10.2⟩ ⟨(zl_e (zq_r (c := (-1)) tx23 (by decide)) hh11.1 (by decide)), rg82.2⟩ ⟨hh12.1, hh12.2⟩ hh13 (zms_2 hN1 (zq_r (c := (-1)) tx23 (by decide)) (zd_r (c := 0) (by decide)) (zl_d c18))
                        · have c77z := c77
                          have c77 := cv_ne (a := w75.toInt) (b := 0) rfl (by decide) c77
                          exact absurd (Int.le_antisymm (Int.le_of_eq tw75) (Int.le_of_eq tw75.symm)) c77
                      · have c76 := cv_ne (a := x21.toInt) (b := 2) rfl (by decide) c76
                        refine wp_if (fun c83 => ?_) (fun c83 => ?_)
                        · have c83 := cv_eq (a := x21.toInt) (b := 4) rfl (by decide) c83
                          obtain ⟨w84, ew84⟩ : ∃ z : Int32, z = (1 : Int32) := ⟨_, rfl⟩
                          have tw84 : w84.toInt = 1 := by rw [ew84]; decide
                          rw [show bk_X3_worth_O_197 nc_a0 ns_a0 o_a0 (lp_X3_worth_O_30 nc_a0 ns_a0 o_a0  N1) v3_1 v4_1 x23 v6_1 v7_1 x22 (1 : Int32) w75 o_me_1 = bk_X3_worth_O_197 nc_a0 ns_a0 o_a0 (lp_X3_worth_O_30 nc_a0 ns_a0 o_a0  N1) v3_1 v4_1 x23 v6_1 v7_1 x22 w84 w75 o_me_1 from by rw [ew84]]
                          unfold bk_X3_worth_O_197
                          refine wp_if (fun c85 => ?_) (fun c85 => ?_)
                          · have c85 := cv_eq (a := w75.toInt) (b := w84.toInt) rfl rfl c85
                            exact absurd c85 (zne_l (k := 0) (l := 1) (Int.le_of_eq tw75) (Int.le_of_eq tw84.symm) (by decide))
                          · have c85 := cv_ne (a := w75.toInt) (b := w84.toInt) rfl rfl c85
                            refine wp_lt (fun x86 ex86 => ?_)
                            have tx86 : x86.toInt = v4_1.toInt + (-1) := by rw [ex86]; exact i32_add rfl (by decide) (zk_l c50 (by decide)) (zk_u hh10.2 (by decide))
                            unfold bk_X3_worth_O_215
                            unfold bk_X3_worth_O_281
                            refine wp_lt (fun x87 ex87 => ?_)
                            have tx87 : x87.toInt = v7_1.toInt + 1 := by rw [ex87]; exact i32_add rfl (by decide) (zk_l rg15.1 (by decide)) (zk_u (zu_e (k := 2147483646) (zl_d c14) rg16.2 (by decide)) (by decide))
                            have rg88 := i32_rg x23
                            exact ih1 v3_1 x86 x23 v6_1 x87 o_me_1 hI_me_1 hkp_me_1 ⟨(zl_e (zq_r (c := 1) tx86 (by decide)) c50 (by decide)), (zu_e (Int.le_of_eq tx86) hh10.2 (by decide))⟩ ⟨(zl_e (zq_r (c := (-1)) tx23 (by decide)) hh11.1 (by decide)), rg88.2⟩ ⟨hh12.1, hh12.2⟩ hh13 (zms_2 hN1 (zq_r (c := (-1)) tx23 (by decide)) (zd_r (c := 0) (by decide)) (zl_d c18))
                        · have c83 := cv_ne (a := x21.toInt) (b := 4) rfl (by decide) c83
                          obtain ⟨w89, ew89⟩ : ∃ z : Int32, z = (0 : Int32) := ⟨_, rfl⟩
                          have tw89 : w89.toInt = 0 := by rw [ew89]; decide
                          rw [show bk_X3_worth_O_197 nc_a0 ns_a0 o_a0 (lp_X3_worth_O_30 nc_a0 ns_a0 o_a0  N1) v3_1 v4_1 x23 v6_1 v7_1 x22 (0 : Int32) w75 o_me_1 = bk_X3_worth_O_197 nc_a0 ns_a0 o_a0 (lp_X3_worth_O_30 nc_a0 ns_a0 o_a0  N1) v3_1 v4_1 x23 v6_1 v7_1 x22 w89 w75 o_me_1 from by rw [ew89]]
                          unfold bk_X3_worth_O_197
                          refine wp_if (fun c90 => ?_) (fun c90 => ?_)
                          · have c90 := cv_eq (a := w75.toInt) (b := w89.toInt) rfl rfl c90
                            have rg92 := i32_rg x22
                            have t91 : 1 ≤ (if x23 < x22 then x22 else x23).toInt ∧ (if x23 < x22 then x22 else x23).toInt ≤ 2147483647 := z_max (a := x23.toInt) (b := x22.toInt) rfl rfl (Or.inl (zl_e (zq_r (c := (-1)) tx23 (by decide)) hh11.1 (by decide))) ⟨(zu_e (zd_e (c := 0) (Int.le_of_eq tx23) (zl_d c18) (by decide)) hh12.2 (by decide)), rg92.2⟩
                            have t93 := z_mxg x23 x22
                            refine wp_lt (fun x94 ex94 => ?_)
                            have tx94 : x94.toInt = (if x23 < x22 then x22 else x23).toInt := by rw [ex94]
                            unfold bk_X3_worth_O_215
                            unfold bk_X3_worth_O_281
                            refine wp_lt (fun x95 ex95 => ?_)
                            have tx95 : x95.toInt = v7_1.toInt + 1 := by rw [ex95]; exact i32_add rfl (by decide) (zk_l rg15.1 (by decide)) (zk_u (zu_e (k := 2147483646) (zl_d c14) rg16.2 (by decide)) (by decide))
                            have rg96 := i32_rg x94
                            exact ih1 v3_1 v4_1 x94 v6_1 x95 o_me_1 hI_me_1 hkp_me_1 ⟨hh10.1, hh10.2⟩ ⟨(zl_e (zq_0 tx94.symm) t91.1 (by decide)), rg96.2⟩ ⟨hh12.1, hh12.2⟩ hh13 (zms_2 hN1 (zd_e (c := (-1)) (zd_e (c := (-1)) (zq_r (c := (-1)) tx23 (by decide)) (zl_0 t93.1) (by decide)) (zq_0 tx94.symm) (by decide)) (zd_r (c := 0) (by decide)) (zl_d c18))
                          · have c90 := cv_ne (a := w75.toInt) (b := w89.toInt) rfl rfl c90
                            exact absurd (Int.le_antisymm (zz_0 (zd_b (Int.le_of_eq tw75) (Int.le_of_eq tw89.symm) (by decide))) (zz_0 (zd_b (Int.le_of_eq tw89) (Int.le_of_eq tw75.symm) (by decide)))) c90
                  · have c50 := cv_nge (a := v4_1.toInt) (b := 1) rfl (by decide) c50
                    refine wp_some ?_
                    exact (show IvX3 o_me_1 ∧ Kp [] [] [] o_me o_me_1 from ⟨hI_me_1, hkp_me_1⟩)
    have rg97 := i32_rg x6
    exact lp1 zfu p2 (0 : Int32) x6 x9 p1 o_me hI_me Kp.rf ⟨by decide, by decide⟩ ⟨(zl_e (zq_0 tx6.symm) t4.1 (by decide)), rg97.2⟩ ⟨(zl_e (zq_0 tx9.symm) t7.1 (by decide)), (zu_e (zq_0 tx9) t7.2 (by decide))⟩ (zd_r (by decide)) (zme_2 (u := 400) (l := 0) (zu_e (k := 400) (zq_0 tx9) t7.2 (by decide)) (zl_e (k := 0) (zq_0 tx6.symm) t4.1 (by decide)) (by decide))
  · have c1 := cv_nlt (a := p1.toInt) (b := p2.toInt) rfl rfl c1
    refine wp_some ?_
    exact (show IvX3 o_me ∧ Kp [] [] [] o_me o_me from ⟨hI_me, Kp.rf⟩)

set_option maxHeartbeats 4000000 in
set_option maxRecDepth 100000 in
theorem s_X1_told_O {pl : List CR} (nc_a0 : Nat) (ns_a0 : Nat) (o_me : Ob) (o_me_isles : Ob) (o_me_isles_now : Ob) (o_me_machine : Ob) (o_a0 : Ob) (p1 : Int32) (p2 : Int32) (p3 : Int32) (p4 : Int32) (hI_me : IvX1 o_me) (hI_me_isles : IvX2 pl o_me_isles) (hI_me_isles_now : IvX4 o_me_isles_now) (hI_me_machine : IvX3 o_me_machine) (hI_a0 : IvX0 nc_a0 ns_a0 o_a0)  : wp (f_X1_told_O  nc_a0 ns_a0 o_me o_me_isles o_me_isles_now o_me_machine o_a0 p1 p2 p3 p4) (fun (y : Int64 × Ob) => IvX3 y.2 ∧ Kp [] [] [] o_me_machine y.2) := by
  unfold f_X1_told_O
  have t9nc := igX0_7 hI_a0
  refine wp_bd (s_X2_isPerson   o_me_isles p2  hI_me_isles  ) (fun z1 hz1 => ?_)
  obtain ⟨hz1_0, hz1_1⟩ := hz1
  refine wp_if (fun c2 => ?_) (fun c2 => ?_)
  · have c2 := cv_eq (a := z1.toInt) (b := 0) rfl (by decide) c2
    refine wp_some ?_
    exact (show IvX3 o_me_machine ∧ Kp [] [] [] o_me_machine o_me_machine from ⟨hI_me_machine, Kp.rf⟩)
  · have c2i := hz1_1 c2
    refine wp_bd (s_X8_isRace   p3    ) (fun z3 hz3 => ?_)
    obtain ⟨hz3_0, hz3_1⟩ := hz3
    refine wp_if (fun c4 => ?_) (fun c4 => ?_)
    · have c4 := cv_eq (a := z3.toInt) (b := 0) rfl (by decide) c4
      refine wp_some ?_
      exact (show IvX3 o_me_machine ∧ Kp [] [] [] o_me_machine o_me_machine from ⟨hI_me_machine, Kp.rf⟩)
    · have c4i := hz3_1 c4
      refine wp_bd (s_X3_setLawWords_O   o_me_machine o_me_isles o_me_isles_now p2 p3 p4  hI_me_machine hI_me_isles hI_me_isles_now  ⟨c2i.1.1, c2i.1.2⟩ ⟨c4i.1, c4i.2⟩) (fun z5 hz5 => ?_)
      obtain ⟨hz5_0, hz5_1⟩ := hz5
      have hkpz5_me_machine : Kp [] [] [] o_me_machine z5 := Kp.rf.trans (hz5_1.mono (by decide) (by decide) (by decide))
      have t6 : ((gI o_a0 7) - (1 : Int32)).toInt = (gI o_a0 7).toInt - 1 := i32_sub rfl (by decide) (zs_l t9nc.1 (by decide)) (zs_u (zu_e (k := 12) (zl_0 t9nc.2.1) t9nc.2.2 (by decide)) (by decide))
      refine wp_lt (fun x7 ex7 => ?_)
      have tx7 : x7.toInt = ((gI o_a0 7) - (1 : Int32)).toInt := by rw [ex7]
      have lp1 : ∀ (N1 : Nat) (v2_1 : Int32) (v6_1 : Int32) (o_me_machine_1 : Ob), IvX3 o_me_machine_1 → Kp [] [] [] o_me_machine o_me_machine_1 → ((-1) ≤ v6_1.toInt ∧ v6_1.toInt ≤ 11) → (v6_1.toInt ≤ (gI o_a0 7).toInt + (-1)) → (v6_1.toInt - (-1)).toNat < N1 → wp (lp_X1_told_O_51 nc_a0 ns_a0 o_me o_me_isles o_me_isles_now o_a0  N1 (v2_1, v6_1, o_me_machine_1)) (fun (y : Int64 × Ob) => IvX3 y.2 ∧ Kp [] [] [] o_me_machine y.2) := by
        intro N1
        induction N1 with
        | zero =>
          intro v2_1 v6_1 o_me_machine_1 hI_me_machine_1 hkp_me_machine_1 hh8 hh9 hN1
          exact absurd hN1 (Nat.not_lt_zero _)
        | succ N1 ihx =>
          have ih1 := ihx
          intro v2_1 v6_1 o_me_machine_1 hI_me_machine_1 hkp_me_machine_1 hh8 hh9 hN1
          show wp (lb_X1_told_O_51 nc_a0 ns_a0 o_me o_me_isles o_me_isles_now o_a0  (lp_X1_told_O_51 nc_a0 ns_a0 o_me o_me_isles o_me_isles_now o_a0  N1) v2_1 v6_1 o_me_machine_1) (fun (y : Int64 × Ob) => IvX3 y.2 ∧ Kp [] [] [] o_me_machine y.2)
          unfold lb_X1_told_O_51
          refine wp_if (fun c10 => ?_) (fun c10 => ?_)
          · have c10 := cv_lt (a := v6_1.toInt) (b := 0) rfl (by decide) c10
            refine wp_some ?_
            exact (show IvX3 o_me_machine_1 ∧ Kp [] [] [] o_me_machine o_me_machine_1 from ⟨hI_me_machine_1, hkp_me_machine_1⟩)
          · have c10 := cv_nlt (a := v6_1.toInt) (b := 0) rfl (by decide) c10
            refine wp_gd (zin_of (m := (nc_a0 : Int)) rfl c10 (zz_l (zd_e (c := (-1)) hh9 (zl_0 t9nc.2.1) (by decide)))) ?_
            refine wp_if (fun c11 => ?_) (fun c11 => ?_)
            · refine wp_gd (zin_of (m := (nc_a0 : Int)) rfl c10 (zz_l (zd_e (c := (-1)) hh9 (zl_0 t9nc.2.1) (by decide)))) ?_
              refine wp_gd (zin_of (m := (nc_a0 : Int)) rfl c10 (zz_l (zd_e (c := (-1)) hh9 (zl_0 t9nc.2.1) (by decide)))) ?_
              refine wp_bd (s_X3_worth_O  nc_a0 ns_a0 o_me_machine_1 o_a0 (gA o_a0 3 v6_1.toNatClampNeg) (gA o_a0 4 v6_1.toNatClampNeg)  hI_me_machine_1 hI_a0  ) (fun z14 hz14 => ?_)
              obtain ⟨hz14_0, hz14_1⟩ := hz14
              have hkpz14_me_machine : Kp [] [] [] o_me_machine z14.2 := hkp_me_machine_1.trans (hz14_1.mono (by decide) (by decide) (by decide))
              refine wp_if (fun c15 => ?_) (fun c15 => ?_)
              · refine wp_gd (zin_of (m := (nc_a0 : Int)) rfl c10 (zz_l (zd_e (c := (-1)) hh9 (zl_0 t9nc.2.1) (by decide)))) ?_
                refine wp_gd (zin_of (m := (nc_a0 : Int)) rfl c10 (zz_l (zd_e (c := (-1)) hh9 (zl_0 t9nc.2.1) (by decide)))) ?_
                refine wp_bd (s_X3_worth_O  nc_a0 ns_a0 z14.2 o_a0 (gA o_a0 2 v6_1.toNatClampNeg) (gA o_a0 3 v6_1.toNatClampNeg)  hz14_0 hI_a0  ) (fun z16 hz16 => ?_)
                obtain ⟨hz16_0, hz16_1⟩ := hz16
                have hkpz16_me_machine : Kp [] [] [] o_me_machine z16.2 := hkpz14_me_machine.trans (hz16_1.mono (by decide) (by decide) (by decide))
                refine wp_if (fun c17 => ?_) (fun c17 => ?_)
                · unfold bk_X1_told_O_130
                  refine wp_lt (fun x18 ex18 => ?_)
                  have tx18 : x18.toInt = v6_1.toInt + (-1) := by rw [ex18]; exact i32_add rfl (by decide) (zk_l c10 (by decide)) (zk_u hh8.2 (by decide))
                  exact ih1 v2_1 x18 z16.2 hz16_0 hkpz16_me_machine ⟨(zl_e (zq_r (c := 1) tx18 (by decide)) c10 (by decide)), (zu_e (Int.le_of_eq tx18) hh8.2 (by decide))⟩ (zd_w (zd_e (c := (-2)) (Int.le_of_eq tx18) hh9 (by decide)) (by decide)) (zms_d (c := 0) hN1 (Int.le_of_eq tx18) c10 (by decide))
                · refine wp_some ?_
                  exact (show IvX3 z16.2 ∧ Kp [] [] [] o_me_machine z16.2 from ⟨hz16_0, hkpz16_me_machine⟩)
              · unfold bk_X1_told_O_130
                refine wp_lt (fun x19 ex19 => ?_)
                have tx19 : x19.toInt = v6_1.toInt + (-1) := by rw [ex19]; exact i32_add rfl (by decide) (zk_l c10 (by decide)) (zk_u hh8.2 (by decide))
                exact ih1 v2_1 x19 z14.2 hz14_0 hkpz14_me_machine ⟨(zl_e (zq_r (c := 1) tx19 (by decide)) c10 (by decide)), (zu_e (Int.le_of_eq tx19) hh8.2 (by decide))⟩ (zd_w (zd_e (c := (-2)) (Int.le_of_eq tx19) hh9 (by decide)) (by decide)) (zms_d (c := 0) hN1 (Int.le_of_eq tx19) c10 (by decide))
            · unfold bk_X1_told_O_130
              refine wp_lt (fun x20 ex20 => ?_)
              have tx20 : x20.toInt = v6_1.toInt + (-1) := by rw [ex20]; exact i32_add rfl (by decide) (zk_l c10 (by decide)) (zk_u hh8.2 (by decide))
              exact ih1 v2_1 x20 o_me_machine_1 hI_me_machine_1 hkp_me_machine_1 ⟨(zl_e (zq_r (c := 1) tx20 (by decide)) c10 (by decide)), (zu_e (Int.le_of_eq tx20) hh8.2 (by decide))⟩ (zd_w (zd_e (c := (-2)) (Int.le_of_eq tx20) hh9 (by decide)) (by decide)) (zms_d (c := 0) hN1 (Int.le_of_eq tx20) c10 (by decide))
      exact lp1 zfu p1 x7 z5 hz5_0 hkpz5_me_machine ⟨(zl_e (zd_e (c := 1) (zq_t (c := 1) t6 (by decide)) (zq_0 tx7.symm) (by decide)) t9nc.1 (by decide)), (zu_e (zd_e (c := (-1)) (zd_e (c := (-1)) (zq_0 tx7) (zq_s (c := (-1)) t6 (by decide)) (by decide)) (zl_0 t9nc.2.1) (by decide)) t9nc.2.2 (by decide))⟩ (zd_e (c := (-1)) (zq_0 tx7) (zq_s (c := (-1)) t6 (by decide)) (by decide)) (zme_d (u := 11) (zu_e (k := 11) (zd_e (c := (-1)) (zd_e (c := (-1)) (zq_0 tx7) (zq_s (c := (-1)) t6 (by decide)) (by decide)) (zl_0 t9nc.2.1) (by decide)) t9nc.2.2 (by decide)) (by decide))

set_option maxHeartbeats 4000000 in
set_option maxRecDepth 100000 in
theorem s_X1_isBarred_Q (o_me : Ob) (o_me_isles : Ob) (o_me_isles_now : Ob) (o_me_machine : Ob) (o_pool : List CR) (p0 : Option Nat) (p1 : Int32) (p2 : Int32) (hI_me : IvX1 o_me) (hI_me_isles : IvX2 o_pool o_me_isles) (hI_me_isles_now : IvX4 o_me_isles_now) (hI_me_machine : IvX3 o_me_machine) (hI_pool : PLok o_pool) (po_p0 : zpo o_pool p0 = true) (q0 : 0 ≤ p1.toInt ∧ p1.toInt ≤ 6) (q1 : 0 ≤ p2.toInt ∧ p2.toInt ≤ 3) : wp (f_X1_isBarred_Q   o_me o_me_isles o_me_isles_now o_me_machine o_pool p0 p1 p2) (fun (y : Int32 × Ob) => (0 ≤ y.1.toInt ∧ y.1.toInt ≤ 1) ∧ IvX3 y.2 ∧ Kp [] [] [] o_me_machine y.2) := by
  unfold f_X1_isBarred_Q
  refine wp_bd (Q := fun (z9 : Int64 × Ob) => IvX3 z9.2 ∧ Kp [] [] [] o_me_machine z9.2) (wp_zop po_p0 ⟨(_, o_me_machine), rfl, hI_me_machine, Kp.rf⟩ (fun c9 hc9 => s_X1_told_O c9.2.2.2.1 c9.2.2.2.2.1 o_me o_me_isles o_me_isles_now o_me_machine c9.2.2.2.2.2 (3 : Int32) p1 p2 (-1 : Int32) hI_me hI_me_isles hI_me_isles_now hI_me_machine (hI_pool c9 hc9))) (fun z1 hz1 => ?_)
  obtain ⟨hz1_0, hz1_1⟩ := hz1
  have hkpz1 : Kp [] [] [] o_me_machine z1.2 := Kp.rf.trans (hz1_1.mono (by decide) (by decide) (by decide))
  refine wp_if (fun c2 => ?_) (fun c2 => ?_)
  · refine wp_some ?_
    exact (show (0 ≤ (0 : Int32).toInt ∧ (0 : Int32).toInt ≤ 1) ∧ IvX3 z1.2 ∧ Kp [] [] [] o_me_machine z1.2 from ⟨⟨by decide, by decide⟩, hz1_0, hkpz1⟩)
  · refine wp_some ?_
    exact (show (0 ≤ (1 : Int32).toInt ∧ (1 : Int32).toInt ≤ 1) ∧ IvX3 z1.2 ∧ Kp [] [] [] o_me_machine z1.2 from ⟨⟨by decide, by decide⟩, hz1_0, hkpz1⟩)

set_option maxHeartbeats 4000000 in
set_option maxRecDepth 100000 in
theorem s_X1_nearest (p0 : Int64) (p1 : Int32)  (q0 : 99 ≤ p1.toInt ∧ p1.toInt ≤ 99) : wp (f_X1_nearest   p0 p1) (fun (y : Int32) => (0 ≤ y.toInt ∧ y.toInt ≤ 99)) := by
  unfold f_X1_nearest
  have t1 : p1.toInt64.toInt = p1.toInt := Int32.toInt_toInt64 _
  have rg3 := i64_rg p0
  have t2 : (-9223372036854775808) ≤ (if p1.toInt64 < p0 then p1.toInt64 else p0).toInt ∧ (if p1.toInt64 < p0 then p1.toInt64 else p0).toInt ≤ 99 := z_minl (a := p0.toInt) (b := p1.toInt64.toInt) rfl rfl ⟨rg3.1, (zl_e (zq_0 t1.symm) q0.1 (by decide))⟩ (Or.inr (zu_e (zq_0 t1) q0.2 (by decide)))
  have t4 : 0 ≤ (if (if p1.toInt64 < p0 then p1.toInt64 else p0) < (0 : Int64) then (0 : Int64) else (if p1.toInt64 < p0 then p1.toInt64 else p0)).toInt ∧ (if (if p1.toInt64 < p0 then p1.toInt64 else p0) < (0 : Int64) then (0 : Int64) else (if p1.toInt64 < p0 then p1.toInt64 else p0)).toInt ≤ 99 := z_maxl (a := 0) (b := (if p1.toInt64 < p0 then p1.toInt64 else p0).toInt) (by decide) rfl (Or.inl (by decide)) ⟨(by decide), t2.2⟩
  have t5 : ((if (if p1.toInt64 < p0 then p1.toInt64 else p0) < (0 : Int64) then (0 : Int64) else (if p1.toInt64 < p0 then p1.toInt64 else p0)).toInt32).toInt = (if (if p1.toInt64 < p0 then p1.toInt64 else p0) < (0 : Int64) then (0 : Int64) else (if p1.toInt64 < p0 then p1.toInt64 else p0)).toInt := l2i_eq (Int.le_trans (by decide) t4.1) (Int.le_trans t4.2 (by decide))
  refine wp_some ?_
  exact (show (0 ≤ ((if (if p1.toInt64 < p0 then p1.toInt64 else p0) < (0 : Int64) then (0 : Int64) else (if p1.toInt64 < p0 then p1.toInt64 else p0)).toInt32).toInt ∧ ((if (if p1.toInt64 < p0 then p1.toInt64 else p0) < (0 : Int64) then (0 : Int64) else (if p1.toInt64 < p0 then p1.toInt64 else p0)).toInt32).toInt ≤ 99) from ⟨(zl_e (zq_0 t5.symm) t4.1 (by decide)), (zu_e (zq_0 t5) t4.2 (by decide))⟩)

set_option maxHeartbeats 4000000 in
set_option maxRecDepth 100000 in
theorem s_X1_runsBy_Q (o_me : Ob) (o_me_isles : Ob) (o_me_isles_now : Ob) (o_me_machine : Ob) (o_pool : List CR) (p0 : Option Nat) (p1 : Int32) (p2 : Int32) (hI_me : IvX1 o_me) (hI_me_isles : IvX2 o_pool o_me_isles) (hI_me_isles_now : IvX4 o_me_isles_now) (hI_me_machine : IvX3 o_me_machine) (hI_pool : PLok o_pool) (po_p0 : zpo o_pool p0 = true) (q0 : 0 ≤ p1.toInt ∧ p1.toInt ≤ 6) (q1 : 0 ≤ p2.toInt ∧ p2.toInt ≤ 3) : wp (f_X1_runsBy_Q   o_me o_me_isles o_me_isles_now o_me_machine o_pool p0 p1 p2) (fun (y : Int32 × Ob) => IvX3 y.2 ∧ Kp [] [] [] o_me_machine y.2) := by
  unfold f_X1_runsBy_Q
  refine wp_bd (Q := fun (z9 : Int64 × Ob) => IvX3 z9.2 ∧ Kp [] [] [] o_me_machine z9.2) (wp_zop po_p0 ⟨(_, o_me_machine), rfl, hI_me_machine, Kp.rf⟩ (fun c9 hc9 => s_X1_told_O c9.2.2.2.1 c9.2.2.2.2.1 o_me o_me_isles o_me_isles_now o_me_machine c9.2.2.2.2.2 (0 : Int32) p1 p2 (-1 : Int32) hI_me hI_me_isles hI_me_isles_now hI_me_machine (hI_pool c9 hc9))) (fun z1 hz1 => ?_)
  obtain ⟨hz1_0, hz1_1⟩ := hz1
  have hkpz1 : Kp [] [] [] o_me_machine z1.2 := Kp.rf.trans (hz1_1.mono (by decide) (by decide) (by decide))
  refine wp_if (fun c2 => ?_) (fun c2 => ?_)
  · have t3 : (p1 * (4 : Int32)).toInt = p1.toInt * 4 := i32_mul rfl (by decide) (zr_l q0.1 (by decide) (by decide)) (zr_u q0.2 (by decide) (by decide))
    have t4 : ((p1 * (4 : Int32)) + p2).toInt = (p1 * (4 : Int32)).toInt + p2.toInt := i32_add rfl rfl (zk_ll (zrq_l (c := 0) t3 q0.1 (by decide) (by decide)) q1.1 (by decide)) (zk_uu (zrq_u (c := 24) t3 q0.2 (by decide) (by decide)) q1.2 (by decide))
    refine wp_gd (zin_of (m := 28) rfl (zaq_l (c := 0) t4 (zrq_l (c := 0) t3 q0.1 (by decide) (by decide)) q1.1 (by decide)) (zlt_m (c := 27) (zaq_u (c := 27) t4 (zrq_u (c := 24) t3 q0.2 (by decide) (by decide)) q1.2 (by decide)) (by decide))) ?_
    refine wp_some ?_
    exact (show IvX3 z1.2 ∧ Kp [] [] [] o_me_machine z1.2 from ⟨hz1_0, hkpz1⟩)
  · refine wp_bd (s_X1_nearest   z1.1 (99 : Int32)    ⟨by decide, by decide⟩) (fun z5 hz5 => ?_)
    refine wp_some ?_
    exact (show IvX3 z1.2 ∧ Kp [] [] [] o_me_machine z1.2 from ⟨hz1_0, hkpz1⟩)

set_option maxHeartbeats 4000000 in
set_option maxRecDepth 100000 in
theorem s_X7_setScores (o_me : Ob) (o_me_court : Ob) (o_me_court_isles : Ob) (o_me_court_isles_now : Ob) (o_me_court_machine : Ob) (o_pool : List CR) (p0 : Int32) (hI_me : IvX7 o_me) (hI_me_court : IvX1 o_me_court) (hI_me_court_isles : IvX2 o_pool o_me_court_isles) (hI_me_court_isles_now : IvX4 o_me_court_isles_now) (hI_me_court_machine : IvX3 o_me_court_machine) (hI_pool : PLok o_pool) (q0 : 0 ≤ p0.toInt ∧ p0.toInt ≤ 3) : wp (f_X7_setScores   o_me o_me_court o_me_court_isles o_me_court_isles_now o_me_court_machine o_pool p0) (fun (y : Ob × Ob) => IvX7 y.1 ∧ Kp [] [2, 3] [] o_me y.1 ∧ IvX3 y.2 ∧ Kp [] [] [] o_me_court_machine y.2) := by
  unfold f_X7_setScores
  refine wp_bd (s_X2_lawInForce   o_me_court_isles  hI_me_court_isles  ) (fun z1 hz1 => ?_)
  have hz1_0 := hz1
  have lp1 : ∀ (N1 : Nat) (v1_1 : Int32) (v2_1 : Option Nat) (v3_1 : Int32) (o_me_1 : Ob) (o_me_court_machine_1 : Ob), IvX7 o_me_1 → Kp [] [2, 3] [] o_me o_me_1 → IvX3 o_me_court_machine_1 → Kp [] [] [] o_me_court_machine o_me_court_machine_1 → zpo o_pool v2_1 = true → (0 ≤ v1_1.toInt ∧ v1_1.toInt ≤ 3) → (0 ≤ v3_1.toInt ∧ v3_1.toInt ≤ 7) → (7 - v3_1.toInt).toNat < N1 → wp (lp_X7_setScores_10 o_me_court o_me_court_isles o_me_court_isles_now o_pool  N1 (v1_1, v2_1, v3_1, o_me_1, o_me_court_machine_1)) (fun (y : Ob × Ob) => IvX7 y.1 ∧ Kp [] [2, 3] [] o_me y.1 ∧ IvX3 y.2 ∧ Kp [] [] [] o_me_court_machine y.2) := by
    intro N1
    induction N1 with
    | zero =>
      intro v1_1 v2_1 v3_1 o_me_1 o_me_court_machine_1 hI_me_1 hkp_me_1 hI_me_court_machine_1 hkp_me_court_machine_1 po_v2_1 hh2 hh3 hN1
      exact absurd hN1 (Nat.not_lt_zero _)
    | succ N1 ihx =>
      have ih1 := ihx
      intro v1_1 v2_1 v3_1 o_me_1 o_me_court_machine_1 hI_me_1 hkp_me_1 hI_me_court_machine_1 hkp_me_court_machine_1 po_v2_1 hh2 hh3 hN1
      show wp (lb_X7_setScores_10 o_me_court o_me_court_isles o_me_court_isles_now o_pool  (lp_X7_setScores_10 o_me_court o_me_court_isles o_me_court_isles_now o_pool  N1) v1_1 v2_1 v3_1 o_me_1 o_me_court_machine_1) (fun (y : Ob × Ob) => IvX7 y.1 ∧ Kp [] [2, 3] [] o_me y.1 ∧ IvX3 y.2 ∧ Kp [] [] [] o_me_court_machine y.2)
      unfold lb_X7_setScores_10
      have t4 := igX2_7 hI_me_court_isles
      refine wp_if (fun c5 => ?_) (fun c5 => ?_)
      · have c5 := cv_ge (a := v3_1.toInt) (b := (gI o_me_court_isles 7).toInt) rfl rfl c5
        refine wp_some ?_
        exact (show IvX7 o_me_1 ∧ Kp [] [2, 3] [] o_me o_me_1 ∧ IvX3 o_me_court_machine_1 ∧ Kp [] [] [] o_me_court_machine o_me_court_machine_1 from ⟨hI_me_1, hkp_me_1, hI_me_court_machine_1, hkp_me_court_machine_1⟩)
      · have c5 := cv_nge (a := v3_1.toInt) (b := (gI o_me_court_isles 7).toInt) rfl rfl c5
        have t6 : (v1_1 * (7 : Int32)).toInt = v1_1.toInt * 7 := i32_mul rfl (by decide) (zr_l hh2.1 (by decide) (by decide)) (zr_u hh2.2 (by decide) (by decide))
        have t7 : ((v1_1 * (7 : Int32)) + v3_1).toInt = (v1_1 * (7 : Int32)).toInt + v3_1.toInt := i32_add rfl rfl (zk_ll (zrq_l (c := 0) t6 hh2.1 (by decide) (by decide)) hh3.1 (by decide)) (zk_uu (zrq_u (c := 21) t6 hh2.2 (by decide) (by decide)) (zu_e (k := 6) (zl_d c5) t4.2 (by decide)) (by decide))
        refine wp_bd (s_X1_isBarred_Q   o_me_court o_me_court_isles o_me_court_isles_now o_me_court_machine_1 o_pool v2_1 v3_1 v1_1  hI_me_court hI_me_court_isles hI_me_court_isles_now hI_me_court_machine_1 hI_pool po_v2_1 ⟨hh3.1, (zu_e (zl_d c5) t4.2 (by decide))⟩ ⟨hh2.1, hh2.2⟩) (fun z8 hz8 => ?_)
        obtain ⟨hz8_0, hz8_1, hz8_2⟩ := hz8
        have hkpz8_me_court_machine : Kp [] [] [] o_me_court_machine z8.2 := hkp_me_court_machine_1.trans (hz8_2.mono (by decide) (by decide) (by decide))
        refine wp_if (fun c9 => ?_) (fun c9 => ?_)
        · refine wp_bd (s_X1_runsBy_Q   o_me_court o_me_court_isles o_me_court_isles_now z8.2 o_pool v2_1 v3_1 v1_1  hI_me_court hI_me_court_isles hI_me_court_isles_now hz8_1 hI_pool po_v2_1 ⟨hh3.1, (zu_e (zl_d c5) t4.2 (by decide))⟩ ⟨hh2.1, hh2.2⟩) (fun z10 hz10 => ?_)
          obtain ⟨hz10_0, hz10_1⟩ := hz10
          have hkpz10_me_court_machine : Kp [] [] [] o_me_court_machine z10.2 := hkpz8_me_court_machine.trans (hz10_1.mono (by decide) (by decide) (by decide))
          obtain ⟨w11, ew11⟩ : ∃ z : Int32, z = (v1_1 * (7 : Int32)) + v3_1 := ⟨_, rfl⟩
          have tw11 : w11.toInt = ((v1_1 * (7 : Int32)) + v3_1).toInt := by rw [ew11]
          rw [show bk_X7_setScores_58 o_me_court o_me_court_isles o_me_court_isles_now o_pool (lp_X7_setScores_10 o_me_court o_me_court_isles o_me_court_isles_now o_pool  N1) v1_1 v2_1 v3_1 z10.1 ((v1_1 * (7 : Int32)) + v3_1) o_me_1 z10.2 = bk_X7_setScores_58 o_me_court o_me_court_isles o_me_court_isles_now o_pool (lp_X7_setScores_10 o_me_court o_me_court_isles o_me_court_isles_now o_pool  N1) v1_1 v2_1 v3_1 z10.1 w11 o_me_1 z10.2 from by rw [ew11]]
          unfold bk_X7_setScores_58
          refine wp_gd (zin_of (m := 28) rfl (zl_e (zq_0 tw11.symm) (zaq_l (c := 0) t7 (zrq_l (c := 0) t6 hh2.1 (by decide) (by decide)) hh3.1 (by decide)) (by decide)) (zlt_m (c := 27) (zu_e (zq_0 tw11) (zaq_u (c := 27) t7 (zrq_u (c := 21) t6 hh2.2 (by decide) (by decide)) (zu_e (k := 6) (zl_d c5) t4.2 (by decide)) (by decide)) (by decide)) (by decide))) ?_
          refine wp_lt (fun o12 eo12 => ?_)
          have hIo12 : IvX7 o12 := by rw [eo12]; exact hI_me_1
          have hkpo12 : Kp [] [2, 3] [] o_me o12 := hkp_me_1.trans (by rw [eo12]; exact Kp.tA (by decide) (by decide))
          refine wp_lt (fun x13 ex13 => ?_)
          have tx13 : x13.toInt = v3_1.toInt + 1 := by rw [ex13]; exact i32_add rfl (by decide) (zk_l hh3.1 (by decide)) (zk_u (zu_e (k := 6) (zl_d c5) t4.2 (by decide)) (by decide))
          exact ih1 v1_1 v2_1 x13 o12 z10.2 hIo12 hkpo12 hz10_0 hkpz10_me_court_machine po_v2_1 ⟨hh2.1, hh2.2⟩ ⟨(zl_e (zq_r (c := (-1)) tx13 (by decide)) hh3.1 (by decide)), (zu_e (zd_e (c := 0) (Int.le_of_eq tx13) (zl_d c5) (by decide)) t4.2 (by decide))⟩ (zms_u (c := 6) hN1 (zq_r (c := (-1)) tx13 (by decide)) (zu_e (zl_d c5) t4.2 (by decide)) (by decide))
        · obtain ⟨w14, ew14⟩ : ∃ z : Int32, z = (-1 : Int32) := ⟨_, rfl⟩
          obtain ⟨w15, ew15⟩ : ∃ z : Int32, z = (v1_1 * (7 : Int32)) + v3_1 := ⟨_, rfl⟩
          have tw15 : w15.toInt = ((v1_1 * (7 : Int32)) + v3_1).toInt := by rw [ew15]
          rw [show bk_X7_setScores_58 o_me_court o_me_court_isles o_me_court_isles_now o_pool (lp_X7_setScores_10 o_me_court o_me_court_isles o_me_court_isles_now o_pool  N1) v1_1 v2_1 v3_1 (-1 : Int32) ((v1_1 * (7 : Int32)) + v3_1) o_me_1 z8.2 = bk_X7_setScores_58 o_me_court o_me_court_isles o_me_court_isles_now o_pool (lp_X7_setScores_10 o_me_court o_me_court_isles o_me_court_isles_now o_pool  N1) v1_1 v2_1 v3_1 w14 w15 o_me_1 z8.2 from by rw [ew14, ew15]]
          unfold bk_X7_setScores_58
          refine wp_gd (zin_of (m := 28) rfl (zl_e (zq_0 tw15.symm) (zaq_l (c := 0) t7 (zrq_l (c := 0) t6 hh2.1 (by decide) (by decide)) hh3.1 (by decide)) (by decide)) (zlt_m (c := 27) (zu_e (zq_0 tw15) (zaq_u (c := 27) t7 (zrq_u (c := 21) t6 hh2.2 (by decide) (by decide)) (zu_e (k := 6) (zl_d c5) t4.2 (by decide)) (by decide)) (by decide)) (by decide))) ?_
          refine wp_lt (fun o16 eo16 => ?_)
          have hIo16 : IvX7 o16 := by rw [eo16]; exact hI_me_1
          have hkpo16 : Kp [] [2, 3] [] o_me o16 := hkp_me_1.trans (by rw [eo16]; exact Kp.tA (by decide) (by decide))
          refine wp_lt (fun x17 ex17 => ?_)
          have tx17 : x17.toInt = v3_1.toInt + 1 := by rw [ex17]; exact i32_add rfl (by decide) (zk_l hh3.1 (by decide)) (zk_u (zu_e (k := 6) (zl_d c5) t4.2 (by decide)) (by decide))
          exact ih1 v1_1 v2_1 x17 o16 z8.2 hIo16 hkpo16 hz8_1 hkpz8_me_court_machine po_v2_1 ⟨hh2.1, hh2.2⟩ ⟨(zl_e (zq_r (c := (-1)) tx17 (by decide)) hh3.1 (by decide)), (zu_e (zd_e (c := 0) (Int.le_of_eq tx17) (zl_d c5) (by decide)) t4.2 (by decide))⟩ (zms_u (c := 6) hN1 (zq_r (c := (-1)) tx17 (by decide)) (zu_e (zl_d c5) t4.2 (by decide)) (by decide))
  exact lp1 zfu p0 z1 (0 : Int32) o_me o_me_court_machine hI_me Kp.rf hI_me_court_machine Kp.rf hz1_0 ⟨q0.1, q0.2⟩ ⟨by decide, by decide⟩ (zme_u (l := 0) (Int.le_of_eq tz0.symm) (by decide))

set_option maxHeartbeats 4000000 in
set_option maxRecDepth 100000 in
theorem s_X7_aheadOf {pl : List CR} (o_me : Ob) (o_me_court_isles : Ob) (p0 : Int32) (p1 : Int32) (hI_me : IvX7 o_me) (hI_me_court_isles : IvX2 pl o_me_court_isles) (q0 : 0 ≤ p0.toInt ∧ p0.toInt ≤ 6) (q1 : 0 ≤ p1.toInt ∧ p1.toInt ≤ 3) : wp (f_X7_aheadOf   o_me o_me_court_isles p0 p1) (fun (y : Int32) => (0 ≤ y.toInt ∧ y.toInt ≤ 127)) := by
  unfold f_X7_aheadOf
  have t1 : (p1 * (7 : Int32)).toInt = p1.toInt * 7 := i32_mul rfl (by decide) (zr_l q1.1 (by decide) (by decide)) (zr_u q1.2 (by decide) (by decide))
  have t2 : ((p1 * (7 : Int32)) + p0).toInt = (p1 * (7 : Int32)).toInt + p0.toInt := i32_add rfl rfl (zk_ll (zrq_l (c := 0) t1 q1.1 (by decide) (by decide)) q0.1 (by decide)) (zk_uu (zrq_u (c := 21) t1 q1.2 (by decide) (by decide)) q0.2 (by decide))
  refine wp_gd (zin_of (m := 28) rfl (zaq_l (c := 0) t2 (zrq_l (c := 0) t1 q1.1 (by decide) (by decide)) q0.1 (by decide)) (zlt_m (c := 27) (zaq_u (c := 27) t2 (zrq_u (c := 21) t1 q1.2 (by decide) (by decide)) q0.2 (by decide)) (by decide))) ?_
  refine wp_lt (fun x3 ex3 => ?_)
  have lp1 : ∀ (N1 : Nat) (v1_1 : Int32) (v2_1 : Int32) (v3_1 : Int32) (v4_1 : Int32) (v5_1 : Int32), (0 ≤ v2_1.toInt ∧ v2_1.toInt ≤ 3) → (0 ≤ v4_1.toInt ∧ v4_1.toInt ≤ 127) → (0 ≤ v5_1.toInt ∧ v5_1.toInt ≤ 7) → (7 - v5_1.toInt).toNat < N1 → wp (lp_X7_aheadOf_18 o_me o_me_court_isles  N1 (v1_1, v2_1, v3_1, v4_1, v5_1)) (fun (y : Int32) => (0 ≤ y.toInt ∧ y.toInt ≤ 127)) := by
    intro N1
    induction N1 with
    | zero =>
      intro v1_1 v2_1 v3_1 v4_1 v5_1 hh4 hh5 hh6 hN1
      exact absurd hN1 (Nat.not_lt_zero _)
    | succ N1 ihx =>
      have ih1 := ihx
      intro v1_1 v2_1 v3_1 v4_1 v5_1 hh4 hh5 hh6 hN1
      show wp (lb_X7_aheadOf_18 o_me o_me_court_isles  (lp_X7_aheadOf_18 o_me o_me_court_isles  N1) v1_1 v2_1 v3_1 v4_1 v5_1) (fun (y : Int32) => (0 ≤ y.toInt ∧ y.toInt ≤ 127))
      unfold lb_X7_aheadOf_18
      have t7 := igX2_7 hI_me_court_isles
      refine wp_if (fun c8 => ?_) (fun c8 => ?_)
      · have c8 := cv_ge (a := v5_1.toInt) (b := (gI o_me_court_isles 7).toInt) rfl rfl c8
        refine wp_some ?_
        exact (show (0 ≤ v4_1.toInt ∧ v4_1.toInt ≤ 127) from ⟨hh5.1, hh5.2⟩)
      · have c8 := cv_nge (a := v5_1.toInt) (b := (gI o_me_court_isles 7).toInt) rfl rfl c8
        have t9 : (v2_1 * (7 : Int32)).toInt = v2_1.toInt * 7 := i32_mul rfl (by decide) (zr_l hh4.1 (by decide) (by decide)) (zr_u hh4.2 (by decide) (by decide))
        have t10 : ((v2_1 * (7 : Int32)) + v5_1).toInt = (v2_1 * (7 : Int32)).toInt + v5_1.toInt := i32_add rfl rfl (zk_ll (zrq_l (c := 0) t9 hh4.1 (by decide) (by decide)) hh6.1 (by decide)) (zk_uu (zrq_u (c := 21) t9 hh4.2 (by decide) (by decide)) (zu_e (k := 6) (zl_d c8) t7.2 (by decide)) (by decide))
        refine wp_gd (zin_of (m := 28) rfl (zaq_l (c := 0) t10 (zrq_l (c := 0) t9 hh4.1 (by decide) (by decide)) hh6.1 (by decide)) (zlt_m (c := 27) (zaq_u (c := 27) t10 (zrq_u (c := 21) t9 hh4.2 (by decide) (by decide)) (zu_e (k := 6) (zl_d c8) t7.2 (by decide)) (by decide)) (by decide))) ?_
        refine wp_lt (fun x11 ex11 => ?_)
        refine wp_if (fun c12 => ?_) (fun c12 => ?_)
        · unfold bk_X7_aheadOf_77
          refine wp_lt (fun x13 ex13 => ?_)
          have tx13 : x13.toInt = v5_1.toInt + 1 := by rw [ex13]; exact i32_add rfl (by decide) (zk_l hh6.1 (by decide)) (zk_u (zu_e (k := 6) (zl_d c8) t7.2 (by decide)) (by decide))
          exact ih1 v1_1 v2_1 v3_1 v4_1 x13  ⟨hh4.1, hh4.2⟩ ⟨hh5.1, hh5.2⟩ ⟨(zl_e (zq_r (c := (-1)) tx13 (by decide)) hh6.1 (by decide)), (zu_e (zd_e (c := 0) (Int.le_of_eq tx13) (zl_d c8) (by decide)) t7.2 (by decide))⟩ (zms_u (c := 6) hN1 (zq_r (c := (-1)) tx13 (by decide)) (zu_e (zl_d c8) t7.2 (by decide)) (by decide))
        · refine wp_if (fun c14 => ?_) (fun c14 => ?_)
          · unfold bk_X7_aheadOf_68
            have t17 : 1 ≤ ((1 : Int32) <<< (v5_1 &&& 31)).toInt ∧ ((1 : Int32) <<< (v5_1 &&& 31)).toInt ≤ 64 := i32_shl6 (p := v5_1) hh6.1 (zu_e (zl_d c8) t7.2 (by decide))
            have t18 := i32_or7 (x := v4_1) (y := (1 : Int32) <<< (v5_1 &&& 31)) ⟨hh5.1, hh5.2⟩ ⟨(Int.le_trans (by decide) t17.1), (Int.le_trans t17.2 (by decide))⟩
            refine wp_lt (fun x19 ex19 => ?_)
            have tx19 : x19.toInt = (v4_1 ||| ((1 : Int32) <<< (v5_1 &&& 31))).toInt := by rw [ex19]
            unfold bk_X7_aheadOf_77
            refine wp_lt (fun x20 ex20 => ?_)
            have tx20 : x20.toInt = v5_1.toInt + 1 := by rw [ex20]; exact i32_add rfl (by decide) (zk_l hh6.1 (by decide)) (zk_u (zu_e (k := 6) (zl_d c8) t7.2 (by decide)) (by decide))
            exact ih1 v1_1 v2_1 v3_1 x19 x20  ⟨hh4.1, hh4.2⟩ ⟨(zl_e (zq_0 tx19.symm) t18.1 (by decide)), (zu_e (zq_0 tx19) t18.2 (by decide))⟩ ⟨(zl_e (zq_r (c := (-1)) tx20 (by decide)) hh6.1 (by decide)), (zu_e (zd_e (c := 0) (Int.le_of_eq tx20) (zl_d c8) (by decide)) t7.2 (by decide))⟩ (zms_u (c := 6) hN1 (zq_r (c := (-1)) tx20 (by decide)) (zu_e (zl_d c8) t7.2 (by decide)) (by decide))
          · refine wp_if (fun c21 => ?_) (fun c21 => ?_)
            · refine wp_if (fun c22 => ?_) (fun c22 => ?_)
              · unfold bk_X7_aheadOf_77
                refine wp_lt (fun x24 ex24 => ?_)
                have tx24 : x24.toInt = v5_1.toInt + 1 := by rw [ex24]; exact i32_add rfl (by decide) (zk_l hh6.1 (by decide)) (zk_u (zu_e (k := 6) (zl_d c8) t7.2 (by decide)) (by decide))
                exact ih1 v1_1 v2_1 v3_1 v4_1 x24  ⟨hh4.1, hh4.2⟩ ⟨hh5.1, hh5.2⟩ ⟨(zl_e (zq_r (c := (-1)) tx24 (by decide)) hh6.1 (by decide)), (zu_e (zd_e (c := 0) (Int.le_of_eq tx24) (zl_d c8) (by decide)) t7.2 (by decide))⟩ (zms_u (c := 6) hN1 (zq_r (c := (-1)) tx24 (by decide)) (zu_e (zl_d c8) t7.2 (by decide)) (by decide))
              · unfold bk_X7_aheadOf_68
                have t25 : 1 ≤ ((1 : Int32) <<< (v5_1 &&& 31)).toInt ∧ ((1 : Int32) <<< (v5_1 &&& 31)).toInt ≤ 64 := i32_shl6 (p := v5_1) hh6.1 (zu_e (zl_d c8) t7.2 (by decide))
                have t26 := i32_or7 (x := v4_1) (y := (1 : Int32) <<< (v5_1 &&& 31)) ⟨hh5.1, hh5.2⟩ ⟨(Int.le_trans (by decide) t25.1), (Int.le_trans t25.2 (by decide))⟩
                refine wp_lt (fun x27 ex27 => ?_)
                have tx27 : x27.toInt = (v4_1 ||| ((1 : Int32) <<< (v5_1 &&& 31))).toInt := by rw [ex27]
                unfold bk_X7_aheadOf_77
                refine wp_lt (fun x28 ex28 => ?_)
                have tx28 : x28.toInt = v5_1.toInt + 1 := by rw [ex28]; exact i32_add rfl (by decide) (zk_l hh6.1 (by decide)) (zk_u (zu_e (k := 6) (zl_d c8) t7.2 (by decide)) (by decide))
                exact ih1 v1_1 v2_1 v3_1 x27 x28  ⟨hh4.1, hh4.2⟩ ⟨(zl_e (zq_0 tx27.symm) t26.1 (by decide)), (zu_e (zq_0 tx27) t26.2 (by decide))⟩ ⟨(zl_e (zq_r (c := (-1)) tx28 (by decide)) hh6.1 (by decide)), (zu_e (zd_e (c := 0) (Int.le_of_eq tx28) (zl_d c8) (by decide)) t7.2 (by decide))⟩ (zms_u (c := 6) hN1 (zq_r (c := (-1)) tx28 (by decide)) (zu_e (zl_d c8) t7.2 (by decide)) (by decide))
            · unfold bk_X7_aheadOf_77
              refine wp_lt (fun x29 ex29 => ?_)
              have tx29 : x29.toInt = v5_1.toInt + 1 := by rw [ex29]; exact i32_add rfl (by decide) (zk_l hh6.1 (by decide)) (zk_u (zu_e (k := 6) (zl_d c8) t7.2 (by decide)) (by decide))
              exact ih1 v1_1 v2_1 v3_1 v4_1 x29  ⟨hh4.1, hh4.2⟩ ⟨hh5.1, hh5.2⟩ ⟨(zl_e (zq_r (c := (-1)) tx29 (by decide)) hh6.1 (by decide)), (zu_e (zd_e (c := 0) (Int.le_of_eq tx29) (zl_d c8) (by decide)) t7.2 (by decide))⟩ (zms_u (c := 6) hN1 (zq_r (c := (-1)) tx29 (by decide)) (zu_e (zl_d c8) t7.2 (by decide)) (by decide))
  exact lp1 zfu p0 p1 x3 (0 : Int32) (0 : Int32)  ⟨q1.1, q1.2⟩ ⟨by decide, by decide⟩ ⟨by decide, by decide⟩ (zme_u (l := 0) (Int.le_of_eq tz0.symm) (by decide))

set_option maxHeartbeats 4000000 in
set_option maxRecDepth 100000 in
theorem s_J6_bitCount_0f7a4 (p0 : Int32)   : wp (f_J6_bitCount_0f7a4   p0) (fun (y : Int32) => (0 ≤ y.toInt ∧ y.toInt ≤ 63)) := by
  unfold f_J6_bitCount_0f7a4
  refine wp_lt (fun x2 ex2 => ?_)
  refine wp_lt (fun x6 ex6 => ?_)
  refine wp_lt (fun x8 ex8 => ?_)
  refine wp_lt (fun x9 ex9 => ?_)
  refine wp_lt (fun x10 ex10 => ?_)
  have t11 := i32_and (x := x10) (y := (63 : Int32)) (m := 63) ⟨by decide, by decide⟩
  refine wp_some ?_
  exact (show (0 ≤ (x10 &&& (63 : Int32)).toInt ∧ (x10 &&& (63 : Int32)).toInt ≤ 63) from ⟨t11.1, t11.2⟩)

set_option maxHeartbeats 4000000 in
set_option maxRecDepth 100000 in
theorem s_X7_lowestBits (p0 : Int32) (p1 : Int32)  (q0 : (-64) ≤ p1.toInt ∧ p1.toInt ≤ 64) : wp (f_X7_lowestBits   p0 p1) (fun (y : Int32) => True) := by
  unfold f_X7_lowestBits
  have lp1 : ∀ (N1 : Nat) (v1_1 : Int32) (v2_1 : Int32) (v3_1 : Int32) (v4_1 : Int32), ((-64) ≤ v1_1.toInt ∧ v1_1.toInt ≤ 64) → (0 ≤ v4_1.toInt ∧ v4_1.toInt ≤ 64) → (64 - v4_1.toInt).toNat < N1 → wp (lp_X7_lowestBits_7   N1 (v1_1, v2_1, v3_1, v4_1)) (fun (y : Int32) => True) := by
    intro N1
    induction N1 with
    | zero =>
      intro v1_1 v2_1 v3_1 v4_1 hh1 hh2 hN1
      exact absurd hN1 (Nat.not_lt_zero _)
    | succ N1 ihx =>
      have ih1 := ihx
      intro v1_1 v2_1 v3_1 v4_1 hh1 hh2 hN1
      show wp (lb_X7_lowestBits_7   (lp_X7_lowestBits_7   N1) v1_1 v2_1 v3_1 v4_1) (fun (y : Int32) => True)
      unfold lb_X7_lowestBits_7
      refine wp_if (fun c3 => ?_) (fun c3 => ?_)
      · have c3 := cv_ge (a := v4_1.toInt) (b := v1_1.toInt) rfl rfl c3
        refine wp_some ?_
        exact trivial
      · have c3 := cv_nge (a := v4_1.toInt) (b := v1_1.toInt) rfl rfl c3
        refine wp_if (fun c4 => ?_) (fun c4 => ?_)
        · refine wp_some ?_
          exact trivial
        · refine wp_lt (fun x5 ex5 => ?_)
          refine wp_lt (fun x8 ex8 => ?_)
          refine wp_lt (fun x9 ex9 => ?_)
          have tx9 : x9.toInt = v4_1.toInt + 1 := by rw [ex9]; exact i32_add rfl (by decide) (zk_l hh2.1 (by decide)) (zk_u (zu_e (k := 63) (zl_d c3) hh1.2 (by decide)) (by decide))
          exact ih1 v1_1 x5 x8 x9  ⟨hh1.1, hh1.2⟩ ⟨(zl_e (zq_r (c := (-1)) tx9 (by decide)) hh2.1 (by decide)), (zu_e (zd_e (c := 0) (Int.le_of_eq tx9) (zl_d c3) (by decide)) hh1.2 (by decide))⟩ (zms_u (c := 63) hN1 (zq_r (c := (-1)) tx9 (by decide)) (zu_e (zl_d c3) hh1.2 (by decide)) (by decide))
  exact lp1 zfu p1 (0 : Int32) p0 (0 : Int32)  ⟨q0.1, q0.2⟩ ⟨by decide, by decide⟩ (zme_u (l := 0) (Int.le_of_eq tz0.symm) (by decide))

set_option maxHeartbeats 4000000 in
set_option maxRecDepth 100000 in
theorem s_X7_changedEntries (o_me : Ob) (o_me_court : Ob) (o_me_court_isles : Ob) (o_me_court_isles_now : Ob) (o_me_court_machine : Ob) (o_pool : List CR) (p0 : Int32) (p1 : Int32) (p2 : Int32) (hI_me : IvX7 o_me) (hI_me_court : IvX1 o_me_court) (hI_me_court_isles : IvX2 o_pool o_me_court_isles) (hI_me_court_isles_now : IvX4 o_me_court_isles_now) (hI_me_court_machine : IvX3 o_me_court_machine) (hI_pool : PLok o_pool) (q0 : 0 ≤ p0.toInt ∧ p0.toInt ≤ 6) (q1 : 0 ≤ p1.toInt ∧ p1.toInt ≤ 3) (q2 : 1 ≤ p2.toInt ∧ p2.toInt ≤ 7) : wp (f_X7_changedEntries   o_me o_me_court o_me_court_isles o_me_court_isles_now o_me_court_machine o_pool p0 p1 p2) (fun (y : Int32 × Ob × Ob) => IvX7 y.2.1 ∧ Kp [] [2, 3] [] o_me y.2.1 ∧ IvX3 y.2.2 ∧ Kp [] [] [] o_me_court_machine y.2.2) := by
  have li0 : (-1 : Int32).toInt = (-1) := by decide
  have li1 : (1 : Int32).toInt = 1 := by decide
  have li2 : (7 : Int32).toInt = 7 := by decide
  unfold f_X7_changedEntries
  refine wp_bd (s_X7_setScores   o_me o_me_court o_me_court_isles o_me_court_isles_now o_me_court_machine o_pool p1  hI_me hI_me_court hI_me_court_isles hI_me_court_isles_now hI_me_court_machine hI_pool  ⟨q1.1, q1.2⟩) (fun z1 hz1 => ?_)
  obtain ⟨hz1_0, hz1_1, hz1_2, hz1_3⟩ := hz1
  have hkpz1_me : Kp [] [2, 3] [] o_me z1.1 := Kp.rf.trans (hz1_1.mono (by decide) (by decide) (by decide))
  have hkpz1_me_court_machine : Kp [] [] [] o_me_court_machine z1.2 := Kp.rf.trans (hz1_3.mono (by decide) (by decide) (by decide))
  have t2 : (p1 * (7 : Int32)).toInt = p1.toInt * 7 := i32_mul rfl (by decide) (zr_l q1.1 (by decide) (by decide)) (zr_u q1.2 (by decide) (by decide))
  have t3 : ((p1 * (7 : Int32)) + p0).toInt = (p1 * (7 : Int32)).toInt + p0.toInt := i32_add rfl rfl (zk_ll (zrq_l (c := 0) t2 q1.1 (by decide) (by decide)) q0.1 (by decide)) (zk_uu (zrq_u (c := 21) t2 q1.2 (by decide) (by decide)) q0.2 (by decide))
  refine wp_gd (zin_of (m := 28) rfl (zaq_l (c := 0) t3 (zrq_l (c := 0) t2 q1.1 (by decide) (by decide)) q0.1 (by decide)) (zlt_m (c := 27) (zaq_u (c := 27) t3 (zrq_u (c := 21) t2 q1.2 (by decide) (by decide)) q0.2 (by decide)) (by decide))) ?_
  refine wp_if (fun c4 => ?_) (fun c4 => ?_)
  · have c4 := cv_eq (a := (gA z1.1 5 ((p1 * (7 : Int32)) + p0).toNatClampNeg).toInt) (b := (-1)) rfl (by decide) c4
    refine wp_some ?_
    exact (show IvX7 z1.1 ∧ Kp [] [2, 3] [] o_me z1.1 ∧ IvX3 z1.2 ∧ Kp [] [] [] o_me_court_machine z1.2 from ⟨hz1_0, hkpz1_me, hz1_2, hkpz1_me_court_machine⟩)
  · have c4 := cv_ne (a := (gA z1.1 5 ((p1 * (7 : Int32)) + p0).toNatClampNeg).toInt) (b := (-1)) rfl (by decide) c4
    refine wp_bd (s_X7_aheadOf   z1.1 o_me_court_isles p0 p1  hz1_0 hI_me_court_isles  ⟨q0.1, q0.2⟩ ⟨q1.1, q1.2⟩) (fun z5 hz5 => ?_)
    have hz5_0 := hz5
    refine wp_lt (fun x6 ex6 => ?_)
    have tx6 : x6.toInt = (z5 &&& (gI o_me_court_isles_now 2)).toInt := by rw [ex6]
    refine wp_bd (s_J6_bitCount_0f7a4   x6    ) (fun z7 hz7 => ?_)
    have hz7_0 := hz7
    have t8 : (p2 - (1 : Int32)).toInt = p2.toInt - 1 := i32_sub rfl (by decide) (zs_l q2.1 (by decide)) (zs_u q2.2 (by decide))
    have t9 : (z7 - (p2 - (1 : Int32))).toInt = z7.toInt - (p2 - (1 : Int32)).toInt := i32_sub rfl rfl (zs_ll hz7_0.1 (zu_e (k := 6) (zq_s (c := (-1)) t8 (by decide)) q2.2 (by decide)) (by decide)) (zs_uu hz7_0.2 (zl_e (k := 0) (zq_t (c := 1) t8 (by decide)) q2.1 (by decide)) (by decide))
    refine wp_lt (fun x10 ex10 => ?_)
    have tx10 : x10.toInt = (z7 - (p2 - (1 : Int32))).toInt := by rw [ex10]
    refine wp_if (fun c11 => ?_) (fun c11 => ?_)
    · have c11 := cv_lt (a := x10.toInt) (b := 0) rfl (by decide) c11
      have t12 : (-x10).toInt = -x10.toInt := i32_neg rfl (by omega) (by omega)
      refine wp_bd (s_X7_lowestBits   (z5 &&& ((gI o_me_court_isles_now 2) ^^^ (-1 : Int32))) (-x10)    ⟨(by omega), (by omega)⟩) (fun z13 hz13 => ?_)
      refine wp_some ?_
      exact (show IvX7 z1.1 ∧ Kp [] [2, 3] [] o_me z1.1 ∧ IvX3 z1.2 ∧ Kp [] [] [] o_me_court_machine z1.2 from ⟨hz1_0, hkpz1_me, hz1_2, hkpz1_me_court_machine⟩)
    · have c11 := cv_nlt (a := x10.toInt) (b := 0) rfl (by decide) c11
      refine wp_bd (s_X7_lowestBits   x6 x10    ⟨(Int.le_trans (by decide) c11), (zu_e (zq_0 tx10) (zsq_u (c := 63) t9 hz7_0.2 (zl_e (k := 0) (zq_t (c := 1) t8 (by decide)) q2.1 (by decide)) (by decide)) (by decide))⟩) (fun z14 hz14 => ?_)
      refine wp_some ?_
      exact (show IvX7 z1.1 ∧ Kp [] [2, 3] [] o_me z1.1 ∧ IvX3 z1.2 ∧ Kp [] [] [] o_me_court_machine z1.2 from ⟨hz1_0, hkpz1_me, hz1_2, hkpz1_me_court_machine⟩)

set_option maxHeartbeats 4000000 in
set_option maxRecDepth 100000 in
theorem s_X8_be {rI : Nat → Option Nat} (o_me : Ob) (o_me_machine : Ob) (o_me_isles : Ob) (o_me_isles_now : Ob) (o_me_court : Ob) (o_me_study : Ob) (o_pool : List CR) (p0 : Int32) (p1 : Int32) (p2 : Int32) (p3 : Int32) (hI_me : IvX8 rI o_me) (hI_me_machine : IvX3 o_me_machine) (hI_me_isles : IvX2 o_pool o_me_isles) (hI_me_isles_now : IvX4 o_me_isles_now) (hI_me_court : IvX1 o_me_court) (hI_me_study : IvX7 o_me_study) (hI_pool : PLok o_pool)  : wp (f_X8_be   o_me o_me_machine o_me_isles o_me_isles_now o_me_court o_me_study o_pool p0 p1 p2 p3) (fun (y : Int32 × Ob × Ob) => IvX3 y.2.1 ∧ Kp [] [] [] o_me_machine y.2.1 ∧ IvX7 y.2.2 ∧ Kp [] [2, 3] [] o_me_study y.2.2) := by
  unfold f_X8_be
  refine wp_bd (s_X2_isPerson   o_me_isles p0  hI_me_isles  ) (fun z1 hz1 => ?_)
  obtain ⟨hz1_0, hz1_1⟩ := hz1
  refine wp_if (fun c2 => ?_) (fun c2 => ?_)
  · have c2 := cv_eq (a := z1.toInt) (b := 0) rfl (by decide) c2
    refine wp_some ?_
    exact (show IvX3 o_me_machine ∧ Kp [] [] [] o_me_machine o_me_machine ∧ IvX7 o_me_study ∧ Kp [] [2, 3] [] o_me_study o_me_study from ⟨hI_me_machine, Kp.rf, hI_me_study, Kp.rf⟩)
  · have c2i := hz1_1 c2
    refine wp_bd (s_X8_isRace   p1    ) (fun z3 hz3 => ?_)
    obtain ⟨hz3_0, hz3_1⟩ := hz3
    refine wp_if (fun c4 => ?_) (fun c4 => ?_)
    · have c4 := cv_eq (a := z3.toInt) (b := 0) rfl (by decide) c4
      refine wp_some ?_
      exact (show IvX3 o_me_machine ∧ Kp [] [] [] o_me_machine o_me_machine ∧ IvX7 o_me_study ∧ Kp [] [2, 3] [] o_me_study o_me_study from ⟨hI_me_machine, Kp.rf, hI_me_study, Kp.rf⟩)
    · have c4i := hz3_1 c4
      refine wp_if (fun c5 => ?_) (fun c5 => ?_)
      · have c5 := cv_lt (a := p2.toInt) (b := 1) rfl (by decide) c5
        refine wp_some ?_
        exact (show IvX3 o_me_machine ∧ Kp [] [] [] o_me_machine o_me_machine ∧ IvX7 o_me_study ∧ Kp [] [2, 3] [] o_me_study o_me_study from ⟨hI_me_machine, Kp.rf, hI_me_study, Kp.rf⟩)
      · have c5 := cv_nlt (a := p2.toInt) (b := 1) rfl (by decide) c5
        refine wp_if (fun c6 => ?_) (fun c6 => ?_)
        · have c6 := cv_gt (a := p2.toInt) (b := 7) rfl (by decide) c6
          refine wp_some ?_
          exact (show IvX3 o_me_machine ∧ Kp [] [] [] o_me_machine o_me_machine ∧ IvX7 o_me_study ∧ Kp [] [2, 3] [] o_me_study o_me_study from ⟨hI_me_machine, Kp.rf, hI_me_study, Kp.rf⟩)
        · have c6 := cv_ngt (a := p2.toInt) (b := 7) rfl (by decide) c6
          refine wp_if (fun c7 => ?_) (fun c7 => ?_)
          · refine wp_some ?_
            exact (show IvX3 o_me_machine ∧ Kp [] [] [] o_me_machine o_me_machine ∧ IvX7 o_me_study ∧ Kp [] [2, 3] [] o_me_study o_me_study from ⟨hI_me_machine, Kp.rf, hI_me_study, Kp.rf⟩)
          · refine wp_if (fun c8 => ?_) (fun c8 => ?_)
            · refine wp_bd (s_X7_changedEntries   o_me_study o_me_court o_me_isles o_me_isles_now o_me_machine o_pool p0 p1 p2  hI_me_study hI_me_court hI_me_isles hI_me_isles_now hI_me_machine hI_pool  ⟨c2i.1.1, c2i.1.2⟩ ⟨c4i.1, c4i.2⟩ ⟨c5, c6⟩) (fun z9 hz9 => ?_)
              obtain ⟨hz9_0, hz9_1, hz9_2, hz9_3⟩ := hz9
              have hkpz9_me_study : Kp [] [2, 3] [] o_me_study z9.2.1 := Kp.rf.trans (hz9_1.mono (by decide) (by decide) (by decide))
              have hkpz9_me_machine : Kp [] [] [] o_me_machine z9.2.2 := Kp.rf.trans (hz9_3.mono (by decide) (by decide) (by decide))
              refine wp_if (fun c10 => ?_) (fun c10 => ?_)
              · unfold bk_X8_be_66
                refine wp_some ?_
                exact (show IvX3 z9.2.2 ∧ Kp [] [] [] o_me_machine z9.2.2 ∧ IvX7 z9.2.1 ∧ Kp [] [2, 3] [] o_me_study z9.2.1 from ⟨hz9_2, hkpz9_me_machine, hz9_0, hkpz9_me_study⟩)
              · refine wp_if (fun c11 => ?_) (fun c11 => ?_)
                · unfold bk_X8_be_66
                  refine wp_some ?_
                  exact (show IvX3 z9.2.2 ∧ Kp [] [] [] o_me_machine z9.2.2 ∧ IvX7 z9.2.1 ∧ Kp [] [2, 3] [] o_me_study z9.2.1 from ⟨hz9_2, hkpz9_me_machine, hz9_0, hkpz9_me_study⟩)
                · refine wp_bd (s_J6_bitCount_0f7a4   z9.1    ) (fun z12 hz12 => ?_)
                  refine wp_some ?_
                  exact (show IvX3 z9.2.2 ∧ Kp [] [] [] o_me_machine z9.2.2 ∧ IvX7 z9.2.1 ∧ Kp [] [2, 3] [] o_me_study z9.2.1 from ⟨hz9_2, hkpz9_me_machine, hz9_0, hkpz9_me_study⟩)
            · refine wp_some ?_
              exact (show IvX3 o_me_machine ∧ Kp [] [] [] o_me_machine o_me_machine ∧ IvX7 o_me_study ∧ Kp [] [2, 3] [] o_me_study o_me_study from ⟨hI_me_machine, Kp.rf, hI_me_study, Kp.rf⟩)

set_option maxHeartbeats 4000000 in
set_option maxRecDepth 100000 in
theorem s_X8_refuse {rI : Nat → Option Nat} (o_me : Ob) (p0 : Int32) (hI_me : IvX8 rI o_me)  : wp (f_X8_refuse   o_me p0) (fun (y : Int32 × Ob) => IvX8 rI y.2 ∧ Kp [13, 14, 15, 16] [] [] o_me y.2) := by
  have li0 : (-6 : Int32).toInt = (-6) := by decide
  have li1 : (1 : Int32).toInt = 1 := by decide
  unfold f_X8_refuse
  refine wp_lt (fun o1 eo1 => ?_)
  have hIo1 : IvX8 rI o1 := by rw [eo1]; exact hI_me
  have ko1_v : (gI o1 12).toInt = p0.toInt := by rw [eo1]; rfl
  have hkpo1 : Kp [13, 14, 15, 16] [] [] o_me o1 := Kp.rf.trans (by rw [eo1]; exact Kp.sI (by decide))
  refine wp_if (fun c2 => ?_) (fun c2 => ?_)
  · have c2 := cv_ge (a := p0.toInt) (b := 0) rfl (by decide) c2
    refine wp_some ?_
    exact (show IvX8 rI o1 ∧ Kp [13, 14, 15, 16] [] [] o_me o1 from ⟨hIo1, hkpo1⟩)
  · have c2 := cv_nge (a := p0.toInt) (b := 0) rfl (by decide) c2
    refine wp_if (fun c3 => ?_) (fun c3 => ?_)
    · have c3 := cv_lt (a := p0.toInt) (b := (-6)) rfl (by decide) c3
      refine wp_some ?_
      exact (show IvX8 rI o1 ∧ Kp [13, 14, 15, 16] [] [] o_me o1 from ⟨hIo1, hkpo1⟩)
    · have c3 := cv_nlt (a := p0.toInt) (b := (-6)) rfl (by decide) c3
      have t4 : (-p0).toInt = -p0.toInt := i32_neg rfl (by omega) (by omega)
      refine wp_lt (fun x5 ex5 => ?_)
      have tx5 : x5.toInt = (-p0).toInt := by rw [ex5]
      refine wp_gd (zin_of (m := 7) rfl (by omega) (by omega)) ?_
      refine wp_gd (zin_of (m := 7) rfl (by omega) (by omega)) ?_
      refine wp_lt (fun o6 eo6 => ?_)
      have hIo6 : IvX8 rI o6 := by rw [eo6]; exact hIo1
      have ko6_k7 : (gI o6 12).toInt = (gI o1 12).toInt := by rw [eo6]; rfl
      have ko6_v : (gA o6 11 x5.toNatClampNeg).toInt = ((gA o1 11 x5.toNatClampNeg) + (1 : Int32)).toInt := by rw [eo6]; exact congrArg Int32.toInt (upd_eq (g := gA o1 11) (i := x5) (v := ((gA o1 11 x5.toNatClampNeg) + (1 : Int32))))
      have hkpo6 : Kp [13, 14, 15, 16] [] [] o_me o6 := hkpo1.trans (by rw [eo6]; exact Kp.tA (by decide) (by decide))
      refine wp_some ?_
      exact (show IvX8 rI o6 ∧ Kp [13, 14, 15, 16] [] [] o_me o6 from ⟨hIo6, hkpo6⟩)

set_option maxHeartbeats 4000000 in
set_option maxRecDepth 100000 in
theorem s_X8_grant {rI : Nat → Option Nat} (o_me : Ob) (p0 : Int32) (hI_me : IvX8 rI o_me)  : wp (f_X8_grant   o_me p0) (fun (y : Int32 × Ob) => IvX8 rI y.2 ∧ Kp [13, 14, 15, 16] [11] [] o_me y.2) := by
  unfold f_X8_grant
  refine wp_lt (fun o1 eo1 => ?_)
  have hIo1 : IvX8 rI o1 := by rw [eo1]; exact hI_me
  have hkpo1 : Kp [13, 14, 15, 16] [11] [] o_me o1 := Kp.rf.trans (by rw [eo1]; exact Kp.sI (by decide))
  refine wp_some ?_
  exact (show IvX8 rI o1 ∧ Kp [13, 14, 15, 16] [11] [] o_me o1 from ⟨hIo1, hkpo1⟩)

set_option maxHeartbeats 4000000 in
set_option maxRecDepth 100000 in
theorem s_X8_beats {pl : List CR} {rI : Nat → Option Nat} (o_me : Ob) (o_me_isles : Ob) (p0 : Int32) (p1 : Int32) (p2 : Int32) (hI_me : IvX8 rI o_me) (hI_me_isles : IvX2 pl o_me_isles)  : wp (f_X8_beats   o_me o_me_isles p0 p1 p2) (fun (y : Int32 × Ob × Ob) => IvX8 rI y.2.1 ∧ Kp [13, 14, 15, 16] [] [] o_me y.2.1 ∧ IvX2 pl y.2.2 ∧ Kp [7, 8, 9, 10, 11, 12] [1, 2, 4, 5] [] o_me_isles y.2.2) := by
  unfold f_X8_beats
  refine wp_if (fun c1 => ?_) (fun c1 => ?_)
  · unfold bk_X8_beats_14
    refine wp_bd (s_X8_refuse   o_me (-1 : Int32)  hI_me  ) (fun z4 hz4 => ?_)
    obtain ⟨hz4_0, hz4_1⟩ := hz4
    have hkpz4_me : Kp [13, 14, 15, 16] [] [] o_me z4.2 := Kp.rf.trans (hz4_1.mono (by decide) (by decide) (by decide))
    refine wp_some ?_
    exact (show IvX8 rI z4.2 ∧ Kp [13, 14, 15, 16] [] [] o_me z4.2 ∧ IvX2 pl o_me_isles ∧ Kp [7, 8, 9, 10, 11, 12] [1, 2, 4, 5] [] o_me_isles o_me_isles from ⟨hz4_0, hkpz4_me, hI_me_isles, Kp.rf⟩)
  · refine wp_if (fun c5 => ?_) (fun c5 => ?_)
    · unfold bk_X8_beats_14
      refine wp_bd (s_X8_refuse   o_me (-1 : Int32)  hI_me  ) (fun z6 hz6 => ?_)
      obtain ⟨hz6_0, hz6_1⟩ := hz6
      have hkpz6_me : Kp [13, 14, 15, 16] [] [] o_me z6.2 := Kp.rf.trans (hz6_1.mono (by decide) (by decide) (by decide))
      refine wp_some ?_
      exact (show IvX8 rI z6.2 ∧ Kp [13, 14, 15, 16] [] [] o_me z6.2 ∧ IvX2 pl o_me_isles ∧ Kp [7, 8, 9, 10, 11, 12] [1, 2, 4, 5] [] o_me_isles o_me_isles from ⟨hz6_0, hkpz6_me, hI_me_isles, Kp.rf⟩)
    · refine wp_if (fun c7 => ?_) (fun c7 => ?_)
      · refine wp_bd (s_X2_isPerson   o_me_isles p0  hI_me_isles  ) (fun z8 hz8 => ?_)
        obtain ⟨hz8_0, hz8_1⟩ := hz8
        refine wp_if (fun c9 => ?_) (fun c9 => ?_)
        · have c9 := cv_eq (a := z8.toInt) (b := 0) rfl (by decide) c9
          unfold bk_X8_beats_42
          refine wp_bd (s_X8_refuse   o_me (-2 : Int32)  hI_me  ) (fun z10 hz10 => ?_)
          obtain ⟨hz10_0, hz10_1⟩ := hz10
          have hkpz10_me : Kp [13, 14, 15, 16] [] [] o_me z10.2 := Kp.rf.trans (hz10_1.mono (by decide) (by decide) (by decide))
          refine wp_some ?_
          exact (show IvX8 rI z10.2 ∧ Kp [13, 14, 15, 16] [] [] o_me z10.2 ∧ IvX2 pl o_me_isles ∧ Kp [7, 8, 9, 10, 11, 12] [1, 2, 4, 5] [] o_me_isles o_me_isles from ⟨hz10_0, hkpz10_me, hI_me_isles, Kp.rf⟩)
        · have c9i := hz8_1 c9
          refine wp_bd (s_X2_isPerson   o_me_isles p1  hI_me_isles  ) (fun z11 hz11 => ?_)
          refine wp_if (fun c12 => ?_) (fun c12 => ?_)
          · unfold bk_X8_beats_42
            refine wp_bd (s_X8_refuse   o_me (-2 : Int32)  hI_me  ) (fun z13 hz13 => ?_)
            obtain ⟨hz13_0, hz13_1⟩ := hz13
            have hkpz13_me : Kp [13, 14, 15, 16] [] [] o_me z13.2 := Kp.rf.trans (hz13_1.mono (by decide) (by decide) (by decide))
            refine wp_some ?_
            exact (show IvX8 rI z13.2 ∧ Kp [13, 14, 15, 16] [] [] o_me z13.2 ∧ IvX2 pl o_me_isles ∧ Kp [7, 8, 9, 10, 11, 12] [1, 2, 4, 5] [] o_me_isles o_me_isles from ⟨hz13_0, hkpz13_me, hI_me_isles, Kp.rf⟩)
          · refine wp_gd (zin_of (m := 7) rfl c9i.1.1 (zlt_m (c := 6) c9i.1.2 (by decide))) ?_
            refine wp_lt (fun x15 ex15 => ?_)
            refine wp_gd (zin_of (m := 7) rfl c9i.1.1 (zlt_m (c := 6) c9i.1.2 (by decide))) ?_
            refine wp_gd (zin_of (m := 7) rfl c9i.1.1 (zlt_m (c := 6) c9i.1.2 (by decide))) ?_
            refine wp_lt (fun o16 eo16 => ?_)
            have hIo16 : IvX2 pl o16 := by rw [eo16]; exact hI_me_isles
            have hkpo16 : Kp [7, 8, 9, 10, 11, 12] [1, 2, 4, 5] [] o_me_isles o16 := Kp.rf.trans (by rw [eo16]; exact Kp.tA (by decide) (by decide))
            refine wp_bd (s_X8_grant   o_me x15  hI_me  ) (fun z18 hz18 => ?_)
            obtain ⟨hz18_0, hz18_1⟩ := hz18
            have hkpz18_me : Kp [13, 14, 15, 16] [] [] o_me z18.2 := Kp.rf.trans (hz18_1.mono (by decide) (by decide) (by decide))
            refine wp_some ?_
            exact (show IvX8 rI z18.2 ∧ Kp [13, 14, 15, 16] [] [] o_me z18.2 ∧ IvX2 pl o16 ∧ Kp [7, 8, 9, 10, 11, 12] [1, 2, 4, 5] [] o_me_isles o16 from ⟨hz18_0, hkpz18_me, hIo16, hkpo16⟩)
      · unfold bk_X8_beats_14
        refine wp_bd (s_X8_refuse   o_me (-1 : Int32)  hI_me  ) (fun z19 hz19 => ?_)
        obtain ⟨hz19_0, hz19_1⟩ := hz19
        have hkpz19_me : Kp [13, 14, 15, 16] [] [] o_me z19.2 := Kp.rf.trans (hz19_1.mono (by decide) (by decide) (by decide))
        refine wp_some ?_
        exact (show IvX8 rI z19.2 ∧ Kp [13, 14, 15, 16] [] [] o_me z19.2 ∧ IvX2 pl o_me_isles ∧ Kp [7, 8, 9, 10, 11, 12] [1, 2, 4, 5] [] o_me_isles o_me_isles from ⟨hz19_0, hkpz19_me, hI_me_isles, Kp.rf⟩)

set_option maxHeartbeats 4000000 in
set_option maxRecDepth 100000 in
theorem s_X8_blots {rI : Nat → Option Nat} (o_me : Ob) (hI_me : IvX8 rI o_me)  : wp (f_X8_blots   o_me) (fun (y : Int32) => True) := by
  unfold f_X8_blots
  refine wp_some ?_
  exact trivial

set_option maxHeartbeats 4000000 in
set_option maxRecDepth 100000 in
theorem s_X1_nearest_v1 (p0 : Int64) (p1 : Int32)  (q0 : 9 ≤ p1.toInt ∧ p1.toInt ≤ 9) : wp (f_X1_nearest   p0 p1) (fun (y : Int32) => (0 ≤ y.toInt ∧ y.toInt ≤ 9)) := by
  unfold f_X1_nearest
  have t1 : p1.toInt64.toInt = p1.toInt := Int32.toInt_toInt64 _
  have rg3 := i64_rg p0
  have t2 : (-9223372036854775808) ≤ (if p1.toInt64 < p0 then p1.toInt64 else p0).toInt ∧ (if p1.toInt64 < p0 then p1.toInt64 else p0).toInt ≤ 9 := z_minl (a := p0.toInt) (b := p1.toInt64.toInt) rfl rfl ⟨rg3.1, (zl_e (zq_0 t1.symm) q0.1 (by decide))⟩ (Or.inr (zu_e (zq_0 t1) q0.2 (by decide)))
  have t4 : 0 ≤ (if (if p1.toInt64 < p0 then p1.toInt64 else p0) < (0 : Int64) then (0 : Int64) else (if p1.toInt64 < p0 then p1.toInt64 else p0)).toInt ∧ (if (if p1.toInt64 < p0 then p1.toInt64 else p0) < (0 : Int64) then (0 : Int64) else (if p1.toInt64 < p0 then p1.toInt64 else p0)).toInt ≤ 9 := z_maxl (a := 0) (b := (if p1.toInt64 < p0 then p1.toInt64 else p0).toInt) (by decide) rfl (Or.inl (by decide)) ⟨(by decide), t2.2⟩
  have t5 : ((if (if p1.toInt64 < p0 then p1.toInt64 else p0) < (0 : Int64) then (0 : Int64) else (if p1.toInt64 < p0 then p1.toInt64 else p0)).toInt32).toInt = (if (if p1.toInt64 < p0 then p1.toInt64 else p0) < (0 : Int64) then (0 : Int64) else (if p1.toInt64 < p0 then p1.toInt64 else p0)).toInt := l2i_eq (Int.le_trans (by decide) t4.1) (Int.le_trans t4.2 (by decide))
  refine wp_some ?_
  exact (show (0 ≤ ((if (if p1.toInt64 < p0 then p1.toInt64 else p0) < (0 : Int64) then (0 : Int64) else (if p1.toInt64 < p0 then p1.toInt64 else p0)).toInt32).toInt ∧ ((if (if p1.toInt64 < p0 then p1.toInt64 else p0) < (0 : Int64) then (0 : Int64) else (if p1.toInt64 < p0 then p1.toInt64 else p0)).toInt32).toInt ≤ 9) from ⟨(zl_e (zq_0 t5.symm) t4.1 (by decide)), (zu_e (zq_0 t5) t4.2 (by decide))⟩)

set_option maxHeartbeats 4000000 in
set_option maxRecDepth 100000 in
theorem s_X1_turnsTo_Q (o_me : Ob) (o_me_isles : Ob) (o_me_isles_now : Ob) (o_me_machine : Ob) (o_pool : List CR) (p0 : Option Nat) (p1 : Int32) (p2 : Int32) (hI_me : IvX1 o_me) (hI_me_isles : IvX2 o_pool o_me_isles) (hI_me_isles_now : IvX4 o_me_isles_now) (hI_me_machine : IvX3 o_me_machine) (hI_pool : PLok o_pool) (po_p0 : zpo o_pool p0 = true) (q0 : 0 ≤ p1.toInt ∧ p1.toInt ≤ 6) (q1 : 0 ≤ p2.toInt ∧ p2.toInt ≤ 3) : wp (f_X1_turnsTo_Q   o_me o_me_isles o_me_isles_now o_me_machine o_pool p0 p1 p2) (fun (y : Int32 × Ob) => (0 ≤ y.1.toInt ∧ y.1.toInt ≤ 9) ∧ IvX3 y.2 ∧ Kp [] [] [] o_me_machine y.2) := by
  unfold f_X1_turnsTo_Q
  refine wp_bd (Q := fun (z9 : Int64 × Ob) => IvX3 z9.2 ∧ Kp [] [] [] o_me_machine z9.2) (wp_zop po_p0 ⟨(_, o_me_machine), rfl, hI_me_machine, Kp.rf⟩ (fun c9 hc9 => s_X1_told_O c9.2.2.2.1 c9.2.2.2.2.1 o_me o_me_isles o_me_isles_now o_me_machine c9.2.2.2.2.2 (1 : Int32) p1 p2 (2 : Int32) hI_me hI_me_isles hI_me_isles_now hI_me_machine (hI_pool c9 hc9))) (fun z1 hz1 => ?_)
  obtain ⟨hz1_0, hz1_1⟩ := hz1
  have hkpz1 : Kp [] [] [] o_me_machine z1.2 := Kp.rf.trans (hz1_1.mono (by decide) (by decide) (by decide))
  refine wp_if (fun c2 => ?_) (fun c2 => ?_)
  · refine wp_gd (zin_of (m := 7) rfl q0.1 (zlt_m (c := 6) q0.2 (by decide))) ?_
    have t3 := iaX4_0_0 hI_me_isles_now (j := p1) q0.1 q0.2
    have t4 : ((gA o_me_isles_now 0 p1.toNatClampNeg) + (1 : Int32)).toInt = (gA o_me_isles_now 0 p1.toNatClampNeg).toInt + 1 := i32_add rfl (by decide) (zk_l t3.1 (by decide)) (zk_u t3.2 (by decide))
    have t5 : 0 ≤ (((gA o_me_isles_now 0 p1.toNatClampNeg) + (1 : Int32)) - ((gA o_me_isles_now 0 p1.toNatClampNeg) + (1 : Int32)) / (10 : Int32) * (10 : Int32)).toInt ∧ (((gA o_me_isles_now 0 p1.toNatClampNeg) + (1 : Int32)) - ((gA o_me_isles_now 0 p1.toNatClampNeg) + (1 : Int32)) / (10 : Int32) * (10 : Int32)).toInt ≤ 9 := i32_rem (y := (10 : Int32)) (m := 10) (by decide) (by decide) (zl_e (zq_r (c := (-1)) t4 (by decide)) t3.1 (by decide))
    refine wp_some ?_
    exact (show (0 ≤ (((gA o_me_isles_now 0 p1.toNatClampNeg) + (1 : Int32)) - ((gA o_me_isles_now 0 p1.toNatClampNeg) + (1 : Int32)) / (10 : Int32) * (10 : Int32)).toInt ∧ (((gA o_me_isles_now 0 p1.toNatClampNeg) + (1 : Int32)) - ((gA o_me_isles_now 0 p1.toNatClampNeg) + (1 : Int32)) / (10 : Int32) * (10 : Int32)).toInt ≤ 9) ∧ IvX3 z1.2 ∧ Kp [] [] [] o_me_machine z1.2 from ⟨⟨t5.1, t5.2⟩, hz1_0, hkpz1⟩)
  · refine wp_bd (s_X1_nearest_v1   z1.1 (9 : Int32)    ⟨by decide, by decide⟩) (fun z6 hz6 => ?_)
    have hz6_0 := hz6
    refine wp_some ?_
    exact (show (0 ≤ z6.toInt ∧ z6.toInt ≤ 9) ∧ IvX3 z1.2 ∧ Kp [] [] [] o_me_machine z1.2 from ⟨⟨hz6_0.1, hz6_0.2⟩, hz1_0, hkpz1⟩)

set_option maxHeartbeats 4000000 in
set_option maxRecDepth 100000 in
theorem s_X7_fitsAllSeen (o_me : Ob) (o_me_court : Ob) (o_me_court_isles : Ob) (o_me_court_isles_now : Ob) (o_me_court_machine : Ob) (o_pool : List CR) (p0 : Int32) (hI_me : IvX7 o_me) (hI_me_court : IvX1 o_me_court) (hI_me_court_isles : IvX2 o_pool o_me_court_isles) (hI_me_court_isles_now : IvX4 o_me_court_isles_now) (hI_me_court_machine : IvX3 o_me_court_machine) (hI_pool : PLok o_pool) (q0 : 0 ≤ p0.toInt ∧ p0.toInt ≤ 6) : wp (f_X7_fitsAllSeen   o_me o_me_court o_me_court_isles o_me_court_isles_now o_me_court_machine o_pool p0) (fun (y : Int32 × Ob) => (0 ≤ y.1.toInt ∧ y.1.toInt ≤ 1) ∧ IvX3 y.2 ∧ Kp [] [] [] o_me_court_machine y.2) := by
  unfold f_X7_fitsAllSeen
  have lp1 : ∀ (N1 : Nat) (v1_1 : Int32) (v2_1 : Int32) (o_me_court_machine_1 : Ob), IvX3 o_me_court_machine_1 → Kp [] [] [] o_me_court_machine o_me_court_machine_1 → (0 ≤ v1_1.toInt ∧ v1_1.toInt ≤ 6) → (0 ≤ v2_1.toInt ∧ v2_1.toInt ≤ 6) → (6 - v2_1.toInt).toNat < N1 → wp (lp_X7_fitsAllSeen_2 o_me o_me_court o_me_court_isles o_me_court_isles_now o_pool  N1 (v1_1, v2_1, o_me_court_machine_1)) (fun (y : Int32 × Ob) => (0 ≤ y.1.toInt ∧ y.1.toInt ≤ 1) ∧ IvX3 y.2 ∧ Kp [] [] [] o_me_court_machine y.2) := by
    intro N1
    induction N1 with
    | zero =>
      intro v1_1 v2_1 o_me_court_machine_1 hI_me_court_machine_1 hkp_me_court_machine_1 hh1 hh2 hN1
      exact absurd hN1 (Nat.not_lt_zero _)
    | succ N1 ihx =>
      have ih1 := ihx
      intro v1_1 v2_1 o_me_court_machine_1 hI_me_court_machine_1 hkp_me_court_machine_1 hh1 hh2 hN1
      show wp (lb_X7_fitsAllSeen_2 o_me o_me_court o_me_court_isles o_me_court_isles_now o_pool  (lp_X7_fitsAllSeen_2 o_me o_me_court o_me_court_isles o_me_court_isles_now o_pool  N1) v1_1 v2_1 o_me_court_machine_1) (fun (y : Int32 × Ob) => (0 ≤ y.1.toInt ∧ y.1.toInt ≤ 1) ∧ IvX3 y.2 ∧ Kp [] [] [] o_me_court_machine y.2)
      unfold lb_X7_fitsAllSeen_2
      have t3 := igX2_8 hI_me_court_isles
      refine wp_if (fun c4 => ?_) (fun c4 => ?_)
      · have c4 := cv_ge (a := v2_1.toInt) (b := (gI o_me_court_isles 8).toInt) rfl rfl c4
        refine wp_some ?_
        exact (show (0 ≤ (1 : Int32).toInt ∧ (1 : Int32).toInt ≤ 1) ∧ IvX3 o_me_court_machine_1 ∧ Kp [] [] [] o_me_court_machine o_me_court_machine_1 from ⟨⟨by decide, by decide⟩, hI_me_court_machine_1, hkp_me_court_machine_1⟩)
      · have c4 := cv_nge (a := v2_1.toInt) (b := (gI o_me_court_isles 8).toInt) rfl rfl c4
        refine wp_bd (s_X2_lawInForce   o_me_court_isles  hI_me_court_isles  ) (fun z5 hz5 => ?_)
        have hz5_0 := hz5
        refine wp_gd (zin_of (m := 6) rfl hh2.1 (zlt_m (c := 5) (zu_e (zl_d c4) t3.2 (by decide)) (by decide))) ?_
        have t6 := iaX2_4_0 hI_me_court_isles (j := v2_1) hh2.1 (zu_e (zl_d c4) t3.2 (by decide))
        refine wp_bd (s_X1_turnsTo_Q   o_me_court o_me_court_isles o_me_court_isles_now o_me_court_machine_1 o_pool z5 v1_1 (gA o_me_court_isles 4 v2_1.toNatClampNeg)  hI_me_court hI_me_court_isles hI_me_court_isles_now hI_me_court_machine_1 hI_pool hz5_0 ⟨hh1.1, hh1.2⟩ ⟨t6.1, t6.2⟩) (fun z7 hz7 => ?_)
        obtain ⟨hz7_0, hz7_1, hz7_2⟩ := hz7
        have hkpz7_me_court_machine : Kp [] [] [] o_me_court_machine z7.2 := hkp_me_court_machine_1.trans (hz7_2.mono (by decide) (by decide) (by decide))
        refine wp_gd (zin_of (m := 6) rfl hh2.1 (zlt_m (c := 5) (zu_e (zl_d c4) t3.2 (by decide)) (by decide))) ?_
        refine wp_if (fun c8 => ?_) (fun c8 => ?_)
        · refine wp_lt (fun x10 ex10 => ?_)
          have tx10 : x10.toInt = v2_1.toInt + 1 := by rw [ex10]; exact i32_add rfl (by decide) (zk_l hh2.1 (by decide)) (zk_u (zu_e (k := 5) (zl_d c4) t3.2 (by decide)) (by decide))
          exact ih1 v1_1 x10 z7.2 hz7_1 hkpz7_me_court_machine ⟨hh1.1, hh1.2⟩ ⟨(zl_e (zq_r (c := (-1)) tx10 (by decide)) hh2.1 (by decide)), (zu_e (zd_e (c := 0) (Int.le_of_eq tx10) (zl_d c4) (by decide)) t3.2 (by decide))⟩ (zms_u (c := 5) hN1 (zq_r (c := (-1)) tx10 (by decide)) (zu_e (zl_d c4) t3.2 (by decide)) (by decide))
        · refine wp_some ?_
          exact (show (0 ≤ (0 : Int32).toInt ∧ (0 : Int32).toInt ≤ 1) ∧ IvX3 z7.2 ∧ Kp [] [] [] o_me_court_machine z7.2 from ⟨⟨by decide, by decide⟩, hz7_1, hkpz7_me_court_machine⟩)
  exact lp1 zfu p0 (0 : Int32) o_me_court_machine hI_me_court_machine Kp.rf ⟨q0.1, q0.2⟩ ⟨by decide, by decide⟩ (zme_u (l := 0) (Int.le_of_eq tz0.symm) (by decide))

set_option maxHeartbeats 4000000 in
set_option maxRecDepth 100000 in
theorem s_X7_suspects (o_me : Ob) (o_me_court : Ob) (o_me_court_isles : Ob) (o_me_court_isles_now : Ob) (o_me_court_machine : Ob) (o_pool : List CR) (hI_me : IvX7 o_me) (hI_me_court : IvX1 o_me_court) (hI_me_court_isles : IvX2 o_pool o_me_court_isles) (hI_me_court_isles_now : IvX4 o_me_court_isles_now) (hI_me_court_machine : IvX3 o_me_court_machine) (hI_pool : PLok o_pool)  : wp (f_X7_suspects   o_me o_me_court o_me_court_isles o_me_court_isles_now o_me_court_machine o_pool) (fun (y : Int32 × Ob) => (0 ≤ y.1.toInt ∧ y.1.toInt ≤ 127) ∧ IvX3 y.2 ∧ Kp [] [] [] o_me_court_machine y.2) := by
  unfold f_X7_suspects
  have lp1 : ∀ (N1 : Nat) (v1_1 : Int32) (v2_1 : Int32) (o_me_court_machine_1 : Ob), IvX3 o_me_court_machine_1 → Kp [] [] [] o_me_court_machine o_me_court_machine_1 → (0 ≤ v1_1.toInt ∧ v1_1.toInt ≤ 127) → (0 ≤ v2_1.toInt ∧ v2_1.toInt ≤ 7) → (7 - v2_1.toInt).toNat < N1 → wp (lp_X7_suspects_4 o_me o_me_court o_me_court_isles o_me_court_isles_now o_pool  N1 (v1_1, v2_1, o_me_court_machine_1)) (fun (y : Int32 × Ob) => (0 ≤ y.1.toInt ∧ y.1.toInt ≤ 127) ∧ IvX3 y.2 ∧ Kp [] [] [] o_me_court_machine y.2) := by
    intro N1
    induction N1 with
    | zero =>
      intro v1_1 v2_1 o_me_court_machine_1 hI_me_court_machine_1 hkp_me_court_machine_1 hh1 hh2 hN1
      exact absurd hN1 (Nat.not_lt_zero _)
    | succ N1 ihx =>
      have ih1 := ihx
      intro v1_1 v2_1 o_me_court_machine_1 hI_me_court_machine_1 hkp_me_court_machine_1 hh1 hh2 hN1
      show wp (lb_X7_suspects_4 o_me o_me_court o_me_court_isles o_me_court_isles_now o_pool  (lp_X7_suspects_4 o_me o_me_court o_me_court_isles o_me_court_isles_now o_pool  N1) v1_1 v2_1 o_me_court_machine_1) (fun (y : Int32 × Ob) => (0 ≤ y.1.toInt ∧ y.1.toInt ≤ 127) ∧ IvX3 y.2 ∧ Kp [] [] [] o_me_court_machine y.2)
      unfold lb_X7_suspects_4
      have t3 := igX2_7 hI_me_court_isles
      refine wp_if (fun c4 => ?_) (fun c4 => ?_)
      · have c4 := cv_ge (a := v2_1.toInt) (b := (gI o_me_court_isles 7).toInt) rfl rfl c4
        refine wp_some ?_
        exact (show (0 ≤ v1_1.toInt ∧ v1_1.toInt ≤ 127) ∧ IvX3 o_me_court_machine_1 ∧ Kp [] [] [] o_me_court_machine o_me_court_machine_1 from ⟨⟨hh1.1, hh1.2⟩, hI_me_court_machine_1, hkp_me_court_machine_1⟩)
      · have c4 := cv_nge (a := v2_1.toInt) (b := (gI o_me_court_isles 7).toInt) rfl rfl c4
        refine wp_bd (s_X7_fitsAllSeen   o_me o_me_court o_me_court_isles o_me_court_isles_now o_me_court_machine_1 o_pool v2_1  hI_me hI_me_court hI_me_court_isles hI_me_court_isles_now hI_me_court_machine_1 hI_pool  ⟨hh2.1, (zu_e (zl_d c4) t3.2 (by decide))⟩) (fun z5 hz5 => ?_)
        obtain ⟨hz5_0, hz5_1, hz5_2⟩ := hz5
        have hkpz5_me_court_machine : Kp [] [] [] o_me_court_machine z5.2 := hkp_me_court_machine_1.trans (hz5_2.mono (by decide) (by decide) (by decide))
        refine wp_if (fun c6 => ?_) (fun c6 => ?_)
        · unfold bk_X7_suspects_29
          refine wp_lt (fun x7 ex7 => ?_)
          have tx7 : x7.toInt = v2_1.toInt + 1 := by rw [ex7]; exact i32_add rfl (by decide) (zk_l hh2.1 (by decide)) (zk_u (zu_e (k := 6) (zl_d c4) t3.2 (by decide)) (by decide))
          exact ih1 v1_1 x7 z5.2 hz5_1 hkpz5_me_court_machine ⟨hh1.1, hh1.2⟩ ⟨(zl_e (zq_r (c := (-1)) tx7 (by decide)) hh2.1 (by decide)), (zu_e (zd_e (c := 0) (Int.le_of_eq tx7) (zl_d c4) (by decide)) t3.2 (by decide))⟩ (zms_u (c := 6) hN1 (zq_r (c := (-1)) tx7 (by decide)) (zu_e (zl_d c4) t3.2 (by decide)) (by decide))
        · have t8 : 1 ≤ ((1 : Int32) <<< (v2_1 &&& 31)).toInt ∧ ((1 : Int32) <<< (v2_1 &&& 31)).toInt ≤ 64 := i32_shl6 (p := v2_1) hh2.1 (zu_e (zl_d c4) t3.2 (by decide))
          have t9 := i32_or7 (x := v1_1) (y := (1 : Int32) <<< (v2_1 &&& 31)) ⟨hh1.1, hh1.2⟩ ⟨(Int.le_trans (by decide) t8.1), (Int.le_trans t8.2 (by decide))⟩
          refine wp_lt (fun x10 ex10 => ?_)
          have tx10 : x10.toInt = (v1_1 ||| ((1 : Int32) <<< (v2_1 &&& 31))).toInt := by rw [ex10]
          unfold bk_X7_suspects_29
          refine wp_lt (fun x11 ex11 => ?_)
          have tx11 : x11.toInt = v2_1.toInt + 1 := by rw [ex11]; exact i32_add rfl (by decide) (zk_l hh2.1 (by decide)) (zk_u (zu_e (k := 6) (zl_d c4) t3.2 (by decide)) (by decide))
          exact ih1 x10 x11 z5.2 hz5_1 hkpz5_me_court_machine ⟨(zl_e (zq_0 tx10.symm) t9.1 (by decide)), (zu_e (zq_0 tx10) t9.2 (by decide))⟩ ⟨(zl_e (zq_r (c := (-1)) tx11 (by decide)) hh2.1 (by decide)), (zu_e (zd_e (c := 0) (Int.le_of_eq tx11) (zl_d c4) (by decide)) t3.2 (by decide))⟩ (zms_u (c := 6) hN1 (zq_r (c := (-1)) tx11 (by decide)) (zu_e (zl_d c4) t3.2 (by decide)) (by decide))
  exact lp1 zfu (0 : Int32) (0 : Int32) o_me_court_machine hI_me_court_machine Kp.rf ⟨by decide, by decide⟩ ⟨by decide, by decide⟩ (zme_u (l := 0) (Int.le_of_eq tz0.symm) (by decide))

set_option maxHeartbeats 4000000 in
set_option maxRecDepth 100000 in
theorem s_X8_canBe {rI : Nat → Option Nat} (o_me : Ob) (o_me_machine : Ob) (o_me_isles : Ob) (o_me_isles_now : Ob) (o_me_court : Ob) (o_me_study : Ob) (o_pool : List CR) (hI_me : IvX8 rI o_me) (hI_me_machine : IvX3 o_me_machine) (hI_me_isles : IvX2 o_pool o_me_isles) (hI_me_isles_now : IvX4 o_me_isles_now) (hI_me_court : IvX1 o_me_court) (hI_me_study : IvX7 o_me_study) (hI_pool : PLok o_pool)  : wp (f_X8_canBe   o_me o_me_machine o_me_isles o_me_isles_now o_me_court o_me_study o_pool) (fun (y : Int32 × Ob) => (0 ≤ y.1.toInt ∧ y.1.toInt ≤ 127) ∧ IvX3 y.2 ∧ Kp [] [] [] o_me_machine y.2) := by
  unfold f_X8_canBe
  refine wp_bd (s_X7_suspects   o_me_study o_me_court o_me_isles o_me_isles_now o_me_machine o_pool  hI_me_study hI_me_court hI_me_isles hI_me_isles_now hI_me_machine hI_pool  ) (fun z1 hz1 => ?_)
  obtain ⟨hz1_0, hz1_1, hz1_2⟩ := hz1
  have hkpz1_me_machine : Kp [] [] [] o_me_machine z1.2 := Kp.rf.trans (hz1_2.mono (by decide) (by decide) (by decide))
  refine wp_some ?_
  exact (show (0 ≤ z1.1.toInt ∧ z1.1.toInt ≤ 127) ∧ IvX3 z1.2 ∧ Kp [] [] [] o_me_machine z1.2 from ⟨⟨hz1_0.1, hz1_0.2⟩, hz1_1, hkpz1_me_machine⟩)

set_option maxHeartbeats 4000000 in
set_option maxRecDepth 100000 in
theorem s_X4_set_O (o_me : Ob) (o_a0 : Ob) (hI_me : IvX4 o_me) (hI_a0 : IvX4 o_a0)  : wp (f_X4_set_O   o_me o_a0) (fun (y : Ob) => IvX4 y ∧ Kp [] [] [] o_me y) := by
  have li0 : (0 : Int32).toInt = 0 := by decide
  have li1 : (7 : Int32).toInt = 7 := by decide
  unfold f_X4_set_O
  refine wp_gd (zcp_of (m0 := 7) (m1 := 7) rfl rfl (by omega) (by omega) (by omega) (by omega) (by omega)) ?_
  refine wp_lt (fun o1 eo1 => ?_)
  have hIo1 : IvX4 o1 := by rw [eo1]; exact icX4_0 hI_me hI_a0
  have hkpo1 : Kp [] [] [] o_me o1 := Kp.rf.trans (by rw [eo1]; exact Kp.cA (by decide) (by decide))
  refine wp_gd (zcp_of (m0 := 7) (m1 := 7) rfl rfl (by omega) (by omega) (by omega) (by omega) (by omega)) ?_
  refine wp_lt (fun o2 eo2 => ?_)
  have hIo2 : IvX4 o2 := by rw [eo2]; exact hIo1
  have hkpo2 : Kp [] [] [] o_me o2 := hkpo1.trans (by rw [eo2]; exact Kp.cA (by decide) (by decide))
  refine wp_lt (fun o3 eo3 => ?_)
  have hIo3 : IvX4 o3 := by rw [eo3]; exact hIo2
  have ko3_v : (gI o3 2).toInt = (gI o_a0 2).toInt := by rw [eo3]; rfl
  have hkpo3 : Kp [] [] [] o_me o3 := hkpo2.trans (by rw [eo3]; exact Kp.sI (by decide))
  refine wp_lt (fun o4 eo4 => ?_)
  have hIo4 : IvX4 o4 := by rw [eo4]; exact hIo3
  have ko4_k5 : (gI o4 2).toInt = (gI o3 2).toInt := by rw [eo4]; rfl
  have ko4_v : (gI o4 3).toInt = (gI o_a0 3).toInt := by rw [eo4]; rfl
  have hkpo4 : Kp [] [] [] o_me o4 := hkpo3.trans (by rw [eo4]; exact Kp.sI (by decide))
  refine wp_lt (fun o6 eo6 => ?_)
  have hIo6 : IvX4 o6 := by rw [eo6]; exact hIo4
  have ko6_k7 : (gI o6 2).toInt = (gI o4 2).toInt := by rw [eo6]; rfl
  have ko6_k8 : (gI o6 3).toInt = (gI o4 3).toInt := by rw [eo6]; rfl
  have ko6_v : (gI o6 4).toInt = (gI o_a0 4).toInt := by rw [eo6]; rfl
  have hkpo6 : Kp [] [] [] o_me o6 := hkpo4.trans (by rw [eo6]; exact Kp.sI (by decide))
  refine wp_some ?_
  exact (show IvX4 o6 ∧ Kp [] [] [] o_me o6 from ⟨hIo6, hkpo6⟩)

set_option maxHeartbeats 4000000 in
set_option maxRecDepth 100000 in
theorem s_X2_set_O (o_me : Ob) (o_me_now : Ob) (o_pool : List CR) (o_a0 : Ob) (o_a0_now : Ob) (hI_me : IvX2 o_pool o_me) (hI_me_now : IvX4 o_me_now) (hI_pool : PLok o_pool) (hI_a0 : IvX2 o_pool o_a0) (hI_a0_now : IvX4 o_a0_now)  : wp (f_X2_set_O   o_me o_me_now o_pool o_a0 o_a0_now) (fun (y : Ob × Ob) => IvX2 o_pool y.1 ∧ Kp [] [] [] o_me y.1 ∧ IvX4 y.2 ∧ Kp [] [] [] o_me_now y.2) := by
  have li0 : (0 : Int32).toInt = 0 := by decide
  have li1 : (28 : Int32).toInt = 28 := by decide
  have li2 : (6 : Int32).toInt = 6 := by decide
  have li3 : (7 : Int32).toInt = 7 := by decide
  unfold f_X2_set_O
  refine wp_bd (s_X4_set_O   o_me_now o_a0_now  hI_me_now hI_a0_now  ) (fun z1 hz1 => ?_)
  obtain ⟨hz1_0, hz1_1⟩ := hz1
  have hkpz1_me_now : Kp [] [] [] o_me_now z1 := Kp.rf.trans (hz1_1.mono (by decide) (by decide) (by decide))
  refine wp_gd (zcp_of (m0 := 7) (m1 := 7) rfl rfl (by omega) (by omega) (by omega) (by omega) (by omega)) ?_
  refine wp_lt (fun o2 eo2 => ?_)
  have hIo2 : IvX2 o_pool o2 := by rw [eo2]; exact hI_me
  have hkpo2 : Kp [] [] [] o_me o2 := Kp.rf.trans (by rw [eo2]; exact Kp.cA (by decide) (by decide))
  refine wp_gd (zcp_of (m0 := 28) (m1 := 28) rfl rfl (by omega) (by omega) (by omega) (by omega) (by omega)) ?_
  refine wp_lt (fun o3 eo3 => ?_)
  have hIo3 : IvX2 o_pool o3 := by rw [eo3]; exact hIo2
  have hkpo3 : Kp [] [] [] o_me o3 := hkpo2.trans (by rw [eo3]; exact Kp.cA (by decide) (by decide))
  refine wp_gd (zcp_of (m0 := 7) (m1 := 7) rfl rfl (by omega) (by omega) (by omega) (by omega) (by omega)) ?_
  refine wp_lt (fun o4 eo4 => ?_)
  have hIo4 : IvX2 o_pool o4 := by rw [eo4]; exact hIo3
  have hkpo4 : Kp [] [] [] o_me o4 := hkpo3.trans (by rw [eo4]; exact Kp.cA (by decide) (by decide))
  refine wp_gd (zcp_of (m0 := 6) (m1 := 6) rfl rfl (by omega) (by omega) (by omega) (by omega) (by omega)) ?_
  refine wp_lt (fun o5 eo5 => ?_)
  have hIo5 : IvX2 o_pool o5 := by rw [eo5]; exact icX2_4 hIo4 hI_a0
  have hkpo5 : Kp [] [] [] o_me o5 := hkpo4.trans (by rw [eo5]; exact Kp.cA (by decide) (by decide))
  refine wp_gd (zcp_of (m0 := 6) (m1 := 6) rfl rfl (by omega) (by omega) (by omega) (by omega) (by omega)) ?_
  refine wp_lt (fun o6 eo6 => ?_)
  have hIo6 : IvX2 o_pool o6 := by rw [eo6]; exact hIo5
  have hkpo6 : Kp [] [] [] o_me o6 := hkpo5.trans (by rw [eo6]; exact Kp.cA (by decide) (by decide))
  have lp1 : ∀ (N1 : Nat) (v2_1 : Int32) (o_me_1 : Ob) (o_me_now_1 : Ob), IvX2 o_pool o_me_1 → Kp [] [] [] o_me o_me_1 → IvX4 o_me_now_1 → Kp [] [] [] o_me_now o_me_now_1 → (0 ≤ v2_1.toInt ∧ v2_1.toInt ≤ 6) → (6 - v2_1.toInt).toNat < N1 → wp (lp_X2_set_O_88 o_pool o_a0 o_a0_now  N1 (v2_1, o_me_1, o_me_now_1)) (fun (y : Ob × Ob) => IvX2 o_pool y.1 ∧ Kp [] [] [] o_me y.1 ∧ IvX4 y.2 ∧ Kp [] [] [] o_me_now y.2) := by
    intro N1
    induction N1 with
    | zero =>
      intro v2_1 o_me_1 o_me_now_1 hI_me_1 hkp_me_1 hI_me_now_1 hkp_me_now_1 hh7 hN1
      exact absurd hN1 (Nat.not_lt_zero _)
    | succ N1 ihx =>
      have ih1 := ihx
      intro v2_1 o_me_1 o_me_now_1 hI_me_1 hkp_me_1 hI_me_now_1 hkp_me_now_1 hh7 hN1
      show wp (lb_X2_set_O_88 o_pool o_a0 o_a0_now  (lp_X2_set_O_88 o_pool o_a0 o_a0_now  N1) v2_1 o_me_1 o_me_now_1) (fun (y : Ob × Ob) => IvX2 o_pool y.1 ∧ Kp [] [] [] o_me y.1 ∧ IvX4 y.2 ∧ Kp [] [] [] o_me_now y.2)
      unfold lb_X2_set_O_88
      refine wp_if (fun c8 => ?_) (fun c8 => ?_)
      · have c8 := cv_ge (a := v2_1.toInt) (b := 6) rfl (by decide) c8
        have t9 := igX2_7 hI_a0
        refine wp_lt (fun o10 eo10 => ?_)
        have hIo10 : IvX2 o_pool o10 := by rw [eo10]; exact ipX2_7 hI_me_1 ⟨t9.1, t9.2⟩
        have ko10_v : (gI o10 7).toInt = (gI o_a0 7).toInt := by rw [eo10]; rfl
        have hkpo10 : Kp [] [] [] o_me o10 := hkp_me_1.trans (by rw [eo10]; exact Kp.sI (by decide))
        have t11 := igX2_8 hI_a0
        refine wp_lt (fun o12 eo12 => ?_)
        have hIo12 : IvX2 o_pool o12 := by rw [eo12]; exact ipX2_8 hIo10 ⟨t11.1, t11.2⟩
        have ko12_k13 : (gI o12 7).toInt = (gI o10 7).toInt := by rw [eo12]; rfl
        have ko12_v : (gI o12 8).toInt = (gI o_a0 8).toInt := by rw [eo12]; rfl
        have hkpo12 : Kp [] [] [] o_me o12 := hkpo10.trans (by rw [eo12]; exact Kp.sI (by decide))
        have t14 := igX2_9 hI_a0
        refine wp_lt (fun o15 eo15 => ?_)
        have hIo15 : IvX2 o_pool o15 := by rw [eo15]; exact ipX2_9 hIo12 ⟨t14.1, t14.2⟩
        have ko15_k16 : (gI o15 7).toInt = (gI o12 7).toInt := by rw [eo15]; rfl
        have ko15_k17 : (gI o15 8).toInt = (gI o12 8).toInt := by rw [eo15]; rfl
        have ko15_v : (gI o15 9).toInt = (gI o_a0 9).toInt := by rw [eo15]; rfl
        have hkpo15 : Kp [] [] [] o_me o15 := hkpo12.trans (by rw [eo15]; exact Kp.sI (by decide))
        have t18 := igX2_10 hI_a0
        refine wp_lt (fun o19 eo19 => ?_)
        have hIo19 : IvX2 o_pool o19 := by rw [eo19]; exact ipX2_10 hIo15 ⟨t18.1, t18.2⟩
        have ko19_k20 : (gI o19 7).toInt = (gI o15 7).toInt := by rw [eo19]; rfl
        have ko19_k21 : (gI o19 8).toInt = (gI o15 8).toInt := by rw [eo19]; rfl
        have ko19_k22 : (gI o19 9).toInt = (gI o15 9).toInt := by rw [eo19]; rfl
        have ko19_v : (gI o19 10).toInt = (gI o_a0 10).toInt := by rw [eo19]; rfl
        have hkpo19 : Kp [] [] [] o_me o19 := hkpo15.trans (by rw [eo19]; exact Kp.sI (by decide))
        refine wp_lt (fun o23 eo23 => ?_)
        have hIo23 : IvX2 o_pool o23 := by rw [eo23]; exact hIo19
        have ko23_k24 : (gI o23 10).toInt = (gI o19 10).toInt := by rw [eo23]; rfl
        have ko23_k25 : (gI o23 7).toInt = (gI o19 7).toInt := by rw [eo23]; rfl
        have ko23_k26 : (gI o23 8).toInt = (gI o19 8).toInt := by rw [eo23]; rfl
        have ko23_k27 : (gI o23 9).toInt = (gI o19 9).toInt := by rw [eo23]; rfl
        have ko23_v : (gI o23 11).toInt = (gI o_a0 11).toInt := by rw [eo23]; rfl
        have hkpo23 : Kp [] [] [] o_me o23 := hkpo19.trans (by rw [eo23]; exact Kp.sI (by decide))
        refine wp_lt (fun o28 eo28 => ?_)
        have hIo28 : IvX2 o_pool o28 := by rw [eo28]; exact hIo23
        have ko28_k29 : (gI o28 10).toInt = (gI o23 10).toInt := by rw [eo28]; rfl
        have ko28_k30 : (gI o28 11).toInt = (gI o23 11).toInt := by rw [eo28]; rfl
        have ko28_k31 : (gI o28 7).toInt = (gI o23 7).toInt := by rw [eo28]; rfl
        have ko28_k32 : (gI o28 8).toInt = (gI o23 8).toInt := by rw [eo28]; rfl
        have ko28_k33 : (gI o28 9).toInt = (gI o23 9).toInt := by rw [eo28]; rfl
        have ko28_v : (gI o28 12).toInt = (gI o_a0 12).toInt := by rw [eo28]; rfl
        have hkpo28 : Kp [] [] [] o_me o28 := hkpo23.trans (by rw [eo28]; exact Kp.sI (by decide))
        refine wp_some ?_
        exact (show IvX2 o_pool o28 ∧ Kp [] [] [] o_me o28 ∧ IvX4 o_me_now_1 ∧ Kp [] [] [] o_me_now o_me_now_1 from ⟨hIo28, hkpo28, hI_me_now_1, hkp_me_now_1⟩)
      · have c8 := cv_nge (a := v2_1.toInt) (b := 6) rfl (by decide) c8
        refine wp_gd (zin_of (m := 6) rfl hh7.1 (zlt_m (c := 5) (zlt_u (c := 5) c8 (by decide)) (by decide))) ?_
        have po34 := irX2 hI_a0 (j := v2_1) hh7.1 (zlt_u (c := 5) c8 (by decide))
        refine wp_gd po34 ?_
        refine wp_gd (zin_of (m := 6) rfl hh7.1 (zlt_m (c := 5) (zlt_u (c := 5) c8 (by decide)) (by decide))) ?_
        refine wp_lt (fun o35 eo35 => ?_)
        have hIo35 : IvX2 o_pool o35 := by rw [eo35]; exact iqX2 hI_me_1 po34
        have hkpo35 : Kp [] [] [] o_me o35 := hkp_me_1.trans (by rw [eo35]; exact Kp.tR)
        refine wp_lt (fun x36 ex36 => ?_)
        have tx36 : x36.toInt = v2_1.toInt + 1 := by rw [ex36]; exact i32_add rfl (by decide) (zk_l hh7.1 (by decide)) (zk_u (zlt_u (c := 5) c8 (by decide)) (by decide))
        exact ih1 x36 o35 o_me_now_1 hIo35 hkpo35 hI_me_now_1 hkp_me_now_1 ⟨(zl_e (zq_r (c := (-1)) tx36 (by decide)) hh7.1 (by decide)), (zu_e (Int.le_of_eq tx36) (zlt_u (c := 5) c8 (by decide)) (by decide))⟩ (zms_u (c := 5) hN1 (zq_r (c := (-1)) tx36 (by decide)) (zlt_u (c := 5) c8 (by decide)) (by decide))
  exact lp1 zfu (0 : Int32) o6 z1 hIo6 hkpo6 hz1_0 hkpz1_me_now ⟨by decide, by decide⟩ (zme_u (l := 0) (Int.le_of_eq tz0.symm) (by decide))

set_option maxHeartbeats 4000000 in
set_option maxRecDepth 100000 in
theorem s_X8_nextDraw (p0 : Int32)   : wp (f_X8_nextDraw   p0) (fun (y : Int32) => True) := by
  unfold f_X8_nextDraw
  refine wp_some ?_
  exact trivial

set_option maxHeartbeats 4000000 in
set_option maxRecDepth 100000 in
theorem s_X1_at (o_me : Ob) (p0 : Int32) (hI_me : IvX1 o_me)  : wp (f_X1_at   o_me p0) (fun (y : Int32) => ((-1) ≤ y.toInt ∧ y.toInt ≤ 6)) := by
  unfold f_X1_at
  refine wp_if (fun c1 => ?_) (fun c1 => ?_)
  · have c1 := cv_lt (a := p0.toInt) (b := 1) rfl (by decide) c1
    refine wp_some ?_
    exact (show ((-1) ≤ (-1 : Int32).toInt ∧ (-1 : Int32).toInt ≤ 6) from ⟨by decide, by decide⟩)
  · have c1 := cv_nlt (a := p0.toInt) (b := 1) rfl (by decide) c1
    have t2 := igX1_4 hI_me
    refine wp_if (fun c3 => ?_) (fun c3 => ?_)
    · have c3 := cv_gt (a := p0.toInt) (b := (gI o_me 4).toInt) rfl rfl c3
      refine wp_some ?_
      exact (show ((-1) ≤ (-1 : Int32).toInt ∧ (-1 : Int32).toInt ≤ 6) from ⟨by decide, by decide⟩)
    · have c3 := cv_ngt (a := p0.toInt) (b := (gI o_me 4).toInt) rfl rfl c3
      have t5 : (p0 - (1 : Int32)).toInt = p0.toInt - 1 := i32_sub rfl (by decide) (zs_l c1 (by decide)) (zs_u (zu_e (k := 7) (zl_0 c3) t2.2 (by decide)) (by decide))
      refine wp_gd (zin_of (m := 7) rfl (zl_e (zq_t (c := 1) t5 (by decide)) c1 (by decide)) (zlt_m (c := 6) (zu_e (zd_e (c := (-1)) (zq_s (c := (-1)) t5 (by decide)) (zl_0 c3) (by decide)) t2.2 (by decide)) (by decide))) ?_
      have t6 := iaX1_2_0 hI_me (j := p0 - (1 : Int32)) (zl_e (zq_t (c := 1) t5 (by decide)) c1 (by decide)) (zu_e (zd_e (c := (-1)) (zq_s (c := (-1)) t5 (by decide)) (zl_0 c3) (by decide)) t2.2 (by decide))
      refine wp_some ?_
      exact (show ((-1) ≤ (gA o_me 2 (p0 - (1 : Int32)).toNatClampNeg).toInt ∧ (gA o_me 2 (p0 - (1 : Int32)).toNatClampNeg).toInt ≤ 6) from ⟨(Int.le_trans (by decide) t6.1), t6.2⟩)

set_option maxHeartbeats 4000000 in
set_option maxRecDepth 100000 in
theorem s_X1_wins_Q (o_me : Ob) (o_me_isles : Ob) (o_me_isles_now : Ob) (o_me_machine : Ob) (o_pool : List CR) (p0 : Option Nat) (p1 : Int32) (p2 : Int32) (p3 : Int32) (hI_me : IvX1 o_me) (hI_me_isles : IvX2 o_pool o_me_isles) (hI_me_isles_now : IvX4 o_me_isles_now) (hI_me_machine : IvX3 o_me_machine) (hI_pool : PLok o_pool) (po_p0 : zpo o_pool p0 = true) (q0 : 0 ≤ p1.toInt ∧ p1.toInt ≤ 6) (q1 : 0 ≤ p2.toInt ∧ p2.toInt ≤ 3) : wp (f_X1_wins_Q   o_me o_me_isles o_me_isles_now o_me_machine o_pool p0 p1 p2 p3) (fun (y : Int32 × Ob) => IvX3 y.2 ∧ Kp [] [] [] o_me_machine y.2) := by
  unfold f_X1_wins_Q
  refine wp_bd (Q := fun (z9 : Int64 × Ob) => IvX3 z9.2 ∧ Kp [] [] [] o_me_machine z9.2) (wp_zop po_p0 ⟨(_, o_me_machine), rfl, hI_me_machine, Kp.rf⟩ (fun c9 hc9 => s_X1_told_O c9.2.2.2.1 c9.2.2.2.2.1 o_me o_me_isles o_me_isles_now o_me_machine c9.2.2.2.2.2 (2 : Int32) p1 p2 p3 hI_me hI_me_isles hI_me_isles_now hI_me_machine (hI_pool c9 hc9))) (fun z1 hz1 => ?_)
  obtain ⟨hz1_0, hz1_1⟩ := hz1
  have hkpz1 : Kp [] [] [] o_me_machine z1.2 := Kp.rf.trans (hz1_1.mono (by decide) (by decide) (by decide))
  refine wp_if (fun c2 => ?_) (fun c2 => ?_)
  · refine wp_some ?_
    exact (show IvX3 z1.2 ∧ Kp [] [] [] o_me_machine z1.2 from ⟨hz1_0, hkpz1⟩)
  · refine wp_bd (s_X1_nearest_v1   z1.1 (9 : Int32)    ⟨by decide, by decide⟩) (fun z3 hz3 => ?_)
    refine wp_some ?_
    exact (show IvX3 z1.2 ∧ Kp [] [] [] o_me_machine z1.2 from ⟨hz1_0, hkpz1⟩)

set_option maxHeartbeats 4000000 in
set_option maxRecDepth 100000 in
theorem s_X4_addPrizes (o_me : Ob) (p0 : Int32) (p1 : Int32) (hI_me : IvX4 o_me) (q0 : 0 ≤ p0.toInt ∧ p0.toInt ≤ 6) : wp (f_X4_addPrizes   o_me p0 p1) (fun (y : Ob) => IvX4 y ∧ Kp [2, 3, 4] [0] [] o_me y) := by
  unfold f_X4_addPrizes
  refine wp_gd (zin_of (m := 7) rfl q0.1 (zlt_m (c := 6) q0.2 (by decide))) ?_
  refine wp_gd (zin_of (m := 7) rfl q0.1 (zlt_m (c := 6) q0.2 (by decide))) ?_
  refine wp_lt (fun o4 eo4 => ?_)
  have hIo4 : IvX4 o4 := by rw [eo4]; exact hI_me
  have hkpo4 : Kp [2, 3, 4] [0] [] o_me o4 := Kp.rf.trans (by rw [eo4]; exact Kp.tA (by decide) (by decide))
  refine wp_some ?_
  exact (show IvX4 o4 ∧ Kp [2, 3, 4] [0] [] o_me o4 from ⟨hIo4, hkpo4⟩)

set_option maxHeartbeats 4000000 in
set_option maxRecDepth 100000 in
theorem s_X1_heldRace (o_me : Ob) (o_me_isles : Ob) (o_me_isles_now : Ob) (o_me_machine : Ob) (o_pool : List CR) (p0 : Int32) (hI_me : IvX1 o_me) (hI_me_isles : IvX2 o_pool o_me_isles) (hI_me_isles_now : IvX4 o_me_isles_now) (hI_me_machine : IvX3 o_me_machine) (hI_pool : PLok o_pool) (q0 : 0 ≤ p0.toInt ∧ p0.toInt ≤ 3) : wp (f_X1_heldRace   o_me o_me_isles o_me_isles_now o_me_machine o_pool p0) (fun (y : Int32 × Ob × Ob) => ((-1) ≤ y.1.toInt ∧ y.1.toInt ≤ 6) ∧ IvX4 y.2.1 ∧ Kp [4] [] [] o_me_isles_now y.2.1 ∧ IvX3 y.2.2 ∧ Kp [] [] [] o_me_machine y.2.2) := by
  unfold f_X1_heldRace
  refine wp_bd (s_X2_lawInForce   o_me_isles  hI_me_isles  ) (fun z1 hz1 => ?_)
  have hz1_0 := hz1
  refine wp_bd (s_X1_at   o_me (1 : Int32)  hI_me  ) (fun z2 hz2 => ?_)
  have hz2_0 := hz2
  refine wp_bd (s_X1_at   o_me (2 : Int32)  hI_me  ) (fun z3 hz3 => ?_)
  have hz3_0 := hz3
  refine wp_bd (s_X1_at   o_me (3 : Int32)  hI_me  ) (fun z4 hz4 => ?_)
  have hz4_0 := hz4
  refine wp_if (fun c5 => ?_) (fun c5 => ?_)
  · have c5 := cv_eq (a := z2.toInt) (b := (-1)) rfl (by decide) c5
    obtain ⟨w6, ew6⟩ : ∃ z : Int32, z = (0 : Int32) := ⟨_, rfl⟩
    rw [show bk_X1_heldRace_45 o_me o_me_isles o_pool  p0 z1 z2 z3 z4 (0 : Int32) o_me_isles_now o_me_machine = bk_X1_heldRace_45 o_me o_me_isles o_pool  p0 z1 z2 z3 z4 w6 o_me_isles_now o_me_machine from by rw [ew6]]
    unfold bk_X1_heldRace_45
    refine wp_if (fun c7 => ?_) (fun c7 => ?_)
    · have c7 := cv_eq (a := z3.toInt) (b := (-1)) rfl (by decide) c7
      obtain ⟨w8, ew8⟩ : ∃ z : Int32, z = (0 : Int32) := ⟨_, rfl⟩
      rw [show bk_X1_heldRace_66 o_me o_me_isles o_pool  p0 z1 z2 z3 z4 w6 (0 : Int32) o_me_isles_now o_me_machine = bk_X1_heldRace_66 o_me o_me_isles o_pool  p0 z1 z2 z3 z4 w6 w8 o_me_isles_now o_me_machine from by rw [ew8]]
      unfold bk_X1_heldRace_66
      refine wp_if (fun c9 => ?_) (fun c9 => ?_)
      · have c9 := cv_eq (a := z4.toInt) (b := (-1)) rfl (by decide) c9
        obtain ⟨w10, ew10⟩ : ∃ z : Int32, z = (0 : Int32) := ⟨_, rfl⟩
        rw [show bk_X1_heldRace_87 o_me o_me_isles o_pool  p0 z1 z2 z3 z4 w6 w8 (0 : Int32) o_me_isles_now o_me_machine = bk_X1_heldRace_87 o_me o_me_isles o_pool  p0 z1 z2 z3 z4 w6 w8 w10 o_me_isles_now o_me_machine from by rw [ew10]]
        unfold bk_X1_heldRace_87
        refine wp_if (fun c11 => ?_) (fun c11 => ?_)
        · have c11 := cv_eq (a := z3.toInt) (b := (-1)) rfl (by decide) c11
          unfold bk_X1_heldRace_145
          refine wp_if (fun c12 => ?_) (fun c12 => ?_)
          · have c12 := cv_eq (a := z2.toInt) (b := (-1)) rfl (by decide) c12
            unfold bk_X1_heldRace_163
            refine wp_if (fun c13 => ?_) (fun c13 => ?_)
            · have c13 := cv_eq (a := z4.toInt) (b := (-1)) rfl (by decide) c13
              unfold bk_X1_heldRace_183
              have lp1 : ∀ (N1 : Nat) (v3_1 : Int32) (v9_1 : Int32) (o_me_isles_now_1 : Ob) (o_me_machine_1 : Ob), IvX4 o_me_isles_now_1 → Kp [4] [] [] o_me_isles_now o_me_isles_now_1 → IvX3 o_me_machine_1 → Kp [] [] [] o_me_machine o_me_machine_1 → ((-1) ≤ v3_1.toInt ∧ v3_1.toInt ≤ (-1)) → (0 ≤ v9_1.toInt ∧ v9_1.toInt ≤ 7) → (7 - v9_1.toInt).toNat < N1 → wp (lp_X1_heldRace_186 o_me o_me_isles o_pool  N1 (v3_1, v9_1, o_me_isles_now_1, o_me_machine_1)) (fun (y : Int32 × Ob × Ob) => ((-1) ≤ y.1.toInt ∧ y.1.toInt ≤ 6) ∧ IvX4 y.2.1 ∧ Kp [4] [] [] o_me_isles_now y.2.1 ∧ IvX3 y.2.2 ∧ Kp [] [] [] o_me_machine y.2.2) := by
                intro N1
                induction N1 with
                | zero =>
                  intro v3_1 v9_1 o_me_isles_now_1 o_me_machine_1 hI_me_isles_now_1 hkp_me_isles_now_1 hI_me_machine_1 hkp_me_machine_1 hh14 hh15 hN1
                  exact absurd hN1 (Nat.not_lt_zero _)
                | succ N1 ihx =>
                  have ih1 := ihx
                  intro v3_1 v9_1 o_me_isles_now_1 o_me_machine_1 hI_me_isles_now_1 hkp_me_isles_now_1 hI_me_machine_1 hkp_me_machine_1 hh14 hh15 hN1
                  show wp (lb_X1_heldRace_186 o_me o_me_isles o_pool  (lp_X1_heldRace_186 o_me o_me_isles o_pool  N1) v3_1 v9_1 o_me_isles_now_1 o_me_machine_1) (fun (y : Int32 × Ob × Ob) => ((-1) ≤ y.1.toInt ∧ y.1.toInt ≤ 6) ∧ IvX4 y.2.1 ∧ Kp [4] [] [] o_me_isles_now y.2.1 ∧ IvX3 y.2.2 ∧ Kp [] [] [] o_me_machine y.2.2)
                  unfold lb_X1_heldRace_186
                  have t16 := igX1_4 hI_me
                  refine wp_if (fun c17 => ?_) (fun c17 => ?_)
                  · have c17 := cv_ge (a := v9_1.toInt) (b := (gI o_me 4).toInt) rfl rfl c17
                    refine wp_some ?_
                    exact (show ((-1) ≤ v3_1.toInt ∧ v3_1.toInt ≤ 6) ∧ IvX4 o_me_isles_now_1 ∧ Kp [4] [] [] o_me_isles_now o_me_isles_now_1 ∧ IvX3 o_me_machine_1 ∧ Kp [] [] [] o_me_machine o_me_machine_1 from ⟨⟨hh14.1, (Int.le_trans hh14.2 (by decide))⟩, hI_me_isles_now_1, hkp_me_isles_now_1, hI_me_machine_1, hkp_me_machine_1⟩)
                  · have c17 := cv_nge (a := v9_1.toInt) (b := (gI o_me 4).toInt) rfl rfl c17
                    refine wp_gd (zin_of (m := 7) rfl hh15.1 (zlt_m (c := 6) (zu_e (zl_d c17) t16.2 (by decide)) (by decide))) ?_
                    refine wp_lt (fun o20 eo20 => ?_)
                    have hIo20 : IvX4 o20 := by rw [eo20]; exact hI_me_isles_now_1
                    have hkpo20 : Kp [4] [] [] o_me_isles_now o20 := hkp_me_isles_now_1.trans (by rw [eo20]; exact Kp.sI (by decide))
                    refine wp_lt (fun x21 ex21 => ?_)
                    have tx21 : x21.toInt = v9_1.toInt + 1 := by rw [ex21]; exact i32_add rfl (by decide) (zk_l hh15.1 (by decide)) (zk_u (zu_e (k := 6) (zl_d c17) t16.2 (by decide)) (by decide))
                    exact ih1 v3_1 x21 o20 o_me_machine_1 hIo20 hkpo20 hI_me_machine_1 hkp_me_machine_1 ⟨hh14.1, hh14.2⟩ ⟨(zl_e (zq_r (c := (-1)) tx21 (by decide)) hh15.1 (by decide)), (zu_e (zd_e (c := 0) (Int.le_of_eq tx21) (zl_d c17) (by decide)) t16.2 (by decide))⟩ (zms_u (c := 6) hN1 (zq_r (c := (-1)) tx21 (by decide)) (zu_e (zl_d c17) t16.2 (by decide)) (by decide))
              exact lp1 zfu z2 (0 : Int32) o_me_isles_now o_me_machine hI_me_isles_now Kp.rf hI_me_machine Kp.rf ⟨hz2_0.1, (Int.le_of_eq c5)⟩ ⟨by decide, by decide⟩ (zme_u (l := 0) (Int.le_of_eq tz0.symm) (by decide))
            · have c13 := cv_ne (a := z4.toInt) (b := (-1)) rfl (by decide) c13
              exact absurd (Int.le_antisymm (Int.le_of_eq c9) hz4_0.1) c13
          · have c12 := cv_ne (a := z2.toInt) (b := (-1)) rfl (by decide) c12
            exact absurd (Int.le_antisymm (Int.le_of_eq c5) hz2_0.1) c12
        · have c11 := cv_ne (a := z3.toInt) (b := (-1)) rfl (by decide) c11
          exact absurd (Int.le_antisymm (Int.le_of_eq c7) hz3_0.1) c11
      · have c9 := cv_ne (a := z4.toInt) (b := (-1)) rfl (by decide) c9
        refine wp_bd (s_X1_wins_Q   o_me o_me_isles o_me_isles_now o_me_machine o_pool z1 z4 p0 (3 : Int32)  hI_me hI_me_isles hI_me_isles_now hI_me_machine hI_pool hz1_0 ⟨(zn_l (c := 0) hz4_0.1 c9 (by decide)), hz4_0.2⟩ ⟨q0.1, q0.2⟩) (fun z22 hz22 => ?_)
        obtain ⟨hz22_0, hz22_1⟩ := hz22
        have hkpz22_me_machine : Kp [] [] [] o_me_machine z22.2 := Kp.rf.trans (hz22_1.mono (by decide) (by decide) (by decide))
        unfold bk_X1_heldRace_87
        refine wp_if (fun c23 => ?_) (fun c23 => ?_)
        · have c23 := cv_eq (a := z3.toInt) (b := (-1)) rfl (by decide) c23
          unfold bk_X1_heldRace_145
          refine wp_if (fun c24 => ?_) (fun c24 => ?_)
          · have c24 := cv_eq (a := z2.toInt) (b := (-1)) rfl (by decide) c24
            unfold bk_X1_heldRace_163
            refine wp_if (fun c25 => ?_) (fun c25 => ?_)
            · have c25 := cv_eq (a := z4.toInt) (b := (-1)) rfl (by decide) c25
              exact absurd c25 c9
            · refine wp_bd (s_X4_addPrizes   o_me_isles_now z4 z22.1  hI_me_isles_now  ⟨(zn_l (c := 0) hz4_0.1 c9 (by decide)), hz4_0.2⟩) (fun z26 hz26 => ?_)
              obtain ⟨hz26_0, hz26_1⟩ := hz26
              have hkpz26_me_isles_now : Kp [4] [] [] o_me_isles_now z26 := Kp.rf.trans (hz26_1.mono (by decide) (by decide) (by decide))
              unfold bk_X1_heldRace_183
              have lp2 : ∀ (N2 : Nat) (v3_2 : Int32) (v9_2 : Int32) (o_me_isles_now_2 : Ob) (o_me_machine_2 : Ob), IvX4 o_me_isles_now_2 → Kp [4] [] [] o_me_isles_now o_me_isles_now_2 → IvX3 o_me_machine_2 → Kp [] [] [] o_me_machine o_me_machine_2 → ((-1) ≤ v3_2.toInt ∧ v3_2.toInt ≤ (-1)) → (0 ≤ v9_2.toInt ∧ v9_2.toInt ≤ 7) → (7 - v9_2.toInt).toNat < N2 → wp (lp_X1_heldRace_186 o_me o_me_isles o_pool  N2 (v3_2, v9_2, o_me_isles_now_2, o_me_machine_2)) (fun (y : Int32 × Ob × Ob) => ((-1) ≤ y.1.toInt ∧ y.1.toInt ≤ 6) ∧ IvX4 y.2.1 ∧ Kp [4] [] [] o_me_isles_now y.2.1 ∧ IvX3 y.2.2 ∧ Kp [] [] [] o_me_machine y.2.2) := by
                intro N2
                induction N2 with
                | zero =>
                  intro v3_2 v9_2 o_me_isles_now_2 o_me_machine_2 hI_me_isles_now_2 hkp_me_isles_now_2 hI_me_machine_2 hkp_me_machine_2 hh27 hh28 hN2
                  exact absurd hN2 (Nat.not_lt_zero _)
                | succ N2 ihx =>
                  have ih2 := ihx
                  intro v3_2 v9_2 o_me_isles_now_2 o_me_machine_2 hI_me_isles_now_2 hkp_me_isles_now_2 hI_me_machine_2 hkp_me_machine_2 hh27 hh28 hN2
                  show wp (lb_X1_heldRace_186 o_me o_me_isles o_pool  (lp_X1_heldRace_186 o_me o_me_isles o_pool  N2) v3_2 v9_2 o_me_isles_now_2 o_me_machine_2) (fun (y : Int32 × Ob × Ob) => ((-1) ≤ y.1.toInt ∧ y.1.toInt ≤ 6) ∧ IvX4 y.2.1 ∧ Kp [4] [] [] o_me_isles_now y.2.1 ∧ IvX3 y.2.2 ∧ Kp [] [] [] o_me_machine y.2.2)
                  unfold lb_X1_heldRace_186
                  have t29 := igX1_4 hI_me
                  refine wp_if (fun c30 => ?_) (fun c30 => ?_)
                  · have c30 := cv_ge (a := v9_2.toInt) (b := (gI o_me 4).toInt) rfl rfl c30
                    refine wp_some ?_
                    exact (show ((-1) ≤ v3_2.toInt ∧ v3_2.toInt ≤ 6) ∧ IvX4 o_me_isles_now_2 ∧ Kp [4] [] [] o_me_isles_now o_me_isles_now_2 ∧ IvX3 o_me_machine_2 ∧ Kp [] [] [] o_me_machine o_me_machine_2 from ⟨⟨hh27.1, (Int.le_trans hh27.2 (by decide))⟩, hI_me_isles_now_2, hkp_me_isles_now_2, hI_me_machine_2, hkp_me_machine_2⟩)
                  · have c30 := cv_nge (a := v9_2.toInt) (b := (gI o_me 4).toInt) rfl rfl c30
                    refine wp_gd (zin_of (m := 7) rfl hh28.1 (zlt_m (c := 6) (zu_e (zl_d c30) t29.2 (by decide)) (by decide))) ?_
                    refine wp_lt (fun o33 eo33 => ?_)
                    have hIo33 : IvX4 o33 := by rw [eo33]; exact hI_me_isles_now_2
                    have hkpo33 : Kp [4] [] [] o_me_isles_now o33 := hkp_me_isles_now_2.trans (by rw [eo33]; exact Kp.sI (by decide))
                    refine wp_lt (fun x34 ex34 => ?_)
                    have tx34 : x34.toInt = v9_2.toInt + 1 := by rw [ex34]; exact i32_add rfl (by decide) (zk_l hh28.1 (by decide)) (zk_u (zu_e (k := 6) (zl_d c30) t29.2 (by decide)) (by decide))
                    exact ih2 v3_2 x34 o33 o_me_machine_2 hIo33 hkpo33 hI_me_machine_2 hkp_me_machine_2 ⟨hh27.1, hh27.2⟩ ⟨(zl_e (zq_r (c := (-1)) tx34 (by decide)) hh28.1 (by decide)), (zu_e (zd_e (c := 0) (Int.le_of_eq tx34) (zl_d c30) (by decide)) t29.2 (by decide))⟩ (zms_u (c := 6) hN2 (zq_r (c := (-1)) tx34 (by decide)) (zu_e (zl_d c30) t29.2 (by decide)) (by decide))
              exact lp2 zfu z2 (0 : Int32) z26 z22.2 hz26_0 hkpz26_me_isles_now hz22_0 hkpz22_me_machine ⟨hz2_0.1, (Int.le_of_eq c5)⟩ ⟨by decide, by decide⟩ (zme_u (l := 0) (Int.le_of_eq tz0.symm) (by decide))
          · have c24 := cv_ne (a := z2.toInt) (b := (-1)) rfl (by decide) c24
            exact absurd (Int.le_antisymm (Int.le_of_eq c5) hz2_0.1) c24
        · have c23 := cv_ne (a := z3.toInt) (b := (-1)) rfl (by decide) c23
          exact absurd (Int.le_antisymm (Int.le_of_eq c7) hz3_0.1) c23
    · have c7 := cv_ne (a := z3.toInt) (b := (-1)) rfl (by decide) c7
      refine wp_bd (s_X1_wins_Q   o_me o_me_isles o_me_isles_now o_me_machine o_pool z1 z3 p0 (2 : Int32)  hI_me hI_me_isles hI_me_isles_now hI_me_machine hI_pool hz1_0 ⟨(zn_l (c := 0) hz3_0.1 c7 (by decide)), hz3_0.2⟩ ⟨q0.1, q0.2⟩) (fun z35 hz35 => ?_)
      obtain ⟨hz35_0, hz35_1⟩ := hz35
      have hkpz35_me_machine : Kp [] [] [] o_me_machine z35.2 := Kp.rf.trans (hz35_1.mono (by decide) (by decide) (by decide))
      unfold bk_X1_heldRace_66
      refine wp_if (fun c36 => ?_) (fun c36 => ?_)
      · have c36 := cv_eq (a := z4.toInt) (b := (-1)) rfl (by decide) c36
        obtain ⟨w37, ew37⟩ : ∃ z : Int32, z = (0 : Int32) := ⟨_, rfl⟩
        rw [show bk_X1_heldRace_87 o_me o_me_isles o_pool  p0 z1 z2 z3 z4 w6 z35.1 (0 : Int32) o_me_isles_now z35.2 = bk_X1_heldRace_87 o_me o_me_isles o_pool  p0 z1 z2 z3 z4 w6 z35.1 w37 o_me_isles_now z35.2 from by rw [ew37]]
        unfold bk_X1_heldRace_87
        refine wp_if (fun c38 => ?_) (fun c38 => ?_)
        · have c38 := cv_eq (a := z3.toInt) (b := (-1)) rfl (by decide) c38
          exact absurd c38 c7
        · refine wp_bd (s_X1_turnsTo_Q   o_me o_me_isles o_me_isles_now z35.2 o_pool z1 z3 p0  hI_me hI_me_isles hI_me_isles_now hz35_0 hI_pool hz1_0 ⟨(zn_l (c := 0) hz3_0.1 c7 (by decide)), hz3_0.2⟩ ⟨q0.1, q0.2⟩) (fun z39 hz39 => ?_)
          obtain ⟨hz39_0, hz39_1, hz39_2⟩ := hz39
          have hkpz39_me_machine : Kp [] [] [] o_me_machine z39.2 := hkpz35_me_machine.trans (hz39_2.mono (by decide) (by decide) (by decide))
          refine wp_gd (zin_of (m := 7) rfl (zn_l (c := 0) hz3_0.1 c7 (by decide)) (zlt_m (c := 6) hz3_0.2 (by decide))) ?_
          refine wp_lt (fun o40 eo40 => ?_)
          have hIo40 : IvX4 o40 := by rw [eo40]; exact ibX4_0 hI_me_isles_now (zn_l (c := 0) hz3_0.1 c7 (by decide))  (Or.inr (Or.inr ⟨hz39_0.1, hz39_0.2⟩))
          have hkpo40 : Kp [4] [] [] o_me_isles_now o40 := Kp.rf.trans (by rw [eo40]; exact Kp.tA (by decide) (by decide))
          refine wp_lt (fun o44 eo44 => ?_)
          have hIo44 : IvX4 o44 := by rw [eo44]; exact hIo40
          have hkpo44 : Kp [4] [] [] o_me_isles_now o44 := hkpo40.trans (by rw [eo44]; exact Kp.sI (by decide))
          unfold bk_X1_heldRace_145
          refine wp_if (fun c46 => ?_) (fun c46 => ?_)
          · have c46 := cv_eq (a := z2.toInt) (b := (-1)) rfl (by decide) c46
            unfold bk_X1_heldRace_163
            refine wp_if (fun c47 => ?_) (fun c47 => ?_)
            · have c47 := cv_eq (a := z4.toInt) (b := (-1)) rfl (by decide) c47
              unfold bk_X1_heldRace_183
              have lp3 : ∀ (N3 : Nat) (v3_3 : Int32) (v9_3 : Int32) (o_me_isles_now_3 : Ob) (o_me_machine_3 : Ob), IvX4 o_me_isles_now_3 → Kp [4] [] [] o_me_isles_now o_me_isles_now_3 → IvX3 o_me_machine_3 → Kp [] [] [] o_me_machine o_me_machine_3 → ((-1) ≤ v3_3.toInt ∧ v3_3.toInt ≤ (-1)) → (0 ≤ v9_3.toInt ∧ v9_3.toInt ≤ 7) → (7 - v9_3.toInt).toNat < N3 → wp (lp_X1_heldRace_186 o_me o_me_isles o_pool  N3 (v3_3, v9_3, o_me_isles_now_3, o_me_machine_3)) (fun (y : Int32 × Ob × Ob) => ((-1) ≤ y.1.toInt ∧ y.1.toInt ≤ 6) ∧ IvX4 y.2.1 ∧ Kp [4] [] [] o_me_isles_now y.2.1 ∧ IvX3 y.2.2 ∧ Kp [] [] [] o_me_machine y.2.2) := by
                intro N3
                induction N3 with
                | zero =>
                  intro v3_3 v9_3 o_me_isles_now_3 o_me_machine_3 hI_me_isles_now_3 hkp_me_isles_now_3 hI_me_machine_3 hkp_me_machine_3 hh48 hh49 hN3
                  exact absurd hN3 (Nat.not_lt_zero _)
                | succ N3 ihx =>
                  have ih3 := ihx
                  intro v3_3 v9_3 o_me_isles_now_3 o_me_machine_3 hI_me_isles_now_3 hkp_me_isles_now_3 hI_me_machine_3 hkp_me_machine_3 hh48 hh49 hN3
                  show wp (lb_X1_heldRace_186 o_me o_me_isles o_pool  (lp_X1_heldRace_186 o_me o_me_isles o_pool  N3) v3_3 v9_3 o_me_isles_now_3 o_me_machine_3) (fun (y : Int32 × Ob × Ob) => ((-1) ≤ y.1.toInt ∧ y.1.toInt ≤ 6) ∧ IvX4 y.2.1 ∧ Kp [4] [] [] o_me_isles_now y.2.1 ∧ IvX3 y.2.2 ∧ Kp [] [] [] o_me_machine y.2.2)
                  unfold lb_X1_heldRace_186
                  have t50 := igX1_4 hI_me
                  refine wp_if (fun c51 => ?_) (fun c51 => ?_)
                  · have c51 := cv_ge (a := v9_3.toInt) (b := (gI o_me 4).toInt) rfl rfl c51
                    refine wp_some ?_
                    exact (show ((-1) ≤ v3_3.toInt ∧ v3_3.toInt ≤ 6) ∧ IvX4 o_me_isles_now_3 ∧ Kp [4] [] [] o_me_isles_now o_me_isles_now_3 ∧ IvX3 o_me_machine_3 ∧ Kp [] [] [] o_me_machine o_me_machine_3 from ⟨⟨hh48.1, (Int.le_trans hh48.2 (by decide))⟩, hI_me_isles_now_3, hkp_me_isles_now_3, hI_me_machine_3, hkp_me_machine_3⟩)
                  · have c51 := cv_nge (a := v9_3.toInt) (b := (gI o_me 4).toInt) rfl rfl c51
                    refine wp_gd (zin_of (m := 7) rfl hh49.1 (zlt_m (c := 6) (zu_e (zl_d c51) t50.2 (by decide)) (by decide))) ?_
                    refine wp_lt (fun o54 eo54 => ?_)
                    have hIo54 : IvX4 o54 := by rw [eo54]; exact hI_me_isles_now_3
                    have hkpo54 : Kp [4] [] [] o_me_isles_now o54 := hkp_me_isles_now_3.trans (by rw [eo54]; exact Kp.sI (by decide))
                    refine wp_lt (fun x55 ex55 => ?_)
                    have tx55 : x55.toInt = v9_3.toInt + 1 := by rw [ex55]; exact i32_add rfl (by decide) (zk_l hh49.1 (by decide)) (zk_u (zu_e (k := 6) (zl_d c51) t50.2 (by decide)) (by decide))
                    exact ih3 v3_3 x55 o54 o_me_machine_3 hIo54 hkpo54 hI_me_machine_3 hkp_me_machine_3 ⟨hh48.1, hh48.2⟩ ⟨(zl_e (zq_r (c := (-1)) tx55 (by decide)) hh49.1 (by decide)), (zu_e (zd_e (c := 0) (Int.le_of_eq tx55) (zl_d c51) (by decide)) t50.2 (by decide))⟩ (zms_u (c := 6) hN3 (zq_r (c := (-1)) tx55 (by decide)) (zu_e (zl_d c51) t50.2 (by decide)) (by decide))
              exact lp3 zfu z2 (0 : Int32) o44 z39.2 hIo44 hkpo44 hz39_1 hkpz39_me_machine ⟨hz2_0.1, (Int.le_of_eq c5)⟩ ⟨by decide, by decide⟩ (zme_u (l := 0) (Int.le_of_eq tz0.symm) (by decide))
            · have c47 := cv_ne (a := z4.toInt) (b := (-1)) rfl (by decide) c47
              exact absurd (Int.le_antisymm (Int.le_of_eq c36) hz4_0.1) c47
          · have c46 := cv_ne (a := z2.toInt) (b := (-1)) rfl (by decide) c46
            exact absurd (Int.le_antisymm (Int.le_of_eq c5) hz2_0.1) c46
      · have c36 := cv_ne (a := z4.toInt) (b := (-1)) rfl (by decide) c36
        refine wp_bd (s_X1_wins_Q   o_me o_me_isles o_me_isles_now z35.2 o_pool z1 z4 p0 (3 : Int32)  hI_me hI_me_isles hI_me_isles_now hz35_0 hI_pool hz1_0 ⟨(zn_l (c := 0) hz4_0.1 c36 (by decide)), hz4_0.2⟩ ⟨q0.1, q0.2⟩) (fun z56 hz56 => ?_)
        obtain ⟨hz56_0, hz56_1⟩ := hz56
        have hkpz56_me_machine : Kp [] [] [] o_me_machine z56.2 := hkpz35_me_machine.trans (hz56_1.mono (by decide) (by decide) (by decide))
        unfold bk_X1_heldRace_87
        refine wp_if (fun c57 => ?_) (fun c57 => ?_)
        · have c57 := cv_eq (a := z3.toInt) (b := (-1)) rfl (by decide) c57
          exact absurd c57 c7
        · refine wp_bd (s_X1_turnsTo_Q   o_me o_me_isles o_me_isles_now z56.2 o_pool z1 z3 p0  hI_me hI_me_isles hI_me_isles_now hz56_0 hI_pool hz1_0 ⟨(zn_l (c := 0) hz3_0.1 c7 (by decide)), hz3_0.2⟩ ⟨q0.1, q0.2⟩) (fun z58 hz58 => ?_)
          obtain ⟨hz58_0, hz58_1, hz58_2⟩ := hz58
          have hkpz58_me_machine : Kp [] [] [] o_me_machine z58.2 := hkpz56_me_machine.trans (hz58_2.mono (by decide) (by decide) (by decide))
          refine wp_gd (zin_of (m := 7) rfl (zn_l (c := 0) hz3_0.1 c7 (by decide)) (zlt_m (c := 6) hz3_0.2 (by decide))) ?_
          refine wp_lt (fun o59 eo59 => ?_)
          have hIo59 : IvX4 o59 := by rw [eo59]; exact ibX4_0 hI_me_isles_now (zn_l (c := 0) hz3_0.1 c7 (by decide))  (Or.inr (Or.inr ⟨hz58_0.1, hz58_0.2⟩))
          have hkpo59 : Kp [4] [] [] o_me_isles_now o59 := Kp.rf.trans (by rw [eo59]; exact Kp.tA (by decide) (by decide))
          refine wp_lt (fun o63 eo63 => ?_)
          have hIo63 : IvX4 o63 := by rw [eo63]; exact hIo59
          have hkpo63 : Kp [4] [] [] o_me_isles_now o63 := hkpo59.trans (by rw [eo63]; exact Kp.sI (by decide))
          unfold bk_X1_heldRace_145
          refine wp_if (fun c65 => ?_) (fun c65 => ?_)
          · have c65 := cv_eq (a := z2.toInt) (b := (-1)) rfl (by decide) c65
            unfold bk_X1_heldRace_163
            refine wp_if (fun c66 => ?_) (fun c66 => ?_)
            · have c66 := cv_eq (a := z4.toInt) (b := (-1)) rfl (by decide) c66
              exact absurd c66 c36
            · refine wp_bd (s_X4_addPrizes   o63 z4 z56.1  hIo63  ⟨(zn_l (c := 0) hz4_0.1 c36 (by decide)), hz4_0.2⟩) (fun z67 hz67 => ?_)
              obtain ⟨hz67_0, hz67_1⟩ := hz67
              have hkpz67_me_isles_now : Kp [4] [] [] o_me_isles_now z67 := hkpo63.trans (hz67_1.mono (by decide) (by decide) (by decide))
              unfold bk_X1_heldRace_183
              have lp4 : ∀ (N4 : Nat) (v3_4 : Int32) (v9_4 : Int32) (o_me_isles_now_4 : Ob) (o_me_machine_4 : Ob), IvX4 o_me_isles_now_4 → Kp [4] [] [] o_me_isles_now o_me_isles_now_4 → IvX3 o_me_machine_4 → Kp [] [] [] o_me_machine o_me_machine_4 → ((-1) ≤ v3_4.toInt ∧ v3_4.toInt ≤ (-1)) → (0 ≤ v9_4.toInt ∧ v9_4.toInt ≤ 7) → (7 - v9_4.toInt).toNat < N4 → wp (lp_X1_heldRace_186 o_me o_me_isles o_pool  N4 (v3_4, v9_4, o_me_isles_now_4, o_me_machine_4)) (fun (y : Int32 × Ob × Ob) => ((-1) ≤ y.1.toInt ∧ y.1.toInt ≤ 6) ∧ IvX4 y.2.1 ∧ Kp [4] [] [] o_me_isles_now y.2.1 ∧ IvX3 y.2.2 ∧ Kp [] [] [] o_me_machine y.2.2) := by
                intro N4
                induction N4 with
                | zero =>
                  intro v3_4 v9_4 o_me_isles_now_4 o_me_machine_4 hI_me_isles_now_4 hkp_me_isles_now_4 hI_me_machine_4 hkp_me_machine_4 hh70 hh71 hN4
                  exact absurd hN4 (Nat.not_lt_zero _)
                | succ N4 ihx =>
                  have ih4 := ihx
                  intro v3_4 v9_4 o_me_isles_now_4 o_me_machine_4 hI_me_isles_now_4 hkp_me_isles_now_4 hI_me_machine_4 hkp_me_machine_4 hh70 hh71 hN4
                  show wp (lb_X1_heldRace_186 o_me o_me_isles o_pool  (lp_X1_heldRace_186 o_me o_me_isles o_pool  N4) v3_4 v9_4 o_me_isles_now_4 o_me_machine_4) (fun (y : Int32 × Ob × Ob) => ((-1) ≤ y.1.toInt ∧ y.1.toInt ≤ 6) ∧ IvX4 y.2.1 ∧ Kp [4] [] [] o_me_isles_now y.2.1 ∧ IvX3 y.2.2 ∧ Kp [] [] [] o_me_machine y.2.2)
                  unfold lb_X1_heldRace_186
                  have t72 := igX1_4 hI_me
                  refine wp_if (fun c73 => ?_) (fun c73 => ?_)
                  · have c73 := cv_ge (a := v9_4.toInt) (b := (gI o_me 4).toInt) rfl rfl c73
                    refine wp_some ?_
                    exact (show ((-1) ≤ v3_4.toInt ∧ v3_4.toInt ≤ 6) ∧ IvX4 o_me_isles_now_4 ∧ Kp [4] [] [] o_me_isles_now o_me_isles_now_4 ∧ IvX3 o_me_machine_4 ∧ Kp [] [] [] o_me_machine o_me_machine_4 from ⟨⟨hh70.1, (Int.le_trans hh70.2 (by decide))⟩, hI_me_isles_now_4, hkp_me_isles_now_4, hI_me_machine_4, hkp_me_machine_4⟩)
                  · have c73 := cv_nge (a := v9_4.toInt) (b := (gI o_me 4).toInt) rfl rfl c73
                    refine wp_gd (zin_of (m := 7) rfl hh71.1 (zlt_m (c := 6) (zu_e (zl_d c73) t72.2 (by decide)) (by decide))) ?_
                    refine wp_lt (fun o76 eo76 => ?_)
                    have hIo76 : IvX4 o76 := by rw [eo76]; exact hI_me_isles_now_4
                    have hkpo76 : Kp [4] [] [] o_me_isles_now o76 := hkp_me_isles_now_4.trans (by rw [eo76]; exact Kp.sI (by decide))
                    refine wp_lt (fun x77 ex77 => ?_)
                    have tx77 : x77.toInt = v9_4.toInt + 1 := by rw [ex77]; exact i32_add rfl (by decide) (zk_l hh71.1 (by decide)) (zk_u (zu_e (k := 6) (zl_d c73) t72.2 (by decide)) (by decide))
                    exact ih4 v3_4 x77 o76 o_me_machine_4 hIo76 hkpo76 hI_me_machine_4 hkp_me_machine_4 ⟨hh70.1, hh70.2⟩ ⟨(zl_e (zq_r (c := (-1)) tx77 (by decide)) hh71.1 (by decide)), (zu_e (zd_e (c := 0) (Int.le_of_eq tx77) (zl_d c73) (by decide)) t72.2 (by decide))⟩ (zms_u (c := 6) hN4 (zq_r (c := (-1)) tx77 (by decide)) (zu_e (zl_d c73) t72.2 (by decide)) (by decide))
              exact lp4 zfu z2 (0 : Int32) z67 z58.2 hz67_0 hkpz67_me_isles_now hz58_1 hkpz58_me_machine ⟨hz2_0.1, (Int.le_of_eq c5)⟩ ⟨by decide, by decide⟩ (zme_u (l := 0) (Int.le_of_eq tz0.symm) (by decide))
          · have c65 := cv_ne (a := z2.toInt) (b := (-1)) rfl (by decide) c65
            exact absurd (Int.le_antisymm (Int.le_of_eq c5) hz2_0.1) c65
  · have c5 := cv_ne (a := z2.toInt) (b := (-1)) rfl (by decide) c5
    refine wp_bd (s_X1_wins_Q   o_me o_me_isles o_me_isles_now o_me_machine o_pool z1 z2 p0 (1 : Int32)  hI_me hI_me_isles hI_me_isles_now hI_me_machine hI_pool hz1_0 ⟨(zn_l (c := 0) hz2_0.1 c5 (by decide)), hz2_0.2⟩ ⟨q0.1, q0.2⟩) (fun z78 hz78 => ?_)
    obtain ⟨hz78_0, hz78_1⟩ := hz78
    have hkpz78_me_machine : Kp [] [] [] o_me_machine z78.2 := Kp.rf.trans (hz78_1.mono (by decide) (by decide) (by decide))
    unfold bk_X1_heldRace_45
    refine wp_if (fun c79 => ?_) (fun c79 => ?_)
    · have c79 := cv_eq (a := z3.toInt) (b := (-1)) rfl (by decide) c79
      obtain ⟨w80, ew80⟩ : ∃ z : Int32, z = (0 : Int32) := ⟨_, rfl⟩
      rw [show bk_X1_heldRace_66 o_me o_me_isles o_pool  p0 z1 z2 z3 z4 z78.1 (0 : Int32) o_me_isles_now z78.2 = bk_X1_heldRace_66 o_me o_me_isles o_pool  p0 z1 z2 z3 z4 z78.1 w80 o_me_isles_now z78.2 from by rw [ew80]]
      unfold bk_X1_heldRace_66
      refine wp_if (fun c81 => ?_) (fun c81 => ?_)
      · have c81 := cv_eq (a := z4.toInt) (b := (-1)) rfl (by decide) c81
        obtain ⟨w82, ew82⟩ : ∃ z : Int32, z = (0 : Int32) := ⟨_, rfl⟩
        rw [show bk_X1_heldRace_87 o_me o_me_isles o_pool  p0 z1 z2 z3 z4 z78.1 w80 (0 : Int32) o_me_isles_now z78.2 = bk_X1_heldRace_87 o_me o_me_isles o_pool  p0 z1 z2 z3 z4 z78.1 w80 w82 o_me_isles_now z78.2 from by rw [ew82]]
        unfold bk_X1_heldRace_87
        refine wp_if (fun c83 => ?_) (fun c83 => ?_)
        · have c83 := cv_eq (a := z3.toInt) (b := (-1)) rfl (by decide) c83
          unfold bk_X1_heldRace_145
          refine wp_if (fun c84 => ?_) (fun c84 => ?_)
          · have c84 := cv_eq (a := z2.toInt) (b := (-1)) rfl (by decide) c84
            exact absurd c84 c5
          · refine wp_bd (s_X4_addPrizes   o_me_isles_now z2 z78.1  hI_me_isles_now  ⟨(zn_l (c := 0) hz2_0.1 c5 (by decide)), hz2_0.2⟩) (fun z85 hz85 => ?_)
            obtain ⟨hz85_0, hz85_1⟩ := hz85
            have hkpz85_me_isles_now : Kp [4] [] [] o_me_isles_now z85 := Kp.rf.trans (hz85_1.mono (by decide) (by decide) (by decide))
            unfold bk_X1_heldRace_163
            refine wp_if (fun c86 => ?_) (fun c86 => ?_)
            · have c86 := cv_eq (a := z4.toInt) (b := (-1)) rfl (by decide) c86
              unfold bk_X1_heldRace_183
              have lp5 : ∀ (N5 : Nat) (v3_5 : Int32) (v9_5 : Int32) (o_me_isles_now_5 : Ob) (o_me_machine_5 : Ob), IvX4 o_me_isles_now_5 → Kp [4] [] [] o_me_isles_now o_me_isles_now_5 → IvX3 o_me_machine_5 → Kp [] [] [] o_me_machine o_me_machine_5 → (0 ≤ v3_5.toInt ∧ v3_5.toInt ≤ 6) → (0 ≤ v9_5.toInt ∧ v9_5.toInt ≤ 7) → (7 - v9_5.toInt).toNat < N5 → wp (lp_X1_heldRace_186 o_me o_me_isles o_pool  N5 (v3_5, v9_5, o_me_isles_now_5, o_me_machine_5)) (fun (y : Int32 × Ob × Ob) => ((-1) ≤ y.1.toInt ∧ y.1.toInt ≤ 6) ∧ IvX4 y.2.1 ∧ Kp [4] [] [] o_me_isles_now y.2.1 ∧ IvX3 y.2.2 ∧ Kp [] [] [] o_me_machine y.2.2) := by
                intro N5
                induction N5 with
                | zero =>
                  intro v3_5 v9_5 o_me_isles_now_5 o_me_machine_5 hI_me_isles_now_5 hkp_me_isles_now_5 hI_me_machine_5 hkp_me_machine_5 hh87 hh88 hN5
                  exact absurd hN5 (Nat.not_lt_zero _)
                | succ N5 ihx =>
                  have ih5 := ihx
                  intro v3_5 v9_5 o_me_isles_now_5 o_me_machine_5 hI_me_isles_now_5 hkp_me_isles_now_5 hI_me_machine_5 hkp_me_machine_5 hh87 hh88 hN5
                  show wp (lb_X1_heldRace_186 o_me o_me_isles o_pool  (lp_X1_heldRace_186 o_me o_me_isles o_pool  N5) v3_5 v9_5 o_me_isles_now_5 o_me_machine_5) (fun (y : Int32 × Ob × Ob) => ((-1) ≤ y.1.toInt ∧ y.1.toInt ≤ 6) ∧ IvX4 y.2.1 ∧ Kp [4] [] [] o_me_isles_now y.2.1 ∧ IvX3 y.2.2 ∧ Kp [] [] [] o_me_machine y.2.2)
                  unfold lb_X1_heldRace_186
                  have t89 := igX1_4 hI_me
                  refine wp_if (fun c90 => ?_) (fun c90 => ?_)
                  · have c90 := cv_ge (a := v9_5.toInt) (b := (gI o_me 4).toInt) rfl rfl c90
                    refine wp_some ?_
                    exact (show ((-1) ≤ v3_5.toInt ∧ v3_5.toInt ≤ 6) ∧ IvX4 o_me_isles_now_5 ∧ Kp [4] [] [] o_me_isles_now o_me_isles_now_5 ∧ IvX3 o_me_machine_5 ∧ Kp [] [] [] o_me_machine o_me_machine_5 from ⟨⟨(Int.le_trans (by decide) hh87.1), hh87.2⟩, hI_me_isles_now_5, hkp_me_isles_now_5, hI_me_machine_5, hkp_me_machine_5⟩)
                  · have c90 := cv_nge (a := v9_5.toInt) (b := (gI o_me 4).toInt) rfl rfl c90
                    refine wp_gd (zin_of (m := 7) rfl hh88.1 (zlt_m (c := 6) (zu_e (zl_d c90) t89.2 (by decide)) (by decide))) ?_
                    refine wp_lt (fun o93 eo93 => ?_)
                    have hIo93 : IvX4 o93 := by rw [eo93]; exact hI_me_isles_now_5
                    have hkpo93 : Kp [4] [] [] o_me_isles_now o93 := hkp_me_isles_now_5.trans (by rw [eo93]; exact Kp.sI (by decide))
                    refine wp_lt (fun x94 ex94 => ?_)
                    have tx94 : x94.toInt = v9_5.toInt + 1 := by rw [ex94]; exact i32_add rfl (by decide) (zk_l hh88.1 (by decide)) (zk_u (zu_e (k := 6) (zl_d c90) t89.2 (by decide)) (by decide))
                    exact ih5 v3_5 x94 o93 o_me_machine_5 hIo93 hkpo93 hI_me_machine_5 hkp_me_machine_5 ⟨hh87.1, hh87.2⟩ ⟨(zl_e (zq_r (c := (-1)) tx94 (by decide)) hh88.1 (by decide)), (zu_e (zd_e (c := 0) (Int.le_of_eq tx94) (zl_d c90) (by decide)) t89.2 (by decide))⟩ (zms_u (c := 6) hN5 (zq_r (c := (-1)) tx94 (by decide)) (zu_e (zl_d c90) t89.2 (by decide)) (by decide))
              exact lp5 zfu z2 (0 : Int32) z85 z78.2 hz85_0 hkpz85_me_isles_now hz78_0 hkpz78_me_machine ⟨(zn_l (c := 0) hz2_0.1 c5 (by decide)), hz2_0.2⟩ ⟨by decide, by decide⟩ (zme_u (l := 0) (Int.le_of_eq tz0.symm) (by decide))
            · have c86 := cv_ne (a := z4.toInt) (b := (-1)) rfl (by decide) c86
              exact absurd (Int.le_antisymm (Int.le_of_eq c81) hz4_0.1) c86
        · have c83 := cv_ne (a := z3.toInt) (b := (-1)) rfl (by decide) c83
          exact absurd (Int.le_antisymm (Int.le_of_eq c79) hz3_0.1) c83
      · have c81 := cv_ne (a := z4.toInt) (b := (-1)) rfl (by decide) c81
        refine wp_bd (s_X1_wins_Q   o_me o_me_isles o_me_isles_now z78.2 o_pool z1 z4 p0 (3 : Int32)  hI_me hI_me_isles hI_me_isles_now hz78_0 hI_pool hz1_0 ⟨(zn_l (c := 0) hz4_0.1 c81 (by decide)), hz4_0.2⟩ ⟨q0.1, q0.2⟩) (fun z95 hz95 => ?_)
        obtain ⟨hz95_0, hz95_1⟩ := hz95
        have hkpz95_me_machine : Kp [] [] [] o_me_machine z95.2 := hkpz78_me_machine.trans (hz95_1.mono (by decide) (by decide) (by decide))
        unfold bk_X1_heldRace_87
        refine wp_if (fun c96 => ?_) (fun c96 => ?_)
        · have c96 := cv_eq (a := z3.toInt) (b := (-1)) rfl (by decide) c96
          unfold bk_X1_heldRace_145
          refine wp_if (fun c97 => ?_) (fun c97 => ?_)
          · have c97 := cv_eq (a := z2.toInt) (b := (-1)) rfl (by decide) c97
            exact absurd c97 c5
          · refine wp_bd (s_X4_addPrizes   o_me_isles_now z2 z78.1  hI_me_isles_now  ⟨(zn_l (c := 0) hz2_0.1 c5 (by decide)), hz2_0.2⟩) (fun z98 hz98 => ?_)
            obtain ⟨hz98_0, hz98_1⟩ := hz98
            have hkpz98_me_isles_now : Kp [4] [] [] o_me_isles_now z98 := Kp.rf.trans (hz98_1.mono (by decide) (by decide) (by decide))
            unfold bk_X1_heldRace_163
            refine wp_if (fun c99 => ?_) (fun c99 => ?_)
            · have c99 := cv_eq (a := z4.toInt) (b := (-1)) rfl (by decide) c99
              exact absurd c99 c81
            · refine wp_bd (s_X4_addPrizes   z98 z4 z95.1  hz98_0  ⟨(zn_l (c := 0) hz4_0.1 c81 (by decide)), hz4_0.2⟩) (fun z100 hz100 => ?_)
              obtain ⟨hz100_0, hz100_1⟩ := hz100
              have hkpz100_me_isles_now : Kp [4] [] [] o_me_isles_now z100 := hkpz98_me_isles_now.trans (hz100_1.mono (by decide) (by decide) (by decide))
              unfold bk_X1_heldRace_183
              have lp6 : ∀ (N6 : Nat) (v3_6 : Int32) (v9_6 : Int32) (o_me_isles_now_6 : Ob) (o_me_machine_6 : Ob), IvX4 o_me_isles_now_6 → Kp [4] [] [] o_me_isles_now o_me_isles_now_6 → IvX3 o_me_machine_6 → Kp [] [] [] o_me_machine o_me_machine_6 → (0 ≤ v3_6.toInt ∧ v3_6.toInt ≤ 6) → (0 ≤ v9_6.toInt ∧ v9_6.toInt ≤ 7) → (7 - v9_6.toInt).toNat < N6 → wp (lp_X1_heldRace_186 o_me o_me_isles o_pool  N6 (v3_6, v9_6, o_me_isles_now_6, o_me_machine_6)) (fun (y : Int32 × Ob × Ob) => ((-1) ≤ y.1.toInt ∧ y.1.toInt ≤ 6) ∧ IvX4 y.2.1 ∧ Kp [4] [] [] o_me_isles_now y.2.1 ∧ IvX3 y.2.2 ∧ Kp [] [] [] o_me_machine y.2.2) := by
                intro N6
                induction N6 with
                | zero =>
                  intro v3_6 v9_6 o_me_isles_now_6 o_me_machine_6 hI_me_isles_now_6 hkp_me_isles_now_6 hI_me_machine_6 hkp_me_machine_6 hh101 hh102 hN6
                  exact absurd hN6 (Nat.not_lt_zero _)
                | succ N6 ihx =>
                  have ih6 := ihx
                  intro v3_6 v9_6 o_me_isles_now_6 o_me_machine_6 hI_me_isles_now_6 hkp_me_isles_now_6 hI_me_machine_6 hkp_me_machine_6 hh101 hh102 hN6
                  show wp (lb_X1_heldRace_186 o_me o_me_isles o_pool  (lp_X1_heldRace_186 o_me o_me_isles o_pool  N6) v3_6 v9_6 o_me_isles_now_6 o_me_machine_6) (fun (y : Int32 × Ob × Ob) => ((-1) ≤ y.1.toInt ∧ y.1.toInt ≤ 6) ∧ IvX4 y.2.1 ∧ Kp [4] [] [] o_me_isles_now y.2.1 ∧ IvX3 y.2.2 ∧ Kp [] [] [] o_me_machine y.2.2)
                  unfold lb_X1_heldRace_186
                  have t103 := igX1_4 hI_me
                  refine wp_if (fun c104 => ?_) (fun c104 => ?_)
                  · have c104 := cv_ge (a := v9_6.toInt) (b := (gI o_me 4).toInt) rfl rfl c104
                    refine wp_some ?_
                    exact (show ((-1) ≤ v3_6.toInt ∧ v3_6.toInt ≤ 6) ∧ IvX4 o_me_isles_now_6 ∧ Kp [4] [] [] o_me_isles_now o_me_isles_now_6 ∧ IvX3 o_me_machine_6 ∧ Kp [] [] [] o_me_machine o_me_machine_6 from ⟨⟨(Int.le_trans (by decide) hh101.1), hh101.2⟩, hI_me_isles_now_6, hkp_me_isles_now_6, hI_me_machine_6, hkp_me_machine_6⟩)
                  · have c104 := cv_nge (a := v9_6.toInt) (b := (gI o_me 4).toInt) rfl rfl c104
                    refine wp_gd (zin_of (m := 7) rfl hh102.1 (zlt_m (c := 6) (zu_e (zl_d c104) t103.2 (by decide)) (by decide))) ?_
                    refine wp_lt (fun o107 eo107 => ?_)
                    have hIo107 : IvX4 o107 := by rw [eo107]; exact hI_me_isles_now_6
                    have hkpo107 : Kp [4] [] [] o_me_isles_now o107 := hkp_me_isles_now_6.trans (by rw [eo107]; exact Kp.sI (by decide))
                    refine wp_lt (fun x108 ex108 => ?_)
                    have tx108 : x108.toInt = v9_6.toInt + 1 := by rw [ex108]; exact i32_add rfl (by decide) (zk_l hh102.1 (by decide)) (zk_u (zu_e (k := 6) (zl_d c104) t103.2 (by decide)) (by decide))
                    exact ih6 v3_6 x108 o107 o_me_machine_6 hIo107 hkpo107 hI_me_machine_6 hkp_me_machine_6 ⟨hh101.1, hh101.2⟩ ⟨(zl_e (zq_r (c := (-1)) tx108 (by decide)) hh102.1 (by decide)), (zu_e (zd_e (c := 0) (Int.le_of_eq tx108) (zl_d c104) (by decide)) t103.2 (by decide))⟩ (zms_u (c := 6) hN6 (zq_r (c := (-1)) tx108 (by decide)) (zu_e (zl_d c104) t103.2 (by decide)) (by decide))
              exact lp6 zfu z2 (0 : Int32) z100 z95.2 hz100_0 hkpz100_me_isles_now hz95_0 hkpz95_me_machine ⟨(zn_l (c := 0) hz2_0.1 c5 (by decide)), hz2_0.2⟩ ⟨by decide, by decide⟩ (zme_u (l := 0) (Int.le_of_eq tz0.symm) (by decide))
        · have c96 := cv_ne (a := z3.toInt) (b := (-1)) rfl (by decide) c96
          exact absurd (Int.le_antisymm (Int.le_of_eq c79) hz3_0.1) c96
    · have c79 := cv_ne (a := z3.toInt) (b := (-1)) rfl (by decide) c79
      refine wp_bd (s_X1_wins_Q   o_me o_me_isles o_me_isles_now z78.2 o_pool z1 z3 p0 (2 : Int32)  hI_me hI_me_isles hI_me_isles_now hz78_0 hI_pool hz1_0 ⟨(zn_l (c := 0) hz3_0.1 c79 (by decide)), hz3_0.2⟩ ⟨q0.1, q0.2⟩) (fun z109 hz109 => ?_)
      obtain ⟨hz109_0, hz109_1⟩ := hz109
      have hkpz109_me_machine : Kp [] [] [] o_me_machine z109.2 := hkpz78_me_machine.trans (hz109_1.mono (by decide) (by decide) (by decide))
      unfold bk_X1_heldRace_66
      refine wp_if (fun c110 => ?_) (fun c110 => ?_)
      · have c110 := cv_eq (a := z4.toInt) (b := (-1)) rfl (by decide) c110
        obtain ⟨w111, ew111⟩ : ∃ z : Int32, z = (0 : Int32) := ⟨_, rfl⟩
        rw [show bk_X1_heldRace_87 o_me o_me_isles o_pool  p0 z1 z2 z3 z4 z78.1 z109.1 (0 : Int32) o_me_isles_now z109.2 = bk_X1_heldRace_87 o_me o_me_isles o_pool  p0 z1 z2 z3 z4 z78.1 z109.1 w111 o_me_isles_now z109.2 from by rw [ew111]]
        unfold bk_X1_heldRace_87
        refine wp_if (fun c112 => ?_) (fun c112 => ?_)
        · have c112 := cv_eq (a := z3.toInt) (b := (-1)) rfl (by decide) c112
          exact absurd c112 c79
        · refine wp_bd (s_X1_turnsTo_Q   o_me o_me_isles o_me_isles_now z109.2 o_pool z1 z3 p0  hI_me hI_me_isles hI_me_isles_now hz109_0 hI_pool hz1_0 ⟨(zn_l (c := 0) hz3_0.1 c79 (by decide)), hz3_0.2⟩ ⟨q0.1, q0.2⟩) (fun z113 hz113 => ?_)
          obtain ⟨hz113_0, hz113_1, hz113_2⟩ := hz113
          have hkpz113_me_machine : Kp [] [] [] o_me_machine z113.2 := hkpz109_me_machine.trans (hz113_2.mono (by decide) (by decide) (by decide))
          refine wp_gd (zin_of (m := 7) rfl (zn_l (c := 0) hz3_0.1 c79 (by decide)) (zlt_m (c := 6) hz3_0.2 (by decide))) ?_
          refine wp_lt (fun o114 eo114 => ?_)
          have hIo114 : IvX4 o114 := by rw [eo114]; exact ibX4_0 hI_me_isles_now (zn_l (c := 0) hz3_0.1 c79 (by decide))  (Or.inr (Or.inr ⟨hz113_0.1, hz113_0.2⟩))
          have hkpo114 : Kp [4] [] [] o_me_isles_now o114 := Kp.rf.trans (by rw [eo114]; exact Kp.tA (by decide) (by decide))
          refine wp_lt (fun o118 eo118 => ?_)
          have hIo118 : IvX4 o118 := by rw [eo118]; exact hIo114
          have hkpo118 : Kp [4] [] [] o_me_isles_now o118 := hkpo114.trans (by rw [eo118]; exact Kp.sI (by decide))
          unfold bk_X1_heldRace_145
          refine wp_if (fun c120 => ?_) (fun c120 => ?_)
          · have c120 := cv_eq (a := z2.toInt) (b := (-1)) rfl (by decide) c120
            exact absurd c120 c5
          · refine wp_bd (s_X4_addPrizes   o118 z2 z78.1  hIo118  ⟨(zn_l (c := 0) hz2_0.1 c5 (by decide)), hz2_0.2⟩) (fun z121 hz121 => ?_)
            obtain ⟨hz121_0, hz121_1⟩ := hz121
            have hkpz121_me_isles_now : Kp [4] [] [] o_me_isles_now z121 := hkpo118.trans (hz121_1.mono (by decide) (by decide) (by decide))
            unfold bk_X1_heldRace_163
            refine wp_if (fun c124 => ?_) (fun c124 => ?_)
            · have c124 := cv_eq (a := z4.toInt) (b := (-1)) rfl (by decide) c124
              unfold bk_X1_heldRace_183
              have lp7 : ∀ (N7 : Nat) (v3_7 : Int32) (v9_7 : Int32) (o_me_isles_now_7 : Ob) (o_me_machine_7 : Ob), IvX4 o_me_isles_now_7 → Kp [4] [] [] o_me_isles_now o_me_isles_now_7 → IvX3 o_me_machine_7 → Kp [] [] [] o_me_machine o_me_machine_7 → (0 ≤ v3_7.toInt ∧ v3_7.toInt ≤ 6) → (0 ≤ v9_7.toInt ∧ v9_7.toInt ≤ 7) → (7 - v9_7.toInt).toNat < N7 → wp (lp_X1_heldRace_186 o_me o_me_isles o_pool  N7 (v3_7, v9_7, o_me_isles_now_7, o_me_machine_7)) (fun (y : Int32 × Ob × Ob) => ((-1) ≤ y.1.toInt ∧ y.1.toInt ≤ 6) ∧ IvX4 y.2.1 ∧ Kp [4] [] [] o_me_isles_now y.2.1 ∧ IvX3 y.2.2 ∧ Kp [] [] [] o_me_machine y.2.2) := by
                intro N7
                induction N7 with
                | zero =>
                  intro v3_7 v9_7 o_me_isles_now_7 o_me_machine_7 hI_me_isles_now_7 hkp_me_isles_now_7 hI_me_machine_7 hkp_me_machine_7 hh125 hh126 hN7
                  exact absurd hN7 (Nat.not_lt_zero _)
                | succ N7 ihx =>
                  have ih7 := ihx
                  intro v3_7 v9_7 o_me_isles_now_7 o_me_machine_7 hI_me_isles_now_7 hkp_me_isles_now_7 hI_me_machine_7 hkp_me_machine_7 hh125 hh126 hN7
                  show wp (lb_X1_heldRace_186 o_me o_me_isles o_pool  (lp_X1_heldRace_186 o_me o_me_isles o_pool  N7) v3_7 v9_7 o_me_isles_now_7 o_me_machine_7) (fun (y : Int32 × Ob × Ob) => ((-1) ≤ y.1.toInt ∧ y.1.toInt ≤ 6) ∧ IvX4 y.2.1 ∧ Kp [4] [] [] o_me_isles_now y.2.1 ∧ IvX3 y.2.2 ∧ Kp [] [] [] o_me_machine y.2.2)
                  unfold lb_X1_heldRace_186
                  have t127 := igX1_4 hI_me
                  refine wp_if (fun c128 => ?_) (fun c128 => ?_)
                  · have c128 := cv_ge (a := v9_7.toInt) (b := (gI o_me 4).toInt) rfl rfl c128
                    refine wp_some ?_
                    exact (show ((-1) ≤ v3_7.toInt ∧ v3_7.toInt ≤ 6) ∧ IvX4 o_me_isles_now_7 ∧ Kp [4] [] [] o_me_isles_now o_me_isles_now_7 ∧ IvX3 o_me_machine_7 ∧ Kp [] [] [] o_me_machine o_me_machine_7 from ⟨⟨(Int.le_trans (by decide) hh125.1), hh125.2⟩, hI_me_isles_now_7, hkp_me_isles_now_7, hI_me_machine_7, hkp_me_machine_7⟩)
                  · have c128 := cv_nge (a := v9_7.toInt) (b := (gI o_me 4).toInt) rfl rfl c128
                    refine wp_gd (zin_of (m := 7) rfl hh126.1 (zlt_m (c := 6) (zu_e (zl_d c128) t127.2 (by decide)) (by decide))) ?_
                    refine wp_lt (fun o131 eo131 => ?_)
                    have hIo131 : IvX4 o131 := by rw [eo131]; exact hI_me_isles_now_7
                    have hkpo131 : Kp [4] [] [] o_me_isles_now o131 := hkp_me_isles_now_7.trans (by rw [eo131]; exact Kp.sI (by decide))
                    refine wp_lt (fun x132 ex132 => ?_)
                    have tx132 : x132.toInt = v9_7.toInt + 1 := by rw [ex132]; exact i32_add rfl (by decide) (zk_l hh126.1 (by decide)) (zk_u (zu_e (k := 6) (zl_d c128) t127.2 (by decide)) (by decide))
                    exact ih7 v3_7 x132 o131 o_me_machine_7 hIo131 hkpo131 hI_me_machine_7 hkp_me_machine_7 ⟨hh125.1, hh125.2⟩ ⟨(zl_e (zq_r (c := (-1)) tx132 (by decide)) hh126.1 (by decide)), (zu_e (zd_e (c := 0) (Int.le_of_eq tx132) (zl_d c128) (by decide)) t127.2 (by decide))⟩ (zms_u (c := 6) hN7 (zq_r (c := (-1)) tx132 (by decide)) (zu_e (zl_d c128) t127.2 (by decide)) (by decide))
              exact lp7 zfu z2 (0 : Int32) z121 z113.2 hz121_0 hkpz121_me_isles_now hz113_1 hkpz113_me_machine ⟨(zn_l (c := 0) hz2_0.1 c5 (by decide)), hz2_0.2⟩ ⟨by decide, by decide⟩ (zme_u (l := 0) (Int.le_of_eq tz0.symm) (by decide))
            · have c124 := cv_ne (a := z4.toInt) (b := (-1)) rfl (by decide) c124
              exact absurd (Int.le_antisymm (Int.le_of_eq c110) hz4_0.1) c124
      · have c110 := cv_ne (a := z4.toInt) (b := (-1)) rfl (by decide) c110
        refine wp_bd (s_X1_wins_Q   o_me o_me_isles o_me_isles_now z109.2 o_pool z1 z4 p0 (3 : Int32)  hI_me hI_me_isles hI_me_isles_now hz109_0 hI_pool hz1_0 ⟨(zn_l (c := 0) hz4_0.1 c110 (by decide)), hz4_0.2⟩ ⟨q0.1, q0.2⟩) (fun z133 hz133 => ?_)
        obtain ⟨hz133_0, hz133_1⟩ := hz133
        have hkpz133_me_machine : Kp [] [] [] o_me_machine z133.2 := hkpz109_me_machine.trans (hz133_1.mono (by decide) (by decide) (by decide))
        unfold bk_X1_heldRace_87
        refine wp_if (fun c134 => ?_) (fun c134 => ?_)
        · have c134 := cv_eq (a := z3.toInt) (b := (-1)) rfl (by decide) c134
          exact absurd c134 c79
        · refine wp_bd (s_X1_turnsTo_Q   o_me o_me_isles o_me_isles_now z133.2 o_pool z1 z3 p0  hI_me hI_me_isles hI_me_isles_now hz133_0 hI_pool hz1_0 ⟨(zn_l (c := 0) hz3_0.1 c79 (by decide)), hz3_0.2⟩ ⟨q0.1, q0.2⟩) (fun z135 hz135 => ?_)
          obtain ⟨hz135_0, hz135_1, hz135_2⟩ := hz135
          have hkpz135_me_machine : Kp [] [] [] o_me_machine z135.2 := hkpz133_me_machine.trans (hz135_2.mono (by decide) (by decide) (by decide))
          refine wp_gd (zin_of (m := 7) rfl (zn_l (c := 0) hz3_0.1 c79 (by decide)) (zlt_m (c := 6) hz3_0.2 (by decide))) ?_
          refine wp_lt (fun o136 eo136 => ?_)
          have hIo136 : IvX4 o136 := by rw [eo136]; exact ibX4_0 hI_me_isles_now (zn_l (c := 0) hz3_0.1 c79 (by decide))  (Or.inr (Or.inr ⟨hz135_0.1, hz135_0.2⟩))
          have hkpo136 : Kp [4] [] [] o_me_isles_now o136 := Kp.rf.trans (by rw [eo136]; exact Kp.tA (by decide) (by decide))
          refine wp_lt (fun o140 eo140 => ?_)
          have hIo140 : IvX4 o140 := by rw [eo140]; exact hIo136
          have hkpo140 : Kp [4] [] [] o_me_isles_now o140 := hkpo136.trans (by rw [eo140]; exact Kp.sI (by decide))
          unfold bk_X1_heldRace_145
          refine wp_if (fun c142 => ?_) (fun c142 => ?_)
          · have c142 := cv_eq (a := z2.toInt) (b := (-1)) rfl (by decide) c142
            exact absurd c142 c5
          · refine wp_bd (s_X4_addPrizes   o140 z2 z78.1  hIo140  ⟨(zn_l (c := 0) hz2_0.1 c5 (by decide)), hz2_0.2⟩) (fun z143 hz143 => ?_)
            obtain ⟨hz143_0, hz143_1⟩ := hz143
            have hkpz143_me_isles_now : Kp [4] [] [] o_me_isles_now z143 := hkpo140.trans (hz143_1.mono (by decide) (by decide) (by decide))
            unfold bk_X1_heldRace_163
            refine wp_if (fun c146 => ?_) (fun c146 => ?_)
            · have c146 := cv_eq (a := z4.toInt) (b := (-1)) rfl (by decide) c146
              exact absurd c146 c110
            · refine wp_bd (s_X4_addPrizes   z143 z4 z133.1  hz143_0  ⟨(zn_l (c := 0) hz4_0.1 c110 (by decide)), hz4_0.2⟩) (fun z147 hz147 => ?_)
              obtain ⟨hz147_0, hz147_1⟩ := hz147
              have hkpz147_me_isles_now : Kp [4] [] [] o_me_isles_now z147 := hkpz143_me_isles_now.trans (hz147_1.mono (by decide) (by decide) (by decide))
              unfold bk_X1_heldRace_183
              have lp8 : ∀ (N8 : Nat) (v3_8 : Int32) (v9_8 : Int32) (o_me_isles_now_8 : Ob) (o_me_machine_8 : Ob), IvX4 o_me_isles_now_8 → Kp [4] [] [] o_me_isles_now o_me_isles_now_8 → IvX3 o_me_machine_8 → Kp [] [] [] o_me_machine o_me_machine_8 → (0 ≤ v3_8.toInt ∧ v3_8.toInt ≤ 6) → (0 ≤ v9_8.toInt ∧ v9_8.toInt ≤ 7) → (7 - v9_8.toInt).toNat < N8 → wp (lp_X1_heldRace_186 o_me o_me_isles o_pool  N8 (v3_8, v9_8, o_me_isles_now_8, o_me_machine_8)) (fun (y : Int32 × Ob × Ob) => ((-1) ≤ y.1.toInt ∧ y.1.toInt ≤ 6) ∧ IvX4 y.2.1 ∧ Kp [4] [] [] o_me_isles_now y.2.1 ∧ IvX3 y.2.2 ∧ Kp [] [] [] o_me_machine y.2.2) := by
                intro N8
                induction N8 with
                | zero =>
                  intro v3_8 v9_8 o_me_isles_now_8 o_me_machine_8 hI_me_isles_now_8 hkp_me_isles_now_8 hI_me_machine_8 hkp_me_machine_8 hh150 hh151 hN8
                  exact absurd hN8 (Nat.not_lt_zero _)
                | succ N8 ihx =>
                  have ih8 := ihx
                  intro v3_8 v9_8 o_me_isles_now_8 o_me_machine_8 hI_me_isles_now_8 hkp_me_isles_now_8 hI_me_machine_8 hkp_me_machine_8 hh150 hh151 hN8
                  show wp (lb_X1_heldRace_186 o_me o_me_isles o_pool  (lp_X1_heldRace_186 o_me o_me_isles o_pool  N8) v3_8 v9_8 o_me_isles_now_8 o_me_machine_8) (fun (y : Int32 × Ob × Ob) => ((-1) ≤ y.1.toInt ∧ y.1.toInt ≤ 6) ∧ IvX4 y.2.1 ∧ Kp [4] [] [] o_me_isles_now y.2.1 ∧ IvX3 y.2.2 ∧ Kp [] [] [] o_me_machine y.2.2)
                  unfold lb_X1_heldRace_186
                  have t152 := igX1_4 hI_me
                  refine wp_if (fun c153 => ?_) (fun c153 => ?_)
                  · have c153 := cv_ge (a := v9_8.toInt) (b := (gI o_me 4).toInt) rfl rfl c153
                    refine wp_some ?_
                    exact (show ((-1) ≤ v3_8.toInt ∧ v3_8.toInt ≤ 6) ∧ IvX4 o_me_isles_now_8 ∧ Kp [4] [] [] o_me_isles_now o_me_isles_now_8 ∧ IvX3 o_me_machine_8 ∧ Kp [] [] [] o_me_machine o_me_machine_8 from ⟨⟨(Int.le_trans (by decide) hh150.1), hh150.2⟩, hI_me_isles_now_8, hkp_me_isles_now_8, hI_me_machine_8, hkp_me_machine_8⟩)
                  · have c153 := cv_nge (a := v9_8.toInt) (b := (gI o_me 4).toInt) rfl rfl c153
                    refine wp_gd (zin_of (m := 7) rfl hh151.1 (zlt_m (c := 6) (zu_e (zl_d c153) t152.2 (by decide)) (by decide))) ?_
                    refine wp_lt (fun o156 eo156 => ?_)
                    have hIo156 : IvX4 o156 := by rw [eo156]; exact hI_me_isles_now_8
                    have hkpo156 : Kp [4] [] [] o_me_isles_now o156 := hkp_me_isles_now_8.trans (by rw [eo156]; exact Kp.sI (by decide))
                    refine wp_lt (fun x157 ex157 => ?_)
                    have tx157 : x157.toInt = v9_8.toInt + 1 := by rw [ex157]; exact i32_add rfl (by decide) (zk_l hh151.1 (by decide)) (zk_u (zu_e (k := 6) (zl_d c153) t152.2 (by decide)) (by decide))
                    exact ih8 v3_8 x157 o156 o_me_machine_8 hIo156 hkpo156 hI_me_machine_8 hkp_me_machine_8 ⟨hh150.1, hh150.2⟩ ⟨(zl_e (zq_r (c := (-1)) tx157 (by decide)) hh151.1 (by decide)), (zu_e (zd_e (c := 0) (Int.le_of_eq tx157) (zl_d c153) (by decide)) t152.2 (by decide))⟩ (zms_u (c := 6) hN8 (zq_r (c := (-1)) tx157 (by decide)) (zu_e (zl_d c153) t152.2 (by decide)) (by decide))
              exact lp8 zfu z2 (0 : Int32) z147 z135.2 hz147_0 hkpz147_me_isles_now hz135_1 hkpz135_me_machine ⟨(zn_l (c := 0) hz2_0.1 c5 (by decide)), hz2_0.2⟩ ⟨by decide, by decide⟩ (zme_u (l := 0) (Int.le_of_eq tz0.symm) (by decide))

