set_option maxHeartbeats 4000000 in
set_option maxRecDepth 100000 in
theorem s_X8_forget {pl : List CR} {rI : Nat → Option Nat} (o_me : Ob) (o_me_isles : Ob) (hI_me : IvX8 rI o_me) (hI_me_isles : IvX2 pl o_me_isles)  : wp (f_X8_forget   o_me o_me_isles) (fun (y : Int32 × Ob) => (0 ≤ y.1.toInt ∧ y.1.toInt ≤ 6) ∧ IvX2 pl y.2 ∧ Kp [7, 9, 10, 11, 12] [1, 2, 3, 4, 5] [] o_me_isles y.2) := by
  have li0 : (0 : Int32).toInt = 0 := by decide
  unfold f_X8_forget
  have t1 := igX2_8 hI_me_isles
  refine wp_lt (fun x2 ex2 => ?_)
  have tx2 : x2.toInt = (gI o_me_isles 8).toInt := by rw [ex2]
  refine wp_lt (fun o3 eo3 => ?_)
  have hIo3 : IvX2 pl o3 := by rw [eo3]; exact ipX2_8 hI_me_isles ⟨by decide, by decide⟩
  have ko3_v : (gI o3 8).toInt = 0 := by rw [eo3]; exact (show ((0 : Int32)).toInt = _ from by decide)
  have hkpo3 : Kp [7, 9, 10, 11, 12] [1, 2, 3, 4, 5] [] o_me_isles o3 := Kp.rf.trans (by rw [eo3]; exact Kp.sI (by decide))
  refine wp_some ?_
  exact (show (0 ≤ x2.toInt ∧ x2.toInt ≤ 6) ∧ IvX2 pl o3 ∧ Kp [7, 9, 10, 11, 12] [1, 2, 3, 4, 5] [] o_me_isles o3 from ⟨⟨by omega, by omega⟩, hIo3, hkpo3⟩)

set_option maxHeartbeats 4000000 in
set_option maxRecDepth 100000 in
theorem s_X7_awaitChildren {pl : List CR} (o_me : Ob) (o_me_court_isles : Ob) (p0 : Int32) (p1 : Int32) (hI_me : IvX7 o_me) (hI_me_court_isles : IvX2 pl o_me_court_isles) (q0 : (-1) ≤ p0.toInt ∧ p0.toInt ≤ 6) (q1 : 0 ≤ p1.toInt ∧ p1.toInt ≤ 7) : wp (f_X7_awaitChildren   o_me o_me_court_isles p0 p1) (fun (y : Int32 × Ob) => (0 ≤ y.1.toInt ∧ y.1.toInt ≤ 7) ∧ IvX7 y.2 ∧ Kp [] [2] [] o_me y.2) := by
  have li0 : (1 : Int32).toInt = 1 := by decide
  have li1 : (7 : Int32).toInt = 7 := by decide
  unfold f_X7_awaitChildren
  have t1 := igX2_7 hI_me_court_isles
  have t2 : ((gI o_me_court_isles 7) - (1 : Int32)).toInt = (gI o_me_court_isles 7).toInt - 1 := i32_sub rfl (by decide) (by omega) (by omega)
  refine wp_lt (fun x3 ex3 => ?_)
  have tx3 : x3.toInt = ((gI o_me_court_isles 7) - (1 : Int32)).toInt := by rw [ex3]
  have lp1 : ∀ (N1 : Nat) (v1_1 : Int32) (v3_1 : Int32) (v4_1 : Int32) (o_me_1 : Ob), IvX7 o_me_1 → Kp [] [2] [] o_me o_me_1 → ((-1) ≤ v1_1.toInt ∧ v1_1.toInt ≤ 6) → (0 ≤ v3_1.toInt ∧ v3_1.toInt ≤ 7) → ((-1) ≤ v4_1.toInt ∧ v4_1.toInt ≤ 6) → (v1_1.toInt ≤ p0.toInt + 0) → (p0.toInt ≤ v1_1.toInt + 0) → (p1.toInt ≤ v3_1.toInt + 0) → (v4_1.toInt ≤ (gI o_me_court_isles 7).toInt + (-1)) → (v4_1.toInt ≤ x3.toInt + 0) → (v4_1.toInt - (-1)).toNat < N1 → wp (lp_X7_awaitChildren_13 o_me_court_isles  N1 (v1_1, v3_1, v4_1, o_me_1)) (fun (y : Int32 × Ob) => (0 ≤ y.1.toInt ∧ y.1.toInt ≤ 7) ∧ IvX7 y.2 ∧ Kp [] [2] [] o_me y.2) := by
    intro N1
    induction N1 with
    | zero =>
      intro v1_1 v3_1 v4_1 o_me_1 hI_me_1 hkp_me_1 hh4 hh5 hh6 hh7 hh8 hh9 hh10 hh11 hN1
      exact absurd hN1 (Nat.not_lt_zero _)
    | succ N1 ihx =>
      have ih1 := ihx
      intro v1_1 v3_1 v4_1 o_me_1 hI_me_1 hkp_me_1 hh4 hh5 hh6 hh7 hh8 hh9 hh10 hh11 hN1
      show wp (lb_X7_awaitChildren_13 o_me_court_isles  (lp_X7_awaitChildren_13 o_me_court_isles  N1) v1_1 v3_1 v4_1 o_me_1) (fun (y : Int32 × Ob) => (0 ≤ y.1.toInt ∧ y.1.toInt ≤ 7) ∧ IvX7 y.2 ∧ Kp [] [2] [] o_me y.2)
      unfold lb_X7_awaitChildren_13
      refine wp_if (fun c12 => ?_) (fun c12 => ?_)
      · have c12 := cv_lt (a := v4_1.toInt) (b := 0) rfl (by decide) c12
        refine wp_some ?_
        exact (show (0 ≤ v3_1.toInt ∧ v3_1.toInt ≤ 7) ∧ IvX7 o_me_1 ∧ Kp [] [2] [] o_me o_me_1 from ⟨⟨by omega, by omega⟩, hI_me_1, hkp_me_1⟩)
      · have c12 := cv_nlt (a := v4_1.toInt) (b := 0) rfl (by decide) c12
        refine wp_gd (zin_of (m := 7) rfl (by omega) (by omega)) ?_
        have rg14 := i32_rg (gA o_me_court_isles 1 v4_1.toNatClampNeg)
        refine wp_if (fun c13 => ?_) (fun c13 => ?_)
        · have c13 := cv_eq (a := (gA o_me_court_isles 1 v4_1.toNatClampNeg).toInt) (b := v1_1.toInt) rfl rfl c13
          refine wp_if (fun c15 => ?_) (fun c15 => ?_)
          · have c15 := cv_ge (a := v3_1.toInt) (b := 7) rfl (by decide) c15
            unfold bk_X7_awaitChildren_49
            refine wp_lt (fun x16 ex16 => ?_)
            have tx16 : x16.toInt = v4_1.toInt + (-1) := by rw [ex16]; exact i32_add rfl (by decide) (by omega) (by omega)
            exact ih1 v1_1 v3_1 x16 o_me_1 hI_me_1 hkp_me_1 ⟨by omega, by omega⟩ ⟨by omega, by omega⟩ ⟨by omega, by omega⟩ (by omega) (by omega) (by omega) (by omega) (by omega) (by omega)
          · have c15 := cv_nge (a := v3_1.toInt) (b := 7) rfl (by decide) c15
            refine wp_gd (zin_of (m := 7) rfl (by omega) (by omega)) ?_
            refine wp_lt (fun o17 eo17 => ?_)
            have hIo17 : IvX7 o17 := by rw [eo17]; exact ibX7_3 hI_me_1 (by omega) (Or.inr (Or.inr ⟨by omega, by omega⟩))
            have ko17_v : (gA o17 3 v3_1.toNatClampNeg).toInt = v4_1.toInt := by rw [eo17]; exact congrArg Int32.toInt (upd_eq (g := gA o_me_1 3) (i := v3_1) (v := v4_1))
            have hkpo17 : Kp [] [2] [] o_me o17 := hkp_me_1.trans (by rw [eo17]; exact Kp.tA (by decide) (by decide))
            refine wp_lt (fun x18 ex18 => ?_)
            have tx18 : x18.toInt = v3_1.toInt + 1 := by rw [ex18]; exact i32_add rfl (by decide) (by omega) (by omega)
            unfold bk_X7_awaitChildren_49
            refine wp_lt (fun x19 ex19 => ?_)
            have tx19 : x19.toInt = v4_1.toInt + (-1) := by rw [ex19]; exact i32_add rfl (by decide) (by omega) (by omega)
            exact ih1 v1_1 x18 x19 o17 hIo17 hkpo17 ⟨by omega, by omega⟩ ⟨by omega, by omega⟩ ⟨by omega, by omega⟩ (by omega) (by omega) (by omega) (by omega) (by omega) (by omega)
        · have c13 := cv_ne (a := (gA o_me_court_isles 1 v4_1.toNatClampNeg).toInt) (b := v1_1.toInt) rfl rfl c13
          unfold bk_X7_awaitChildren_49
          refine wp_lt (fun x20 ex20 => ?_)
          have tx20 : x20.toInt = v4_1.toInt + (-1) := by rw [ex20]; exact i32_add rfl (by decide) (by omega) (by omega)
          exact ih1 v1_1 v3_1 x20 o_me_1 hI_me_1 hkp_me_1 ⟨by omega, by omega⟩ ⟨by omega, by omega⟩ ⟨by omega, by omega⟩ (by omega) (by omega) (by omega) (by omega) (by omega) (by omega)
  exact lp1 zfu p0 p1 x3 o_me hI_me Kp.rf ⟨by omega, by omega⟩ ⟨by omega, by omega⟩ ⟨by omega, by omega⟩ (by omega) (by omega) (by omega) (by omega) (by omega) (by show _ < 100000; omega)

set_option maxHeartbeats 4000000 in
set_option maxRecDepth 100000 in
theorem s_X7_elders {pl : List CR} (o_me : Ob) (o_me_court_isles : Ob) (p0 : Int32) (hI_me : IvX7 o_me) (hI_me_court_isles : IvX2 pl o_me_court_isles) (q0 : 0 ≤ p0.toInt ∧ p0.toInt ≤ 6) : wp (f_X7_elders   o_me o_me_court_isles p0) (fun (y : Int32) => (0 ≤ y.toInt ∧ y.toInt ≤ 6)) := by
  have li0 : (0 : Int32).toInt = 0 := by decide
  unfold f_X7_elders
  have lp1 : ∀ (N1 : Nat) (v1_1 : Int32) (v2_1 : Int32) (v3_1 : Int32), (0 ≤ v1_1.toInt ∧ v1_1.toInt ≤ 6) → (0 ≤ v2_1.toInt ∧ v2_1.toInt ≤ 6) → (0 ≤ v3_1.toInt ∧ v3_1.toInt ≤ 6) → (v2_1.toInt ≤ v1_1.toInt + 0) → (v2_1.toInt ≤ v3_1.toInt + 0) → (v3_1.toInt ≤ v1_1.toInt + 0) → (v1_1.toInt ≤ p0.toInt + 0) → (p0.toInt ≤ v1_1.toInt + 0) → (v2_1.toInt ≤ p0.toInt + 0) → (v3_1.toInt ≤ p0.toInt + 0) → (6 - v3_1.toInt).toNat < N1 → wp (lp_X7_elders_4 o_me o_me_court_isles  N1 (v1_1, v2_1, v3_1)) (fun (y : Int32) => (0 ≤ y.toInt ∧ y.toInt ≤ 6)) := by
    intro N1
    induction N1 with
    | zero =>
      intro v1_1 v2_1 v3_1 hh1 hh2 hh3 hh4 hh5 hh6 hh7 hh8 hh9 hh10 hN1
      exact absurd hN1 (Nat.not_lt_zero _)
    | succ N1 ihx =>
      have ih1 := ihx
      intro v1_1 v2_1 v3_1 hh1 hh2 hh3 hh4 hh5 hh6 hh7 hh8 hh9 hh10 hN1
      show wp (lb_X7_elders_4 o_me o_me_court_isles  (lp_X7_elders_4 o_me o_me_court_isles  N1) v1_1 v2_1 v3_1) (fun (y : Int32) => (0 ≤ y.toInt ∧ y.toInt ≤ 6))
      unfold lb_X7_elders_4
      refine wp_if (fun c11 => ?_) (fun c11 => ?_)
      · have c11 := cv_ge (a := v3_1.toInt) (b := v1_1.toInt) rfl rfl c11
        refine wp_some ?_
        exact (show (0 ≤ v2_1.toInt ∧ v2_1.toInt ≤ 6) from ⟨by omega, by omega⟩)
      · have c11 := cv_nge (a := v3_1.toInt) (b := v1_1.toInt) rfl rfl c11
        refine wp_gd (zin_of (m := 7) rfl (by omega) (by omega)) ?_
        refine wp_gd (zin_of (m := 7) rfl (by omega) (by omega)) ?_
        have rg13 := i32_rg (gA o_me_court_isles 1 v3_1.toNatClampNeg)
        have rg14 := i32_rg (gA o_me_court_isles 1 v1_1.toNatClampNeg)
        refine wp_if (fun c12 => ?_) (fun c12 => ?_)
        · have c12 := cv_eq (a := (gA o_me_court_isles 1 v3_1.toNatClampNeg).toInt) (b := (gA o_me_court_isles 1 v1_1.toNatClampNeg).toInt) rfl rfl c12
          refine wp_lt (fun x15 ex15 => ?_)
          have tx15 : x15.toInt = v2_1.toInt + 1 := by rw [ex15]; exact i32_add rfl (by decide) (by omega) (by omega)
          unfold bk_X7_elders_33
          refine wp_lt (fun x16 ex16 => ?_)
          have tx16 : x16.toInt = v3_1.toInt + 1 := by rw [ex16]; exact i32_add rfl (by decide) (by omega) (by omega)
          exact ih1 v1_1 x15 x16  ⟨by omega, by omega⟩ ⟨by omega, by omega⟩ ⟨by omega, by omega⟩ (by omega) (by omega) (by omega) (by omega) (by omega) (by omega) (by omega) (by omega)
        · have c12 := cv_ne (a := (gA o_me_court_isles 1 v3_1.toNatClampNeg).toInt) (b := (gA o_me_court_isles 1 v1_1.toNatClampNeg).toInt) rfl rfl c12
          unfold bk_X7_elders_33
          refine wp_lt (fun x17 ex17 => ?_)
          have tx17 : x17.toInt = v3_1.toInt + 1 := by rw [ex17]; exact i32_add rfl (by decide) (by omega) (by omega)
          exact ih1 v1_1 v2_1 x17  ⟨by omega, by omega⟩ ⟨by omega, by omega⟩ ⟨by omega, by omega⟩ (by omega) (by omega) (by omega) (by omega) (by omega) (by omega) (by omega) (by omega)
  exact lp1 zfu p0 (0 : Int32) (0 : Int32)  ⟨by omega, by omega⟩ ⟨by decide, by decide⟩ ⟨by decide, by decide⟩ (by omega) (by omega) (by omega) (by omega) (by omega) (by omega) (by omega) (by show _ < 100000; omega)

set_option maxHeartbeats 4000000 in
set_option maxRecDepth 100000 in
theorem s_X7_lineOfHeirs {pl : List CR} (o_me : Ob) (o_me_court_isles : Ob) (hI_me : IvX7 o_me) (hI_me_court_isles : IvX2 pl o_me_court_isles)  : wp (f_X7_lineOfHeirs   o_me o_me_court_isles) (fun (y : Int32 × Ob) => (0 ≤ y.1.toInt ∧ y.1.toInt ≤ 7) ∧ IvX7 y.2 ∧ Kp [] [] [] o_me y.2) := by
  have li0 : (-1 : Int32).toInt = (-1) := by decide
  have li1 : (0 : Int32).toInt = 0 := by decide
  have li2 : (1 : Int32).toInt = 1 := by decide
  unfold f_X7_lineOfHeirs
  refine wp_bd (s_X7_awaitChildren   o_me o_me_court_isles (-1 : Int32) (0 : Int32)  hI_me hI_me_court_isles  ⟨by decide, by decide⟩ ⟨by decide, by decide⟩) (fun z1 hz1 => ?_)
  obtain ⟨hz1_0, hz1_1, hz1_2⟩ := hz1
  have hkpz1_me : Kp [] [] [] o_me z1.2 := Kp.rf.trans (hz1_2.mono (by decide) (by decide) (by decide))
  have lp1 : ∀ (N1 : Nat) (v1_1 : Int32) (v2_1 : Int32) (v3_1 : Int32) (o_me_1 : Ob), IvX7 o_me_1 → Kp [] [] [] o_me o_me_1 → (0 ≤ v1_1.toInt ∧ v1_1.toInt ≤ 7) → (0 ≤ v2_1.toInt ∧ v2_1.toInt ≤ 7) → (0 ≤ v3_1.toInt ∧ v3_1.toInt ≤ 7) → (v1_1.toInt ≤ v3_1.toInt + 0) → (7 - v3_1.toInt).toNat < N1 → wp (lp_X7_lineOfHeirs_11 o_me_court_isles  N1 (v1_1, v2_1, v3_1, o_me_1)) (fun (y : Int32 × Ob) => (0 ≤ y.1.toInt ∧ y.1.toInt ≤ 7) ∧ IvX7 y.2 ∧ Kp [] [] [] o_me y.2) := by
    intro N1
    induction N1 with
    | zero =>
      intro v1_1 v2_1 v3_1 o_me_1 hI_me_1 hkp_me_1 hh2 hh3 hh4 hh5 hN1
      exact absurd hN1 (Nat.not_lt_zero _)
    | succ N1 ihx =>
      have ih1 := ihx
      intro v1_1 v2_1 v3_1 o_me_1 hI_me_1 hkp_me_1 hh2 hh3 hh4 hh5 hN1
      show wp (lb_X7_lineOfHeirs_11 o_me_court_isles  (lp_X7_lineOfHeirs_11 o_me_court_isles  N1) v1_1 v2_1 v3_1 o_me_1) (fun (y : Int32 × Ob) => (0 ≤ y.1.toInt ∧ y.1.toInt ≤ 7) ∧ IvX7 y.2 ∧ Kp [] [] [] o_me y.2)
      unfold lb_X7_lineOfHeirs_11
      have t6 := igX2_7 hI_me_court_isles
      refine wp_if (fun c7 => ?_) (fun c7 => ?_)
      · have c7 := cv_ge (a := v3_1.toInt) (b := (gI o_me_court_isles 7).toInt) rfl rfl c7
        refine wp_some ?_
        exact (show (0 ≤ v1_1.toInt ∧ v1_1.toInt ≤ 7) ∧ IvX7 o_me_1 ∧ Kp [] [] [] o_me o_me_1 from ⟨⟨by omega, by omega⟩, hI_me_1, hkp_me_1⟩)
      · have c7 := cv_nge (a := v3_1.toInt) (b := (gI o_me_court_isles 7).toInt) rfl rfl c7
        refine wp_if (fun c8 => ?_) (fun c8 => ?_)
        · have c8 := cv_le (a := v2_1.toInt) (b := 0) rfl (by decide) c8
          refine wp_some ?_
          exact (show (0 ≤ v1_1.toInt ∧ v1_1.toInt ≤ 7) ∧ IvX7 o_me_1 ∧ Kp [] [] [] o_me o_me_1 from ⟨⟨by omega, by omega⟩, hI_me_1, hkp_me_1⟩)
        · have c8 := cv_nle (a := v2_1.toInt) (b := 0) rfl (by decide) c8
          refine wp_lt (fun x9 ex9 => ?_)
          have tx9 : x9.toInt = v2_1.toInt + (-1) := by rw [ex9]; exact i32_add rfl (by decide) (by omega) (by omega)
          refine wp_gd (zin_of (m := 7) rfl (by omega) (by omega)) ?_
          have t10 := iaX7_3_0 hI_me_1 (j := x9) (by omega) (by omega)
          refine wp_lt (fun x11 ex11 => ?_)
          have tx11 : x11.toInt = (gA o_me_1 3 x9.toNatClampNeg).toInt := by rw [ex11]
          refine wp_bd (s_X7_elders   o_me_1 o_me_court_isles x11  hI_me_1 hI_me_court_isles  ⟨by omega, by omega⟩) (fun z12 hz12 => ?_)
          have hz12_0 := hz12
          refine wp_if (fun c13 => ?_) (fun c13 => ?_)
          · have c13 := cv_eq (a := z12.toInt) (b := 1) rfl (by decide) c13
            unfold bk_X7_lineOfHeirs_58
            refine wp_bd (s_X7_awaitChildren   o_me_1 o_me_court_isles x11 x9  hI_me_1 hI_me_court_isles  ⟨by omega, by omega⟩ ⟨by omega, by omega⟩) (fun z14 hz14 => ?_)
            obtain ⟨hz14_0, hz14_1, hz14_2⟩ := hz14
            have hkpz14_me : Kp [] [] [] o_me z14.2 := hkp_me_1.trans (hz14_2.mono (by decide) (by decide) (by decide))
            refine wp_lt (fun x15 ex15 => ?_)
            have tx15 : x15.toInt = v3_1.toInt + 1 := by rw [ex15]; exact i32_add rfl (by decide) (by omega) (by omega)
            exact ih1 v1_1 z14.1 x15 z14.2 hz14_1 hkpz14_me ⟨by omega, by omega⟩ ⟨by omega, by omega⟩ ⟨by omega, by omega⟩ (by omega) (by omega)
          · have c13 := cv_ne (a := z12.toInt) (b := 1) rfl (by decide) c13
            refine wp_gd (zin_of (m := 7) rfl (by omega) (by omega)) ?_
            refine wp_lt (fun o16 eo16 => ?_)
            have hIo16 : IvX7 o16 := by rw [eo16]; exact ibX7_2 hI_me_1 (by omega) (Or.inr (Or.inr ⟨by omega, by omega⟩))
            have ko16_k17 : (gA o16 3 x9.toNatClampNeg).toInt = (gA o_me_1 3 x9.toNatClampNeg).toInt := by rw [eo16]; rfl
            have ko16_v : (gA o16 2 v1_1.toNatClampNeg).toInt = x11.toInt := by rw [eo16]; exact congrArg Int32.toInt (upd_eq (g := gA o_me_1 2) (i := v1_1) (v := x11))
            have hkpo16 : Kp [] [] [] o_me o16 := hkp_me_1.trans (by rw [eo16]; exact Kp.tA (by decide) (by decide))
            refine wp_lt (fun x18 ex18 => ?_)
            have tx18 : x18.toInt = v1_1.toInt + 1 := by rw [ex18]; exact i32_add rfl (by decide) (by omega) (by omega)
            unfold bk_X7_lineOfHeirs_58
            refine wp_bd (s_X7_awaitChildren   o16 o_me_court_isles x11 x9  hIo16 hI_me_court_isles  ⟨by omega, by omega⟩ ⟨by omega, by omega⟩) (fun z19 hz19 => ?_)
            obtain ⟨hz19_0, hz19_1, hz19_2⟩ := hz19
            have hkpz19_me : Kp [] [] [] o_me z19.2 := hkpo16.trans (hz19_2.mono (by decide) (by decide) (by decide))
            have kz19_k20 : (gA z19.2 2 v1_1.toNatClampNeg).toInt = (gA o16 2 v1_1.toNatClampNeg).toInt := congrArg (fun g => (g v1_1.toNatClampNeg).toInt) (hz19_2.2.1 2 (by decide))
            refine wp_lt (fun x21 ex21 => ?_)
            have tx21 : x21.toInt = v3_1.toInt + 1 := by rw [ex21]; exact i32_add rfl (by decide) (by omega) (by omega)
            exact ih1 x18 z19.1 x21 z19.2 hz19_1 hkpz19_me ⟨by omega, by omega⟩ ⟨by omega, by omega⟩ ⟨by omega, by omega⟩ (by omega) (by omega)
  exact lp1 zfu (0 : Int32) z1.1 (0 : Int32) z1.2 hz1_1 hkpz1_me ⟨by decide, by decide⟩ ⟨by omega, by omega⟩ ⟨by decide, by decide⟩ (by omega) (by show _ < 100000; omega)

set_option maxHeartbeats 4000000 in
set_option maxRecDepth 100000 in
theorem s_X8_heir {pl : List CR} {rI : Nat → Option Nat} (o_me : Ob) (o_me_isles : Ob) (o_me_study : Ob) (p0 : Int32) (hI_me : IvX8 rI o_me) (hI_me_isles : IvX2 pl o_me_isles) (hI_me_study : IvX7 o_me_study)  : wp (f_X8_heir   o_me o_me_isles o_me_study p0) (fun (y : Int32 × Ob) => ((-1) ≤ y.1.toInt ∧ y.1.toInt ≤ 7) ∧ IvX7 y.2 ∧ Kp [] [] [] o_me_study y.2) := by
  have li0 : (-1 : Int32).toInt = (-1) := by decide
  unfold f_X8_heir
  refine wp_if (fun c1 => ?_) (fun c1 => ?_)
  · have c1 := cv_ge (a := p0.toInt) (b := (-1)) rfl (by decide) c1
    refine wp_bd (s_X7_lineOfHeirs   o_me_study o_me_isles  hI_me_study hI_me_isles  ) (fun z2 hz2 => ?_)
    obtain ⟨hz2_0, hz2_1, hz2_2⟩ := hz2
    have hkpz2_me_study : Kp [] [] [] o_me_study z2.2 := Kp.rf.trans (hz2_2.mono (by decide) (by decide) (by decide))
    refine wp_if (fun c3 => ?_) (fun c3 => ?_)
    · have c3 := cv_eq (a := p0.toInt) (b := (-1)) rfl (by decide) c3
      refine wp_some ?_
      exact (show ((-1) ≤ z2.1.toInt ∧ z2.1.toInt ≤ 7) ∧ IvX7 z2.2 ∧ Kp [] [] [] o_me_study z2.2 from ⟨⟨by omega, by omega⟩, hz2_1, hkpz2_me_study⟩)
    · have c3 := cv_ne (a := p0.toInt) (b := (-1)) rfl (by decide) c3
      have rg5 := i32_rg p0
      refine wp_if (fun c4 => ?_) (fun c4 => ?_)
      · have c4 := cv_ge (a := p0.toInt) (b := z2.1.toInt) rfl rfl c4
        refine wp_some ?_
        exact (show ((-1) ≤ (-1 : Int32).toInt ∧ (-1 : Int32).toInt ≤ 7) ∧ IvX7 z2.2 ∧ Kp [] [] [] o_me_study z2.2 from ⟨⟨by decide, by decide⟩, hz2_1, hkpz2_me_study⟩)
      · have c4 := cv_nge (a := p0.toInt) (b := z2.1.toInt) rfl rfl c4
        refine wp_gd (zin_of (m := 7) rfl (by omega) (by omega)) ?_
        have t6 := iaX7_2_0 hz2_1 (j := p0) (by omega) (by omega)
        refine wp_some ?_
        exact (show ((-1) ≤ (gA z2.2 2 p0.toNatClampNeg).toInt ∧ (gA z2.2 2 p0.toNatClampNeg).toInt ≤ 7) ∧ IvX7 z2.2 ∧ Kp [] [] [] o_me_study z2.2 from ⟨⟨by omega, by omega⟩, hz2_1, hkpz2_me_study⟩)
  · have c1 := cv_nge (a := p0.toInt) (b := (-1)) rfl (by decide) c1
    refine wp_some ?_
    exact (show ((-1) ≤ (-1 : Int32).toInt ∧ (-1 : Int32).toInt ≤ 7) ∧ IvX7 o_me_study ∧ Kp [] [] [] o_me_study o_me_study from ⟨⟨by decide, by decide⟩, hI_me_study, Kp.rf⟩)

set_option maxHeartbeats 4000000 in
set_option maxRecDepth 100000 in
theorem s_X7_waysUp (o_me : Ob) (p0 : Int32) (p1 : Int32) (hI_me : IvX7 o_me) (q0 : 1 ≤ p0.toInt ∧ p0.toInt ≤ 60) (q1 : 1 ≤ p1.toInt ∧ p1.toInt ≤ 5) : wp (f_X7_waysUp   o_me p0 p1) (fun (y : Int64 × Ob) => IvX7 y.2 ∧ Kp [] [2, 3] [] o_me y.2) := by
  have li0 : (0 : Int32).toInt = 0 := by decide
  have li1 : (0 : Int64).toInt = 0 := by decide
  have li2 : (1 : Int32).toInt = 1 := by decide
  have li3 : (1 : Int64).toInt = 1 := by decide
  have li4 : (2 : Int32).toInt = 2 := by decide
  have li5 : (60 : Int32).toInt = 60 := by decide
  unfold f_X7_waysUp
  refine wp_lt (fun o1 eo1 => ?_)
  have hIo1 : IvX7 o1 := by rw [eo1]; exact hI_me
  have hkpo1 : Kp [] [2, 3] [] o_me o1 := Kp.rf.trans (by rw [eo1]; exact Kp.tM)
  have lp1 : ∀ (N1 : Nat) (v1_1 : Int32) (v2_1 : Int32) (v3_1 : Int32) (o_me_1 : Ob), IvX7 o_me_1 → Kp [] [2, 3] [] o_me o_me_1 → (1 ≤ v1_1.toInt ∧ v1_1.toInt ≤ 60) → (1 ≤ v2_1.toInt ∧ v2_1.toInt ≤ 5) → (1 ≤ v3_1.toInt ∧ v3_1.toInt ≤ 61) → (v3_1.toInt ≤ v1_1.toInt + 1) → (v1_1.toInt ≤ p0.toInt + 0) → (p0.toInt ≤ v1_1.toInt + 0) → (v2_1.toInt ≤ p1.toInt + 0) → (p1.toInt ≤ v2_1.toInt + 0) → (61 - v3_1.toInt).toNat < N1 → wp (lp_X7_waysUp_9   N1 (v1_1, v2_1, v3_1, o_me_1)) (fun (y : Int64 × Ob) => IvX7 y.2 ∧ Kp [] [2, 3] [] o_me y.2) := by
    intro N1
    induction N1 with
    | zero =>
      intro v1_1 v2_1 v3_1 o_me_1 hI_me_1 hkp_me_1 hh2 hh3 hh4 hh5 hh6 hh7 hh8 hh9 hN1
      exact absurd hN1 (Nat.not_lt_zero _)
    | succ N1 ihx =>
      have ih1 := ihx
      intro v1_1 v2_1 v3_1 o_me_1 hI_me_1 hkp_me_1 hh2 hh3 hh4 hh5 hh6 hh7 hh8 hh9 hN1
      show wp (lb_X7_waysUp_9   (lp_X7_waysUp_9   N1) v1_1 v2_1 v3_1 o_me_1) (fun (y : Int64 × Ob) => IvX7 y.2 ∧ Kp [] [2, 3] [] o_me y.2)
      unfold lb_X7_waysUp_9
      refine wp_if (fun c10 => ?_) (fun c10 => ?_)
      · have c10 := cv_gt (a := v3_1.toInt) (b := v1_1.toInt) rfl rfl c10
        unfold bk_X7_waysUp_77
        refine wp_if (fun c11 => ?_) (fun c11 => ?_)
        · have c11 := cv_lt (a := v1_1.toInt) (b := 0) rfl (by decide) c11
          exfalso; omega
        · have c11 := cv_nlt (a := v1_1.toInt) (b := 0) rfl (by decide) c11
          refine wp_if (fun c12 => ?_) (fun c12 => ?_)
          · have c12 := cv_gt (a := v1_1.toInt) (b := 60) rfl (by decide) c12
            exfalso; omega
          · have c12 := cv_ngt (a := v1_1.toInt) (b := 60) rfl (by decide) c12
            refine wp_gd (zin_of (m := 61) rfl (by omega) (by omega)) ?_
            refine wp_some ?_
            exact (show IvX7 o_me_1 ∧ Kp [] [2, 3] [] o_me o_me_1 from ⟨hI_me_1, hkp_me_1⟩)
      · have c10 := cv_ngt (a := v3_1.toInt) (b := v1_1.toInt) rfl rfl c10
        refine wp_if (fun c13 => ?_) (fun c13 => ?_)
        · have c13 := cv_gt (a := v3_1.toInt) (b := 60) rfl (by decide) c13
          exfalso; omega
        · have c13 := cv_ngt (a := v3_1.toInt) (b := 60) rfl (by decide) c13
          have lp2 : ∀ (N2 : Nat) (v1_2 : Int32) (v2_2 : Int32) (v3_2 : Int32) (v4_2 : Int64) (v6_2 : Int32) (o_me_2 : Ob), IvX7 o_me_2 → Kp [] [2, 3] [] o_me o_me_2 → (1 ≤ v1_2.toInt ∧ v1_2.toInt ≤ 60) → (1 ≤ v2_2.toInt ∧ v2_2.toInt ≤ 5) → (1 ≤ v3_2.toInt ∧ v3_2.toInt ≤ 60) → (1 ≤ v6_2.toInt ∧ v6_2.toInt ≤ 6) → (v3_2.toInt ≤ v1_2.toInt + 0) → (v6_2.toInt ≤ v1_2.toInt + 1) → (v6_2.toInt ≤ v2_2.toInt + 1) → (v6_2.toInt ≤ v3_2.toInt + 1) → (v1_2.toInt ≤ p0.toInt + 0) → (p0.toInt ≤ v1_2.toInt + 0) → (v1_2.toInt ≤ v1_1.toInt + 0) → (v1_1.toInt ≤ v1_2.toInt + 0) → (v3_1.toInt ≤ v1_2.toInt + 0) → (v2_2.toInt ≤ v2_1.toInt + 0) → (v2_1.toInt ≤ v2_2.toInt + 0) → (v2_2.toInt ≤ p1.toInt + 0) → (p1.toInt ≤ v2_2.toInt + 0) → (v3_2.toInt ≤ p0.toInt + 0) → (v3_2.toInt ≤ v1_1.toInt + 0) → (v3_2.toInt ≤ v3_1.toInt + 0) → (v3_1.toInt ≤ v3_2.toInt + 0) → (6 - v6_2.toInt).toNat < N2 → wp (lp_X7_waysUp_26  (lp_X7_waysUp_9   N1) N2 (v1_2, v2_2, v3_2, v4_2, v6_2, o_me_2)) (fun (y : Int64 × Ob) => IvX7 y.2 ∧ Kp [] [2, 3] [] o_me y.2) := by
            intro N2
            induction N2 with
            | zero =>
              intro v1_2 v2_2 v3_2 v4_2 v6_2 o_me_2 hI_me_2 hkp_me_2 hh14 hh15 hh16 hh17 hh18 hh19 hh20 hh21 hh22 hh23 hh24 hh25 hh26 hh27 hh28 hh29 hh30 hh31 hh32 hh33 hh34 hN2
              exact absurd hN2 (Nat.not_lt_zero _)
            | succ N2 ihx =>
              have ih2 := ihx
              intro v1_2 v2_2 v3_2 v4_2 v6_2 o_me_2 hI_me_2 hkp_me_2 hh14 hh15 hh16 hh17 hh18 hh19 hh20 hh21 hh22 hh23 hh24 hh25 hh26 hh27 hh28 hh29 hh30 hh31 hh32 hh33 hh34 hN2
              show wp (lb_X7_waysUp_26  (lp_X7_waysUp_9   N1) (lp_X7_waysUp_26  (lp_X7_waysUp_9   N1) N2) v1_2 v2_2 v3_2 v4_2 v6_2 o_me_2) (fun (y : Int64 × Ob) => IvX7 y.2 ∧ Kp [] [2, 3] [] o_me y.2)
              unfold lb_X7_waysUp_26
              refine wp_if (fun c35 => ?_) (fun c35 => ?_)
              · have c35 := cv_gt (a := v6_2.toInt) (b := v2_2.toInt) rfl rfl c35
                unfold bk_X7_waysUp_63
                refine wp_gd (zin_of (m := 61) rfl (by omega) (by omega)) ?_
                refine wp_lt (fun o36 eo36 => ?_)
                have hIo36 : IvX7 o36 := by rw [eo36]; exact hI_me_2
                have hkpo36 : Kp [] [2, 3] [] o_me o36 := hkp_me_2.trans (by rw [eo36]; exact Kp.tM)
                refine wp_lt (fun x37 ex37 => ?_)
                have tx37 : x37.toInt = v3_2.toInt + 1 := by rw [ex37]; exact i32_add rfl (by decide) (by omega) (by omega)
                exact ih1 v1_2 v2_2 x37 o36 hIo36 hkpo36 ⟨by omega, by omega⟩ ⟨by omega, by omega⟩ ⟨by omega, by omega⟩ (by omega) (by omega) (by omega) (by omega) (by omega) (by omega)
              · have c35 := cv_ngt (a := v6_2.toInt) (b := v2_2.toInt) rfl rfl c35
                refine wp_if (fun c38 => ?_) (fun c38 => ?_)
                · have c38 := cv_gt (a := v6_2.toInt) (b := v3_2.toInt) rfl rfl c38
                  unfold bk_X7_waysUp_63
                  refine wp_gd (zin_of (m := 61) rfl (by omega) (by omega)) ?_
                  refine wp_lt (fun o39 eo39 => ?_)
                  have hIo39 : IvX7 o39 := by rw [eo39]; exact hI_me_2
                  have hkpo39 : Kp [] [2, 3] [] o_me o39 := hkp_me_2.trans (by rw [eo39]; exact Kp.tM)
                  refine wp_lt (fun x40 ex40 => ?_)
                  have tx40 : x40.toInt = v3_2.toInt + 1 := by rw [ex40]; exact i32_add rfl (by decide) (by omega) (by omega)
                  exact ih1 v1_2 v2_2 x40 o39 hIo39 hkpo39 ⟨by omega, by omega⟩ ⟨by omega, by omega⟩ ⟨by omega, by omega⟩ (by omega) (by omega) (by omega) (by omega) (by omega) (by omega)
                · have c38 := cv_ngt (a := v6_2.toInt) (b := v3_2.toInt) rfl rfl c38
                  refine wp_if (fun c41 => ?_) (fun c41 => ?_)
                  · have c41 := cv_eq (a := v3_2.toInt) (b := 2) rfl (by decide) c41
                    unfold bk_X7_waysUp_63
                    refine wp_gd (zin_of (m := 61) rfl (by omega) (by omega)) ?_
                    refine wp_lt (fun o42 eo42 => ?_)
                    have hIo42 : IvX7 o42 := by rw [eo42]; exact hI_me_2
                    have hkpo42 : Kp [] [2, 3] [] o_me o42 := hkp_me_2.trans (by rw [eo42]; exact Kp.tM)
                    refine wp_lt (fun x43 ex43 => ?_)
                    have tx43 : x43.toInt = v3_2.toInt + 1 := by rw [ex43]; exact i32_add rfl (by decide) (by omega) (by omega)
                    exact ih1 v1_2 v2_2 x43 o42 hIo42 hkpo42 ⟨by omega, by omega⟩ ⟨by omega, by omega⟩ ⟨by omega, by omega⟩ (by omega) (by omega) (by omega) (by omega) (by omega) (by omega)
                  · have c41 := cv_ne (a := v3_2.toInt) (b := 2) rfl (by decide) c41
                    have t44 : (v3_2 - v6_2).toInt = v3_2.toInt - v6_2.toInt := i32_sub rfl rfl (by omega) (by omega)
                    refine wp_gd (zin_of (m := 61) rfl (by omega) (by omega)) ?_
                    refine wp_lt (fun x45 ex45 => ?_)
                    have tx45 : x45.toInt = (v4_2 + (gM o_me_2 7 (v3_2 - v6_2).toNatClampNeg)).toInt := by rw [ex45]
                    refine wp_lt (fun x46 ex46 => ?_)
                    have tx46 : x46.toInt = v6_2.toInt + 1 := by rw [ex46]; exact i32_add rfl (by decide) (by omega) (by omega)
                    exact ih2 v1_2 v2_2 v3_2 x45 x46 o_me_2 hI_me_2 hkp_me_2 ⟨by omega, by omega⟩ ⟨by omega, by omega⟩ ⟨by omega, by omega⟩ ⟨by omega, by omega⟩ (by omega) (by omega) (by omega) (by omega) (by omega) (by omega) (by omega) (by omega) (by omega) (by omega) (by omega) (by omega) (by omega) (by omega) (by omega) (by omega) (by omega) (by omega)
          exact lp2 zfu v1_1 v2_1 v3_1 (0 : Int64) (1 : Int32) o_me_1 hI_me_1 hkp_me_1 ⟨by omega, by omega⟩ ⟨by omega, by omega⟩ ⟨by omega, by omega⟩ ⟨by decide, by decide⟩ (by omega) (by omega) (by omega) (by omega) (by omega) (by omega) (by omega) (by omega) (by omega) (by omega) (by omega) (by omega) (by omega) (by omega) (by omega) (by omega) (by omega) (by show _ < 100000; omega)
  exact lp1 zfu p0 p1 (1 : Int32) o1 hIo1 hkpo1 ⟨by omega, by omega⟩ ⟨by omega, by omega⟩ ⟨by decide, by decide⟩ (by omega) (by omega) (by omega) (by omega) (by omega) (by show _ < 100000; omega)

set_option maxHeartbeats 4000000 in
set_option maxRecDepth 100000 in
theorem s_X8_ladder {rI : Nat → Option Nat} (o_me : Ob) (o_me_study : Ob) (p0 : Int32) (p1 : Int32) (hI_me : IvX8 rI o_me) (hI_me_study : IvX7 o_me_study)  : wp (f_X8_ladder   o_me o_me_study p0 p1) (fun (y : Int64 × Ob) => IvX7 y.2 ∧ Kp [] [2, 3] [] o_me_study y.2) := by
  have li0 : (-1 : Int64).toInt = (-1) := by decide
  have li1 : (1 : Int32).toInt = 1 := by decide
  have li2 : (5 : Int32).toInt = 5 := by decide
  have li3 : (60 : Int32).toInt = 60 := by decide
  unfold f_X8_ladder
  refine wp_if (fun c1 => ?_) (fun c1 => ?_)
  · have c1 := cv_lt (a := p0.toInt) (b := 1) rfl (by decide) c1
    refine wp_some ?_
    exact (show IvX7 o_me_study ∧ Kp [] [2, 3] [] o_me_study o_me_study from ⟨hI_me_study, Kp.rf⟩)
  · have c1 := cv_nlt (a := p0.toInt) (b := 1) rfl (by decide) c1
    refine wp_if (fun c2 => ?_) (fun c2 => ?_)
    · have c2 := cv_gt (a := p0.toInt) (b := 60) rfl (by decide) c2
      refine wp_some ?_
      exact (show IvX7 o_me_study ∧ Kp [] [2, 3] [] o_me_study o_me_study from ⟨hI_me_study, Kp.rf⟩)
    · have c2 := cv_ngt (a := p0.toInt) (b := 60) rfl (by decide) c2
      refine wp_if (fun c3 => ?_) (fun c3 => ?_)
      · have c3 := cv_lt (a := p1.toInt) (b := 1) rfl (by decide) c3
        refine wp_some ?_
        exact (show IvX7 o_me_study ∧ Kp [] [2, 3] [] o_me_study o_me_study from ⟨hI_me_study, Kp.rf⟩)
      · have c3 := cv_nlt (a := p1.toInt) (b := 1) rfl (by decide) c3
        refine wp_if (fun c4 => ?_) (fun c4 => ?_)
        · have c4 := cv_le (a := p1.toInt) (b := 5) rfl (by decide) c4
          refine wp_bd (s_X7_waysUp   o_me_study p0 p1  hI_me_study  ⟨by omega, by omega⟩ ⟨by omega, by omega⟩) (fun z5 hz5 => ?_)
          obtain ⟨hz5_0, hz5_1⟩ := hz5
          have hkpz5_me_study : Kp [] [2, 3] [] o_me_study z5.2 := Kp.rf.trans (hz5_1.mono (by decide) (by decide) (by decide))
          refine wp_some ?_
          exact (show IvX7 z5.2 ∧ Kp [] [2, 3] [] o_me_study z5.2 from ⟨hz5_0, hkpz5_me_study⟩)
        · have c4 := cv_nle (a := p1.toInt) (b := 5) rfl (by decide) c4
          refine wp_some ?_
          exact (show IvX7 o_me_study ∧ Kp [] [2, 3] [] o_me_study o_me_study from ⟨hI_me_study, Kp.rf⟩)

set_option maxHeartbeats 4000000 in
set_option maxRecDepth 100000 in
theorem s_J7_fill_53178_AX7_6 (o_a0 : Ob) (p1 : Int32) (hI_a0 : IvX7 o_a0)  : wp (f_J7_fill_53178_AX7_6   o_a0 p1) (fun (y : Ob) => IvX7 y ∧ Kp [] [2, 3] [] o_a0 y) := by
  have li0 : (0 : Int32).toInt = 0 := by decide
  have li1 : (10 : Int32).toInt = 10 := by decide
  unfold f_J7_fill_53178_AX7_6
  have lp1 : ∀ (N1 : Nat) (v1_1 : Int32) (v2_1 : Int32) (v3_1 : Int32) (o_a0_1 : Ob), IvX7 o_a0_1 → Kp [] [2, 3] [] o_a0 o_a0_1 → (0 ≤ v2_1.toInt ∧ v2_1.toInt ≤ 10) → (10 ≤ v3_1.toInt ∧ v3_1.toInt ≤ 10) → (10 - v2_1.toInt).toNat < N1 → wp (lp_J7_fill_53178_AX7_6_5   N1 (v1_1, v2_1, v3_1, o_a0_1)) (fun (y : Ob) => IvX7 y ∧ Kp [] [2, 3] [] o_a0 y) := by
    intro N1
    induction N1 with
    | zero =>
      intro v1_1 v2_1 v3_1 o_a0_1 hI_a0_1 hkp_a0_1 hh1 hh2 hN1
      exact absurd hN1 (Nat.not_lt_zero _)
    | succ N1 ihx =>
      have ih1 := ihx
      intro v1_1 v2_1 v3_1 o_a0_1 hI_a0_1 hkp_a0_1 hh1 hh2 hN1
      show wp (lb_J7_fill_53178_AX7_6_5   (lp_J7_fill_53178_AX7_6_5   N1) v1_1 v2_1 v3_1 o_a0_1) (fun (y : Ob) => IvX7 y ∧ Kp [] [2, 3] [] o_a0 y)
      unfold lb_J7_fill_53178_AX7_6_5
      refine wp_if (fun c3 => ?_) (fun c3 => ?_)
      · have c3 := cv_ge (a := v2_1.toInt) (b := v3_1.toInt) rfl rfl c3
        refine wp_some ?_
        exact (show IvX7 o_a0_1 ∧ Kp [] [2, 3] [] o_a0 o_a0_1 from ⟨hI_a0_1, hkp_a0_1⟩)
      · have c3 := cv_nge (a := v2_1.toInt) (b := v3_1.toInt) rfl rfl c3
        refine wp_gd (zin_of (m := 10) rfl (by omega) (by omega)) ?_
        refine wp_lt (fun o4 eo4 => ?_)
        have hIo4 : IvX7 o4 := by rw [eo4]; exact hI_a0_1
        have ko4_v : (gA o4 6 v2_1.toNatClampNeg).toInt = v1_1.toInt := by rw [eo4]; exact congrArg Int32.toInt (upd_eq (g := gA o_a0_1 6) (i := v2_1) (v := v1_1))
        have hkpo4 : Kp [] [2, 3] [] o_a0 o4 := hkp_a0_1.trans (by rw [eo4]; exact Kp.tA (by decide) (by decide))
        refine wp_lt (fun x5 ex5 => ?_)
        have tx5 : x5.toInt = v2_1.toInt + 1 := by rw [ex5]; exact i32_add rfl (by decide) (by omega) (by omega)
        exact ih1 v1_1 x5 v3_1 o4 hIo4 hkpo4 ⟨by omega, by omega⟩ ⟨by omega, by omega⟩ (by omega)
  exact lp1 zfu p1 (0 : Int32) (10 : Int32) o_a0 hI_a0 Kp.rf ⟨by decide, by decide⟩ ⟨by decide, by decide⟩ (by show _ < 100000; omega)

set_option maxHeartbeats 4000000 in
set_option maxRecDepth 100000 in
theorem s_X7_alikeMost (o_me : Ob) (o_me_court : Ob) (o_me_court_isles : Ob) (o_me_court_isles_now : Ob) (o_me_court_machine : Ob) (o_pool : List CR) (p0 : Int32) (p1 : Int32) (hI_me : IvX7 o_me) (hI_me_court : IvX1 o_me_court) (hI_me_court_isles : IvX2 o_pool o_me_court_isles) (hI_me_court_isles_now : IvX4 o_me_court_isles_now) (hI_me_court_machine : IvX3 o_me_court_machine) (hI_pool : PLok o_pool) (q0 : 0 ≤ p1.toInt ∧ p1.toInt ≤ 3) : wp (f_X7_alikeMost   o_me o_me_court o_me_court_isles o_me_court_isles_now o_me_court_machine o_pool p0 p1) (fun (y : Int32 × Ob × Ob) => (0 ≤ y.1.toInt ∧ y.1.toInt ≤ 2147483647) ∧ IvX7 y.2.1 ∧ Kp [] [2, 3] [] o_me y.2.1 ∧ IvX3 y.2.2 ∧ Kp [] [] [] o_me_court_machine y.2.2) := by
  have li0 : (0 : Int32).toInt = 0 := by decide
  have li1 : (1 : Int32).toInt = 1 := by decide
  unfold f_X7_alikeMost
  refine wp_bd (s_J7_fill_53178_AX7_6   o_me (0 : Int32)  hI_me  ) (fun z1 hz1 => ?_)
  obtain ⟨hz1_0, hz1_1⟩ := hz1
  have hkpz1_me : Kp [] [2, 3] [] o_me z1 := Kp.rf.trans (hz1_1.mono (by decide) (by decide) (by decide))
  have lp1 : ∀ (N1 : Nat) (v1_1 : Int32) (v2_1 : Int32) (v3_1 : Int32) (v4_1 : Int32) (o_me_1 : Ob) (o_me_court_machine_1 : Ob), IvX7 o_me_1 → Kp [] [2, 3] [] o_me o_me_1 → IvX3 o_me_court_machine_1 → Kp [] [] [] o_me_court_machine o_me_court_machine_1 → (0 ≤ v2_1.toInt ∧ v2_1.toInt ≤ 3) → (0 ≤ v3_1.toInt ∧ v3_1.toInt ≤ 2147483647) → (0 ≤ v4_1.toInt ∧ v4_1.toInt ≤ 7) → (v2_1.toInt ≤ p1.toInt + 0) → (p1.toInt ≤ v2_1.toInt + 0) → (7 - v4_1.toInt).toNat < N1 → wp (lp_X7_alikeMost_13 o_me_court o_me_court_isles o_me_court_isles_now o_pool  N1 (v1_1, v2_1, v3_1, v4_1, o_me_1, o_me_court_machine_1)) (fun (y : Int32 × Ob × Ob) => (0 ≤ y.1.toInt ∧ y.1.toInt ≤ 2147483647) ∧ IvX7 y.2.1 ∧ Kp [] [2, 3] [] o_me y.2.1 ∧ IvX3 y.2.2 ∧ Kp [] [] [] o_me_court_machine y.2.2) := by
    intro N1
    induction N1 with
    | zero =>
      intro v1_1 v2_1 v3_1 v4_1 o_me_1 o_me_court_machine_1 hI_me_1 hkp_me_1 hI_me_court_machine_1 hkp_me_court_machine_1 hh2 hh3 hh4 hh5 hh6 hN1
      exact absurd hN1 (Nat.not_lt_zero _)
    | succ N1 ihx =>
      have ih1 := ihx
      intro v1_1 v2_1 v3_1 v4_1 o_me_1 o_me_court_machine_1 hI_me_1 hkp_me_1 hI_me_court_machine_1 hkp_me_court_machine_1 hh2 hh3 hh4 hh5 hh6 hN1
      show wp (lb_X7_alikeMost_13 o_me_court o_me_court_isles o_me_court_isles_now o_pool  (lp_X7_alikeMost_13 o_me_court o_me_court_isles o_me_court_isles_now o_pool  N1) v1_1 v2_1 v3_1 v4_1 o_me_1 o_me_court_machine_1) (fun (y : Int32 × Ob × Ob) => (0 ≤ y.1.toInt ∧ y.1.toInt ≤ 2147483647) ∧ IvX7 y.2.1 ∧ Kp [] [2, 3] [] o_me y.2.1 ∧ IvX3 y.2.2 ∧ Kp [] [] [] o_me_court_machine y.2.2)
      unfold lb_X7_alikeMost_13
      have t7 := igX2_7 hI_me_court_isles
      refine wp_if (fun c8 => ?_) (fun c8 => ?_)
      · have c8 := cv_ge (a := v4_1.toInt) (b := (gI o_me_court_isles 7).toInt) rfl rfl c8
        refine wp_some ?_
        have rg9 := i32_rg v3_1
        exact (show (0 ≤ v3_1.toInt ∧ v3_1.toInt ≤ 2147483647) ∧ IvX7 o_me_1 ∧ Kp [] [2, 3] [] o_me o_me_1 ∧ IvX3 o_me_court_machine_1 ∧ Kp [] [] [] o_me_court_machine o_me_court_machine_1 from ⟨⟨by omega, by omega⟩, hI_me_1, hkp_me_1, hI_me_court_machine_1, hkp_me_court_machine_1⟩)
      · have c8 := cv_nge (a := v4_1.toInt) (b := (gI o_me_court_isles 7).toInt) rfl rfl c8
        have t10 := i32_and (x := v1_1 >>> (v4_1 &&& 31)) (y := (1 : Int32)) (m := 1) ⟨by decide, by decide⟩
        refine wp_if (fun c11 => ?_) (fun c11 => ?_)
        · have c11 := cv_eq (a := ((v1_1 >>> (v4_1 &&& 31)) &&& (1 : Int32)).toInt) (b := 1) rfl (by decide) c11
          refine wp_bd (s_X2_lawInForce   o_me_court_isles  hI_me_court_isles  ) (fun z12 hz12 => ?_)
          have hz12_0 := hz12
          refine wp_bd (s_X1_turnsTo_Q   o_me_court o_me_court_isles o_me_court_isles_now o_me_court_machine_1 o_pool z12 v4_1 v2_1  hI_me_court hI_me_court_isles hI_me_court_isles_now hI_me_court_machine_1 hI_pool hz12_0 ⟨by omega, by omega⟩ ⟨by omega, by omega⟩) (fun z13 hz13 => ?_)
          obtain ⟨hz13_0, hz13_1, hz13_2⟩ := hz13
          have hkpz13_me_court_machine : Kp [] [] [] o_me_court_machine z13.2 := hkp_me_court_machine_1.trans (hz13_2.mono (by decide) (by decide) (by decide))
          refine wp_gd (zin_of (m := 10) rfl (by omega) (by omega)) ?_
          refine wp_gd (zin_of (m := 10) rfl (by omega) (by omega)) ?_
          refine wp_lt (fun o14 eo14 => ?_)
          have hIo14 : IvX7 o14 := by rw [eo14]; exact hI_me_1
          have ko14_v : (gA o14 6 z13.1.toNatClampNeg).toInt = ((gA o_me_1 6 z13.1.toNatClampNeg) + (1 : Int32)).toInt := by rw [eo14]; exact congrArg Int32.toInt (upd_eq (g := gA o_me_1 6) (i := z13.1) (v := ((gA o_me_1 6 z13.1.toNatClampNeg) + (1 : Int32))))
          have hkpo14 : Kp [] [2, 3] [] o_me o14 := hkp_me_1.trans (by rw [eo14]; exact Kp.tA (by decide) (by decide))
          refine wp_gd (zin_of (m := 10) rfl (by omega) (by omega)) ?_
          have rg16 := i32_rg v3_1
          have rg17 := i32_rg (gA o14 6 z13.1.toNatClampNeg)
          have t15 : 0 ≤ (if v3_1 < (gA o14 6 z13.1.toNatClampNeg) then (gA o14 6 z13.1.toNatClampNeg) else v3_1).toInt ∧ (if v3_1 < (gA o14 6 z13.1.toNatClampNeg) then (gA o14 6 z13.1.toNatClampNeg) else v3_1).toInt ≤ 2147483647 := z_max (a := v3_1.toInt) (b := (gA o14 6 z13.1.toNatClampNeg).toInt) rfl rfl (by omega) (by omega)
          have t18 := z_mxg v3_1 (gA o14 6 z13.1.toNatClampNeg)
          refine wp_lt (fun x19 ex19 => ?_)
          have tx19 : x19.toInt = (if v3_1 < (gA o14 6 z13.1.toNatClampNeg) then (gA o14 6 z13.1.toNatClampNeg) else v3_1).toInt := by rw [ex19]
          unfold bk_X7_alikeMost_77
          refine wp_lt (fun x20 ex20 => ?_)
          have tx20 : x20.toInt = v4_1.toInt + 1 := by rw [ex20]; exact i32_add rfl (by decide) (by omega) (by omega)
          have rg21 := i32_rg x19
          exact ih1 v1_1 v2_1 x19 x20 o14 z13.2 hIo14 hkpo14 hz13_1 hkpz13_me_court_machine ⟨by omega, by omega⟩ ⟨by omega, by omega⟩ ⟨by omega, by omega⟩ (by omega) (by omega) (by omega)
        · have c11 := cv_ne (a := ((v1_1 >>> (v4_1 &&& 31)) &&& (1 : Int32)).toInt) (b := 1) rfl (by decide) c11
          unfold bk_X7_alikeMost_77
          refine wp_lt (fun x22 ex22 => ?_)
          have tx22 : x22.toInt = v4_1.toInt + 1 := by rw [ex22]; exact i32_add rfl (by decide) (by omega) (by omega)
          have rg23 := i32_rg v3_1
          exact ih1 v1_1 v2_1 v3_1 x22 o_me_1 o_me_court_machine_1 hI_me_1 hkp_me_1 hI_me_court_machine_1 hkp_me_court_machine_1 ⟨by omega, by omega⟩ ⟨by omega, by omega⟩ ⟨by omega, by omega⟩ (by omega) (by omega) (by omega)
  exact lp1 zfu p0 p1 (0 : Int32) (0 : Int32) z1 o_me_court_machine hz1_0 hkpz1_me hI_me_court_machine Kp.rf ⟨by omega, by omega⟩ ⟨by decide, by decide⟩ ⟨by decide, by decide⟩ (by omega) (by omega) (by show _ < 100000; omega)

set_option maxHeartbeats 4000000 in
set_option maxRecDepth 100000 in
theorem s_X7_raceToWatch (o_me : Ob) (o_me_court : Ob) (o_me_court_isles : Ob) (o_me_court_isles_now : Ob) (o_me_court_machine : Ob) (o_pool : List CR) (hI_me : IvX7 o_me) (hI_me_court : IvX1 o_me_court) (hI_me_court_isles : IvX2 o_pool o_me_court_isles) (hI_me_court_isles_now : IvX4 o_me_court_isles_now) (hI_me_court_machine : IvX3 o_me_court_machine) (hI_pool : PLok o_pool)  : wp (f_X7_raceToWatch   o_me o_me_court o_me_court_isles o_me_court_isles_now o_me_court_machine o_pool) (fun (y : Int32 × Ob × Ob) => ((-1) ≤ y.1.toInt ∧ y.1.toInt ≤ 3) ∧ IvX7 y.2.1 ∧ Kp [] [2, 3] [] o_me y.2.1 ∧ IvX3 y.2.2 ∧ Kp [] [] [] o_me_court_machine y.2.2) := by
  have li0 : (-1 : Int32).toInt = (-1) := by decide
  have li1 : (0 : Int32).toInt = 0 := by decide
  have li2 : (1 : Int32).toInt = 1 := by decide
  have li3 : (4 : Int32).toInt = 4 := by decide
  unfold f_X7_raceToWatch
  refine wp_bd (s_X7_suspects   o_me o_me_court o_me_court_isles o_me_court_isles_now o_me_court_machine o_pool  hI_me hI_me_court hI_me_court_isles hI_me_court_isles_now hI_me_court_machine hI_pool  ) (fun z1 hz1 => ?_)
  obtain ⟨hz1_0, hz1_1, hz1_2⟩ := hz1
  have hkpz1_me_court_machine : Kp [] [] [] o_me_court_machine z1.2 := Kp.rf.trans (hz1_2.mono (by decide) (by decide) (by decide))
  refine wp_if (fun c2 => ?_) (fun c2 => ?_)
  · have c2 := cv_eq (a := z1.1.toInt) (b := 0) rfl (by decide) c2
    refine wp_some ?_
    exact (show ((-1) ≤ (-1 : Int32).toInt ∧ (-1 : Int32).toInt ≤ 3) ∧ IvX7 o_me ∧ Kp [] [2, 3] [] o_me o_me ∧ IvX3 z1.2 ∧ Kp [] [] [] o_me_court_machine z1.2 from ⟨⟨by decide, by decide⟩, hI_me, Kp.rf, hz1_1, hkpz1_me_court_machine⟩)
  · have c2z := c2
    have c2 := cv_ne (a := z1.1.toInt) (b := 0) rfl (by decide) c2
    refine wp_bd (s_X7_alikeMost   o_me o_me_court o_me_court_isles o_me_court_isles_now z1.2 o_pool z1.1 (0 : Int32)  hI_me hI_me_court hI_me_court_isles hI_me_court_isles_now hz1_1 hI_pool  ⟨by decide, by decide⟩) (fun z3 hz3 => ?_)
    obtain ⟨hz3_0, hz3_1, hz3_2, hz3_3, hz3_4⟩ := hz3
    have hkpz3_me : Kp [] [2, 3] [] o_me z3.2.1 := Kp.rf.trans (hz3_2.mono (by decide) (by decide) (by decide))
    have hkpz3_me_court_machine : Kp [] [] [] o_me_court_machine z3.2.2 := hkpz1_me_court_machine.trans (hz3_4.mono (by decide) (by decide) (by decide))
    refine wp_lt (fun o4 eo4 => ?_)
    have hIo4 : IvX7 o4 := by rw [eo4]; exact hz3_1
    have ko4_v : (gI o4 9).toInt = z3.1.toInt := by rw [eo4]; rfl
    have hkpo4 : Kp [] [2, 3] [] o_me o4 := hkpz3_me.trans (by rw [eo4]; exact Kp.sI (by decide))
    have lp1 : ∀ (N1 : Nat) (v1_1 : Int32) (v2_1 : Int32) (v3_1 : Int32) (o_me_1 : Ob) (o_me_court_machine_1 : Ob), IvX7 o_me_1 → Kp [] [2, 3] [] o_me o_me_1 → IvX3 o_me_court_machine_1 → Kp [] [] [] o_me_court_machine o_me_court_machine_1 → (1 ≤ v1_1.toInt ∧ v1_1.toInt ≤ 127) → (0 ≤ v2_1.toInt ∧ v2_1.toInt ≤ 3) → (1 ≤ v3_1.toInt ∧ v3_1.toInt ≤ 4) → (v2_1.toInt ≤ v3_1.toInt + (-1)) → (4 - v3_1.toInt).toNat < N1 → wp (lp_X7_raceToWatch_25 o_me_court o_me_court_isles o_me_court_isles_now o_pool  N1 (v1_1, v2_1, v3_1, o_me_1, o_me_court_machine_1)) (fun (y : Int32 × Ob × Ob) => ((-1) ≤ y.1.toInt ∧ y.1.toInt ≤ 3) ∧ IvX7 y.2.1 ∧ Kp [] [2, 3] [] o_me y.2.1 ∧ IvX3 y.2.2 ∧ Kp [] [] [] o_me_court_machine y.2.2) := by
      intro N1
      induction N1 with
      | zero =>
        intro v1_1 v2_1 v3_1 o_me_1 o_me_court_machine_1 hI_me_1 hkp_me_1 hI_me_court_machine_1 hkp_me_court_machine_1 hh5 hh6 hh7 hh8 hN1
        exact absurd hN1 (Nat.not_lt_zero _)
      | succ N1 ihx =>
        have ih1 := ihx
        intro v1_1 v2_1 v3_1 o_me_1 o_me_court_machine_1 hI_me_1 hkp_me_1 hI_me_court_machine_1 hkp_me_court_machine_1 hh5 hh6 hh7 hh8 hN1
        show wp (lb_X7_raceToWatch_25 o_me_court o_me_court_isles o_me_court_isles_now o_pool  (lp_X7_raceToWatch_25 o_me_court o_me_court_isles o_me_court_isles_now o_pool  N1) v1_1 v2_1 v3_1 o_me_1 o_me_court_machine_1) (fun (y : Int32 × Ob × Ob) => ((-1) ≤ y.1.toInt ∧ y.1.toInt ≤ 3) ∧ IvX7 y.2.1 ∧ Kp [] [2, 3] [] o_me y.2.1 ∧ IvX3 y.2.2 ∧ Kp [] [] [] o_me_court_machine y.2.2)
        unfold lb_X7_raceToWatch_25
        refine wp_if (fun c9 => ?_) (fun c9 => ?_)
        · have c9 := cv_ge (a := v3_1.toInt) (b := 4) rfl (by decide) c9
          refine wp_some ?_
          exact (show ((-1) ≤ v2_1.toInt ∧ v2_1.toInt ≤ 3) ∧ IvX7 o_me_1 ∧ Kp [] [2, 3] [] o_me o_me_1 ∧ IvX3 o_me_court_machine_1 ∧ Kp [] [] [] o_me_court_machine o_me_court_machine_1 from ⟨⟨by omega, by omega⟩, hI_me_1, hkp_me_1, hI_me_court_machine_1, hkp_me_court_machine_1⟩)
        · have c9 := cv_nge (a := v3_1.toInt) (b := 4) rfl (by decide) c9
          refine wp_bd (s_X7_alikeMost   o_me_1 o_me_court o_me_court_isles o_me_court_isles_now o_me_court_machine_1 o_pool v1_1 v3_1  hI_me_1 hI_me_court hI_me_court_isles hI_me_court_isles_now hI_me_court_machine_1 hI_pool  ⟨by omega, by omega⟩) (fun z10 hz10 => ?_)
          obtain ⟨hz10_0, hz10_1, hz10_2, hz10_3, hz10_4⟩ := hz10
          have hkpz10_me : Kp [] [2, 3] [] o_me z10.2.1 := hkp_me_1.trans (hz10_2.mono (by decide) (by decide) (by decide))
          have hkpz10_me_court_machine : Kp [] [] [] o_me_court_machine z10.2.2 := hkp_me_court_machine_1.trans (hz10_4.mono (by decide) (by decide) (by decide))
          have rg12 := i32_rg z10.1
          have rg13 := i32_rg (gI z10.2.1 9)
          refine wp_if (fun c11 => ?_) (fun c11 => ?_)
          · have c11 := cv_ge (a := z10.1.toInt) (b := (gI z10.2.1 9).toInt) rfl rfl c11
            unfold bk_X7_raceToWatch_55
            refine wp_lt (fun x14 ex14 => ?_)
            have tx14 : x14.toInt = v3_1.toInt + 1 := by rw [ex14]; exact i32_add rfl (by decide) (by omega) (by omega)
            exact ih1 v1_1 v2_1 x14 z10.2.1 z10.2.2 hz10_1 hkpz10_me hz10_3 hkpz10_me_court_machine ⟨by omega, by omega⟩ ⟨by omega, by omega⟩ ⟨by omega, by omega⟩ (by omega) (by omega)
          · have c11 := cv_nge (a := z10.1.toInt) (b := (gI z10.2.1 9).toInt) rfl rfl c11
            refine wp_lt (fun o15 eo15 => ?_)
            have hIo15 : IvX7 o15 := by rw [eo15]; exact hz10_1
            have ko15_v : (gI o15 9).toInt = z10.1.toInt := by rw [eo15]; rfl
            have hkpo15 : Kp [] [2, 3] [] o_me o15 := hkpz10_me.trans (by rw [eo15]; exact Kp.sI (by decide))
            unfold bk_X7_raceToWatch_55
            refine wp_lt (fun x16 ex16 => ?_)
            have tx16 : x16.toInt = v3_1.toInt + 1 := by rw [ex16]; exact i32_add rfl (by decide) (by omega) (by omega)
            exact ih1 v1_1 v3_1 x16 o15 z10.2.2 hIo15 hkpo15 hz10_3 hkpz10_me_court_machine ⟨by omega, by omega⟩ ⟨by omega, by omega⟩ ⟨by omega, by omega⟩ (by omega) (by omega)
    exact lp1 zfu z1.1 (0 : Int32) (1 : Int32) o4 z3.2.2 hIo4 hkpo4 hz3_3 hkpz3_me_court_machine ⟨by omega, by omega⟩ ⟨by decide, by decide⟩ ⟨by decide, by decide⟩ (by omega) (by show _ < 100000; omega)

set_option maxHeartbeats 4000000 in
set_option maxRecDepth 100000 in
theorem s_X8_look {rI : Nat → Option Nat} (o_me : Ob) (o_me_machine : Ob) (o_me_isles : Ob) (o_me_isles_now : Ob) (o_me_court : Ob) (o_me_study : Ob) (o_pool : List CR) (p0 : Int32) (hI_me : IvX8 rI o_me) (hI_me_machine : IvX3 o_me_machine) (hI_me_isles : IvX2 o_pool o_me_isles) (hI_me_isles_now : IvX4 o_me_isles_now) (hI_me_court : IvX1 o_me_court) (hI_me_study : IvX7 o_me_study) (hI_pool : PLok o_pool)  : wp (f_X8_look   o_me o_me_machine o_me_isles o_me_isles_now o_me_court o_me_study o_pool p0) (fun (y : Int32 × Ob × Ob) => IvX3 y.2.1 ∧ Kp [] [] [] o_me_machine y.2.1 ∧ IvX7 y.2.2 ∧ Kp [] [2, 3] [] o_me_study y.2.2) := by
  have li0 : (-1 : Int32).toInt = (-1) := by decide
  have li1 : (1 : Int32).toInt = 1 := by decide
  unfold f_X8_look
  refine wp_if (fun c1 => ?_) (fun c1 => ?_)
  · have c1 := cv_lt (a := p0.toInt) (b := 0) rfl (by decide) c1
    refine wp_some ?_
    exact (show IvX3 o_me_machine ∧ Kp [] [] [] o_me_machine o_me_machine ∧ IvX7 o_me_study ∧ Kp [] [2, 3] [] o_me_study o_me_study from ⟨hI_me_machine, Kp.rf, hI_me_study, Kp.rf⟩)
  · have c1 := cv_nlt (a := p0.toInt) (b := 0) rfl (by decide) c1
    refine wp_if (fun c2 => ?_) (fun c2 => ?_)
    · have c2 := cv_le (a := p0.toInt) (b := 1) rfl (by decide) c2
      refine wp_bd (s_X7_raceToWatch   o_me_study o_me_court o_me_isles o_me_isles_now o_me_machine o_pool  hI_me_study hI_me_court hI_me_isles hI_me_isles_now hI_me_machine hI_pool  ) (fun z3 hz3 => ?_)
      obtain ⟨hz3_0, hz3_1, hz3_2, hz3_3, hz3_4⟩ := hz3
      have hkpz3_me_study : Kp [] [2, 3] [] o_me_study z3.2.1 := Kp.rf.trans (hz3_2.mono (by decide) (by decide) (by decide))
      have hkpz3_me_machine : Kp [] [] [] o_me_machine z3.2.2 := Kp.rf.trans (hz3_4.mono (by decide) (by decide) (by decide))
      refine wp_if (fun c4 => ?_) (fun c4 => ?_)
      · have c4 := cv_eq (a := p0.toInt) (b := 0) rfl (by decide) c4
        unfold bk_X8_look_28
        refine wp_some ?_
        exact (show IvX3 z3.2.2 ∧ Kp [] [] [] o_me_machine z3.2.2 ∧ IvX7 z3.2.1 ∧ Kp [] [2, 3] [] o_me_study z3.2.1 from ⟨hz3_3, hkpz3_me_machine, hz3_1, hkpz3_me_study⟩)
      · have c4z := c4
        have c4 := cv_ne (a := p0.toInt) (b := 0) rfl (by decide) c4
        refine wp_if (fun c5 => ?_) (fun c5 => ?_)
        · have c5 := cv_eq (a := z3.1.toInt) (b := (-1)) rfl (by decide) c5
          unfold bk_X8_look_28
          refine wp_some ?_
          exact (show IvX3 z3.2.2 ∧ Kp [] [] [] o_me_machine z3.2.2 ∧ IvX7 z3.2.1 ∧ Kp [] [2, 3] [] o_me_study z3.2.1 from ⟨hz3_3, hkpz3_me_machine, hz3_1, hkpz3_me_study⟩)
        · have c5 := cv_ne (a := z3.1.toInt) (b := (-1)) rfl (by decide) c5
          refine wp_some ?_
          exact (show IvX3 z3.2.2 ∧ Kp [] [] [] o_me_machine z3.2.2 ∧ IvX7 z3.2.1 ∧ Kp [] [2, 3] [] o_me_study z3.2.1 from ⟨hz3_3, hkpz3_me_machine, hz3_1, hkpz3_me_study⟩)
    · have c2 := cv_nle (a := p0.toInt) (b := 1) rfl (by decide) c2
      refine wp_some ?_
      exact (show IvX3 o_me_machine ∧ Kp [] [] [] o_me_machine o_me_machine ∧ IvX7 o_me_study ∧ Kp [] [2, 3] [] o_me_study o_me_study from ⟨hI_me_machine, Kp.rf, hI_me_study, Kp.rf⟩)

set_option maxHeartbeats 4000000 in
set_option maxRecDepth 100000 in
theorem s_X7_neverSecond (o_me : Ob) (o_me_court : Ob) (o_me_court_isles : Ob) (o_me_court_isles_now : Ob) (o_me_court_machine : Ob) (o_pool : List CR) (hI_me : IvX7 o_me) (hI_me_court : IvX1 o_me_court) (hI_me_court_isles : IvX2 o_pool o_me_court_isles) (hI_me_court_isles_now : IvX4 o_me_court_isles_now) (hI_me_court_machine : IvX3 o_me_court_machine) (hI_pool : PLok o_pool)  : wp (f_X7_neverSecond   o_me o_me_court o_me_court_isles o_me_court_isles_now o_me_court_machine o_pool) (fun (y : Int32 × Ob × Ob) => IvX7 y.2.1 ∧ Kp [] [2, 3] [] o_me y.2.1 ∧ IvX3 y.2.2 ∧ Kp [] [] [] o_me_court_machine y.2.2) := by
  have li0 : (-1 : Int32).toInt = (-1) := by decide
  have li1 : (0 : Int32).toInt = 0 := by decide
  have li2 : (1 : Int32).toInt = 1 := by decide
  have li3 : (4 : Int32).toInt = 4 := by decide
  have li4 : (7 : Int32).toInt = 7 := by decide
  unfold f_X7_neverSecond
  have t1 := igX2_7 hI_me_court_isles
  have t2 : 1 ≤ ((1 : Int32) <<< ((gI o_me_court_isles 7) &&& 31)).toInt ∧ ((1 : Int32) <<< ((gI o_me_court_isles 7) &&& 31)).toInt ≤ 128 := i32_shl7 (p := gI o_me_court_isles 7) (by omega) (by omega)
  have t3 : (((1 : Int32) <<< ((gI o_me_court_isles 7) &&& 31)) - (1 : Int32)).toInt = ((1 : Int32) <<< ((gI o_me_court_isles 7) &&& 31)).toInt - 1 := i32_sub rfl (by decide) (by omega) (by omega)
  refine wp_lt (fun x4 ex4 => ?_)
  have tx4 : x4.toInt = (((1 : Int32) <<< ((gI o_me_court_isles 7) &&& 31)) - (1 : Int32)).toInt := by rw [ex4]
  have lp1 : ∀ (N1 : Nat) (v1_1 : Int32) (v2_1 : Int32) (o_me_1 : Ob) (o_me_court_machine_1 : Ob), IvX7 o_me_1 → Kp [] [2, 3] [] o_me o_me_1 → IvX3 o_me_court_machine_1 → Kp [] [] [] o_me_court_machine o_me_court_machine_1 → (0 ≤ v2_1.toInt ∧ v2_1.toInt ≤ 4) → (4 - v2_1.toInt).toNat < N1 → wp (lp_X7_neverSecond_14 o_me_court o_me_court_isles o_me_court_isles_now o_pool  N1 (v1_1, v2_1, o_me_1, o_me_court_machine_1)) (fun (y : Int32 × Ob × Ob) => IvX7 y.2.1 ∧ Kp [] [2, 3] [] o_me y.2.1 ∧ IvX3 y.2.2 ∧ Kp [] [] [] o_me_court_machine y.2.2) := by
    intro N1
    induction N1 with
    | zero =>
      intro v1_1 v2_1 o_me_1 o_me_court_machine_1 hI_me_1 hkp_me_1 hI_me_court_machine_1 hkp_me_court_machine_1 hh5 hN1
      exact absurd hN1 (Nat.not_lt_zero _)
    | succ N1 ihx =>
      have ih1 := ihx
      intro v1_1 v2_1 o_me_1 o_me_court_machine_1 hI_me_1 hkp_me_1 hI_me_court_machine_1 hkp_me_court_machine_1 hh5 hN1
      show wp (lb_X7_neverSecond_14 o_me_court o_me_court_isles o_me_court_isles_now o_pool  (lp_X7_neverSecond_14 o_me_court o_me_court_isles o_me_court_isles_now o_pool  N1) v1_1 v2_1 o_me_1 o_me_court_machine_1) (fun (y : Int32 × Ob × Ob) => IvX7 y.2.1 ∧ Kp [] [2, 3] [] o_me y.2.1 ∧ IvX3 y.2.2 ∧ Kp [] [] [] o_me_court_machine y.2.2)
      unfold lb_X7_neverSecond_14
      refine wp_if (fun c6 => ?_) (fun c6 => ?_)
      · have c6 := cv_ge (a := v2_1.toInt) (b := 4) rfl (by decide) c6
        refine wp_some ?_
        exact (show IvX7 o_me_1 ∧ Kp [] [2, 3] [] o_me o_me_1 ∧ IvX3 o_me_court_machine_1 ∧ Kp [] [] [] o_me_court_machine o_me_court_machine_1 from ⟨hI_me_1, hkp_me_1, hI_me_court_machine_1, hkp_me_court_machine_1⟩)
      · have c6 := cv_nge (a := v2_1.toInt) (b := 4) rfl (by decide) c6
        refine wp_bd (s_X7_setScores   o_me_1 o_me_court o_me_court_isles o_me_court_isles_now o_me_court_machine_1 o_pool v2_1  hI_me_1 hI_me_court hI_me_court_isles hI_me_court_isles_now hI_me_court_machine_1 hI_pool  ⟨by omega, by omega⟩) (fun z7 hz7 => ?_)
        obtain ⟨hz7_0, hz7_1, hz7_2, hz7_3⟩ := hz7
        have hkpz7_me : Kp [] [2, 3] [] o_me z7.1 := hkp_me_1.trans (hz7_1.mono (by decide) (by decide) (by decide))
        have hkpz7_me_court_machine : Kp [] [] [] o_me_court_machine z7.2 := hkp_me_court_machine_1.trans (hz7_3.mono (by decide) (by decide) (by decide))
        have lp2 : ∀ (N2 : Nat) (v1_2 : Int32) (v2_2 : Int32) (v3_2 : Int32) (o_me_2 : Ob) (o_me_court_machine_2 : Ob), IvX7 o_me_2 → Kp [] [2, 3] [] o_me o_me_2 → IvX3 o_me_court_machine_2 → Kp [] [] [] o_me_court_machine o_me_court_machine_2 → (0 ≤ v2_2.toInt ∧ v2_2.toInt ≤ 3) → (0 ≤ v3_2.toInt ∧ v3_2.toInt ≤ 7) → (v2_2.toInt ≤ v2_1.toInt + 0) → (v2_1.toInt ≤ v2_2.toInt + 0) → (v3_2.toInt ≤ (gI o_me_court_isles 7).toInt + 0) → (7 - v3_2.toInt).toNat < N2 → wp (lp_X7_neverSecond_26 o_me_court o_me_court_isles o_me_court_isles_now o_pool (lp_X7_neverSecond_14 o_me_court o_me_court_isles o_me_court_isles_now o_pool  N1) N2 (v1_2, v2_2, v3_2, o_me_2, o_me_court_machine_2)) (fun (y : Int32 × Ob × Ob) => IvX7 y.2.1 ∧ Kp [] [2, 3] [] o_me y.2.1 ∧ IvX3 y.2.2 ∧ Kp [] [] [] o_me_court_machine y.2.2) := by
          intro N2
          induction N2 with
          | zero =>
            intro v1_2 v2_2 v3_2 o_me_2 o_me_court_machine_2 hI_me_2 hkp_me_2 hI_me_court_machine_2 hkp_me_court_machine_2 hh8 hh9 hh10 hh11 hh12 hN2
            exact absurd hN2 (Nat.not_lt_zero _)
          | succ N2 ihx =>
            have ih2 := ihx
            intro v1_2 v2_2 v3_2 o_me_2 o_me_court_machine_2 hI_me_2 hkp_me_2 hI_me_court_machine_2 hkp_me_court_machine_2 hh8 hh9 hh10 hh11 hh12 hN2
            show wp (lb_X7_neverSecond_26 o_me_court o_me_court_isles o_me_court_isles_now o_pool (lp_X7_neverSecond_14 o_me_court o_me_court_isles o_me_court_isles_now o_pool  N1) (lp_X7_neverSecond_26 o_me_court o_me_court_isles o_me_court_isles_now o_pool (lp_X7_neverSecond_14 o_me_court o_me_court_isles o_me_court_isles_now o_pool  N1) N2) v1_2 v2_2 v3_2 o_me_2 o_me_court_machine_2) (fun (y : Int32 × Ob × Ob) => IvX7 y.2.1 ∧ Kp [] [2, 3] [] o_me y.2.1 ∧ IvX3 y.2.2 ∧ Kp [] [] [] o_me_court_machine y.2.2)
            unfold lb_X7_neverSecond_26
            refine wp_if (fun c13 => ?_) (fun c13 => ?_)
            · have c13 := cv_ge (a := v3_2.toInt) (b := (gI o_me_court_isles 7).toInt) rfl rfl c13
              refine wp_lt (fun x14 ex14 => ?_)
              have tx14 : x14.toInt = v2_2.toInt + 1 := by rw [ex14]; exact i32_add rfl (by decide) (by omega) (by omega)
              exact ih1 v1_2 x14 o_me_2 o_me_court_machine_2 hI_me_2 hkp_me_2 hI_me_court_machine_2 hkp_me_court_machine_2 ⟨by omega, by omega⟩ (by omega)
            · have c13 := cv_nge (a := v3_2.toInt) (b := (gI o_me_court_isles 7).toInt) rfl rfl c13
              have t15 : (v2_2 * (7 : Int32)).toInt = v2_2.toInt * 7 := i32_mul rfl (by decide) (by omega) (by omega)
              have t16 : ((v2_2 * (7 : Int32)) + v3_2).toInt = (v2_2 * (7 : Int32)).toInt + v3_2.toInt := i32_add rfl rfl (by omega) (by omega)
              refine wp_gd (zin_of (m := 28) rfl (by omega) (by omega)) ?_
              refine wp_if (fun c17 => ?_) (fun c17 => ?_)
              · have c17 := cv_eq (a := (gA o_me_2 5 ((v2_2 * (7 : Int32)) + v3_2).toNatClampNeg).toInt) (b := (-1)) rfl (by decide) c17
                unfold bk_X7_neverSecond_69
                refine wp_lt (fun x18 ex18 => ?_)
                have tx18 : x18.toInt = v3_2.toInt + 1 := by rw [ex18]; exact i32_add rfl (by decide) (by omega) (by omega)
                exact ih2 v1_2 v2_2 x18 o_me_2 o_me_court_machine_2 hI_me_2 hkp_me_2 hI_me_court_machine_2 hkp_me_court_machine_2 ⟨by omega, by omega⟩ ⟨by omega, by omega⟩ (by omega) (by omega) (by omega) (by omega)
              · have c17 := cv_ne (a := (gA o_me_2 5 ((v2_2 * (7 : Int32)) + v3_2).toNatClampNeg).toInt) (b := (-1)) rfl (by decide) c17
                refine wp_bd (s_X7_aheadOf   o_me_2 o_me_court_isles v3_2 v2_2  hI_me_2 hI_me_court_isles  ⟨by omega, by omega⟩ ⟨by omega, by omega⟩) (fun z19 hz19 => ?_)
                have hz19_0 := hz19
                refine wp_if (fun c20 => ?_) (fun c20 => ?_)
                · have c20 := cv_eq (a := z19.toInt) (b := 0) rfl (by decide) c20
                  unfold bk_X7_neverSecond_69
                  refine wp_lt (fun x21 ex21 => ?_)
                  have tx21 : x21.toInt = v3_2.toInt + 1 := by rw [ex21]; exact i32_add rfl (by decide) (by omega) (by omega)
                  exact ih2 v1_2 v2_2 x21 o_me_2 o_me_court_machine_2 hI_me_2 hkp_me_2 hI_me_court_machine_2 hkp_me_court_machine_2 ⟨by omega, by omega⟩ ⟨by omega, by omega⟩ (by omega) (by omega) (by omega) (by omega)
                · have c20z := c20
                  have c20 := cv_ne (a := z19.toInt) (b := 0) rfl (by decide) c20
                  have t22 : 1 ≤ ((1 : Int32) <<< (v3_2 &&& 31)).toInt ∧ ((1 : Int32) <<< (v3_2 &&& 31)).toInt ≤ 64 := i32_shl6 (p := v3_2) (by omega) (by omega)
                  refine wp_lt (fun x23 ex23 => ?_)
                  have tx23 : x23.toInt = (v1_2 &&& (((1 : Int32) <<< (v3_2 &&& 31)) ^^^ (-1 : Int32))).toInt := by rw [ex23]
                  unfold bk_X7_neverSecond_69
                  refine wp_lt (fun x24 ex24 => ?_)
                  have tx24 : x24.toInt = v3_2.toInt + 1 := by rw [ex24]; exact i32_add rfl (by decide) (by omega) (by omega)
                  exact ih2 x23 v2_2 x24 o_me_2 o_me_court_machine_2 hI_me_2 hkp_me_2 hI_me_court_machine_2 hkp_me_court_machine_2 ⟨by omega, by omega⟩ ⟨by omega, by omega⟩ (by omega) (by omega) (by omega) (by omega)
        exact lp2 zfu v1_1 v2_1 (0 : Int32) z7.1 z7.2 hz7_0 hkpz7_me hz7_2 hkpz7_me_court_machine ⟨by omega, by omega⟩ ⟨by decide, by decide⟩ (by omega) (by omega) (by omega) (by show _ < 100000; omega)
  exact lp1 zfu x4 (0 : Int32) o_me o_me_court_machine hI_me Kp.rf hI_me_court_machine Kp.rf ⟨by decide, by decide⟩ (by show _ < 100000; omega)

set_option maxHeartbeats 4000000 in
set_option maxRecDepth 100000 in
theorem s_X8_never {rI : Nat → Option Nat} (o_me : Ob) (o_me_machine : Ob) (o_me_isles : Ob) (o_me_isles_now : Ob) (o_me_court : Ob) (o_me_study : Ob) (o_pool : List CR) (hI_me : IvX8 rI o_me) (hI_me_machine : IvX3 o_me_machine) (hI_me_isles : IvX2 o_pool o_me_isles) (hI_me_isles_now : IvX4 o_me_isles_now) (hI_me_court : IvX1 o_me_court) (hI_me_study : IvX7 o_me_study) (hI_pool : PLok o_pool)  : wp (f_X8_never   o_me o_me_machine o_me_isles o_me_isles_now o_me_court o_me_study o_pool) (fun (y : Int32 × Ob × Ob) => IvX3 y.2.1 ∧ Kp [] [] [] o_me_machine y.2.1 ∧ IvX7 y.2.2 ∧ Kp [] [2, 3] [] o_me_study y.2.2) := by
  unfold f_X8_never
  refine wp_bd (s_X7_neverSecond   o_me_study o_me_court o_me_isles o_me_isles_now o_me_machine o_pool  hI_me_study hI_me_court hI_me_isles hI_me_isles_now hI_me_machine hI_pool  ) (fun z1 hz1 => ?_)
  obtain ⟨hz1_0, hz1_1, hz1_2, hz1_3⟩ := hz1
  have hkpz1_me_study : Kp [] [2, 3] [] o_me_study z1.2.1 := Kp.rf.trans (hz1_1.mono (by decide) (by decide) (by decide))
  have hkpz1_me_machine : Kp [] [] [] o_me_machine z1.2.2 := Kp.rf.trans (hz1_3.mono (by decide) (by decide) (by decide))
  refine wp_some ?_
  exact (show IvX3 z1.2.2 ∧ Kp [] [] [] o_me_machine z1.2.2 ∧ IvX7 z1.2.1 ∧ Kp [] [2, 3] [] o_me_study z1.2.1 from ⟨hz1_2, hkpz1_me_machine, hz1_0, hkpz1_me_study⟩)

set_option maxHeartbeats 4000000 in
set_option maxRecDepth 100000 in
theorem s_X8_of {rI : Nat → Option Nat} (o_me : Ob) (o_me_machine : Ob) (o_me_isles : Ob) (o_me_isles_now : Ob) (o_me_court : Ob) (o_pool : List CR) (p0 : Int32) (p1 : Int32) (hI_me : IvX8 rI o_me) (hI_me_machine : IvX3 o_me_machine) (hI_me_isles : IvX2 o_pool o_me_isles) (hI_me_isles_now : IvX4 o_me_isles_now) (hI_me_court : IvX1 o_me_court) (hI_pool : PLok o_pool)  : wp (f_X8_of   o_me o_me_machine o_me_isles o_me_isles_now o_me_court o_pool p0 p1) (fun (y : Int32 × Ob) => IvX3 y.2 ∧ Kp [] [] [] o_me_machine y.2) := by
  have li0 : (-1 : Int32).toInt = (-1) := by decide
  have li1 : (0 : Int32).toInt = 0 := by decide
  have li2 : (1 : Int32).toInt = 1 := by decide
  have li3 : (12 : Int32).toInt = 12 := by decide
  have li4 : (3 : Int32).toInt = 3 := by decide
  have li5 : (4 : Int32).toInt = 4 := by decide
  have li6 : (8 : Int32).toInt = 8 := by decide
  unfold f_X8_of
  refine wp_bd (s_X2_isPerson   o_me_isles p0  hI_me_isles  ) (fun z1 hz1 => ?_)
  obtain ⟨hz1_0, hz1_1⟩ := hz1
  refine wp_if (fun c2 => ?_) (fun c2 => ?_)
  · have c2 := cv_eq (a := z1.toInt) (b := 0) rfl (by decide) c2
    refine wp_some ?_
    exact (show IvX3 o_me_machine ∧ Kp [] [] [] o_me_machine o_me_machine from ⟨hI_me_machine, Kp.rf⟩)
  · have c2z := c2
    have c2i := hz1_1 c2
    have c2 := cv_ne (a := z1.toInt) (b := 0) rfl (by decide) c2
    refine wp_if (fun c3 => ?_) (fun c3 => ?_)
    · have c3 := cv_eq (a := p1.toInt) (b := 3) rfl (by decide) c3
      refine wp_gd (zin_of (m := 7) rfl (by omega) (by omega)) ?_
      refine wp_some ?_
      exact (show IvX3 o_me_machine ∧ Kp [] [] [] o_me_machine o_me_machine from ⟨hI_me_machine, Kp.rf⟩)
    · have c3 := cv_ne (a := p1.toInt) (b := 3) rfl (by decide) c3
      have t4 := i32_subw (x := p1) (y := (4 : Int32)) (b := 4) (by decide) (by decide)
      have rg5 := i32_rg p1
      refine wp_bd (s_X8_isRace   (p1 - (4 : Int32))    ) (fun z6 hz6 => ?_)
      obtain ⟨hz6_0, hz6_1⟩ := hz6
      refine wp_if (fun c7 => ?_) (fun c7 => ?_)
      · have c7 := cv_eq (a := z6.toInt) (b := 0) rfl (by decide) c7
        have t8 := i32_subw (x := p1) (y := (8 : Int32)) (b := 8) (by decide) (by decide)
        refine wp_bd (s_X8_isRace   (p1 - (8 : Int32))    ) (fun z9 hz9 => ?_)
        obtain ⟨hz9_0, hz9_1⟩ := hz9
        refine wp_if (fun c10 => ?_) (fun c10 => ?_)
        · have c10 := cv_eq (a := z9.toInt) (b := 0) rfl (by decide) c10
          have t11 := i32_subw (x := p1) (y := (12 : Int32)) (b := 12) (by decide) (by decide)
          refine wp_bd (s_X8_isRace   (p1 - (12 : Int32))    ) (fun z12 hz12 => ?_)
          obtain ⟨hz12_0, hz12_1⟩ := hz12
          refine wp_if (fun c13 => ?_) (fun c13 => ?_)
          · have c13 := cv_eq (a := z12.toInt) (b := 0) rfl (by decide) c13
            refine wp_bd (s_X4_told   o_me_isles_now p0 p1  hI_me_isles_now  ⟨by omega, by omega⟩) (fun z14 hz14 => ?_)
            refine wp_some ?_
            exact (show IvX3 o_me_machine ∧ Kp [] [] [] o_me_machine o_me_machine from ⟨hI_me_machine, Kp.rf⟩)
          · have c13z := c13
            have c13i := hz12_1 c13
            have c13 := cv_ne (a := z12.toInt) (b := 0) rfl (by decide) c13
            refine wp_bd (s_X2_lawInForce   o_me_isles  hI_me_isles  ) (fun z15 hz15 => ?_)
            have hz15_0 := hz15
            refine wp_bd (s_X1_isBarred_Q   o_me_court o_me_isles o_me_isles_now o_me_machine o_pool z15 p0 (p1 - (12 : Int32))  hI_me_court hI_me_isles hI_me_isles_now hI_me_machine hI_pool hz15_0 ⟨by omega, by omega⟩ ⟨by omega, by omega⟩) (fun z16 hz16 => ?_)
            obtain ⟨hz16_0, hz16_1, hz16_2⟩ := hz16
            have hkpz16_me_machine : Kp [] [] [] o_me_machine z16.2 := Kp.rf.trans (hz16_2.mono (by decide) (by decide) (by decide))
            refine wp_if (fun c17 => ?_) (fun c17 => ?_)
            · have c17 := cv_eq (a := z16.1.toInt) (b := 0) rfl (by decide) c17
              refine wp_some ?_
              exact (show IvX3 z16.2 ∧ Kp [] [] [] o_me_machine z16.2 from ⟨hz16_1, hkpz16_me_machine⟩)
            · have c17z := c17
              have c17 := cv_ne (a := z16.1.toInt) (b := 0) rfl (by decide) c17
              refine wp_some ?_
              exact (show IvX3 z16.2 ∧ Kp [] [] [] o_me_machine z16.2 from ⟨hz16_1, hkpz16_me_machine⟩)
        · have c10z := c10
          have c10i := hz9_1 c10
          have c10 := cv_ne (a := z9.toInt) (b := 0) rfl (by decide) c10
          refine wp_bd (s_X2_lawInForce   o_me_isles  hI_me_isles  ) (fun z18 hz18 => ?_)
          have hz18_0 := hz18
          refine wp_bd (s_X1_runsBy_Q   o_me_court o_me_isles o_me_isles_now o_me_machine o_pool z18 p0 (p1 - (8 : Int32))  hI_me_court hI_me_isles hI_me_isles_now hI_me_machine hI_pool hz18_0 ⟨by omega, by omega⟩ ⟨by omega, by omega⟩) (fun z19 hz19 => ?_)
          obtain ⟨hz19_0, hz19_1⟩ := hz19
          have hkpz19_me_machine : Kp [] [] [] o_me_machine z19.2 := Kp.rf.trans (hz19_1.mono (by decide) (by decide) (by decide))
          refine wp_some ?_
          exact (show IvX3 z19.2 ∧ Kp [] [] [] o_me_machine z19.2 from ⟨hz19_0, hkpz19_me_machine⟩)
      · have c7z := c7
        have c7i := hz6_1 c7
        have c7 := cv_ne (a := z6.toInt) (b := 0) rfl (by decide) c7
        have t20 : (p0 * (4 : Int32)).toInt = p0.toInt * 4 := i32_mul rfl (by decide) (by omega) (by omega)
        have t21 : ((p0 * (4 : Int32)) + p1).toInt = (p0 * (4 : Int32)).toInt + p1.toInt := i32_add rfl rfl (by omega) (by omega)
        have t22 : (((p0 * (4 : Int32)) + p1) - (4 : Int32)).toInt = ((p0 * (4 : Int32)) + p1).toInt - 4 := i32_sub rfl (by decide) (by omega) (by omega)
        refine wp_gd (zin_of (m := 28) rfl (by omega) (by omega)) ?_
        refine wp_some ?_
        exact (show IvX3 o_me_machine ∧ Kp [] [] [] o_me_machine o_me_machine from ⟨hI_me_machine, Kp.rf⟩)

set_option maxHeartbeats 4000000 in
set_option maxRecDepth 100000 in
theorem s_X0_clear (nc_me : Nat) (ns_me : Nat) (o_me : Ob) (hI_me : IvX0 nc_me ns_me o_me)  : wp (f_X0_clear  nc_me ns_me o_me) (fun (y : Ob) => IvX0 nc_me ns_me y ∧ Kp [] [1] [] o_me y) := by
  have li0 : (0 : Int32).toInt = 0 := by decide
  unfold f_X0_clear
  have t9nc := igX0_7 hI_me
  have t9ns := igX0_8 hI_me
  refine wp_lt (fun o1 eo1 => ?_)
  have hIo1 : IvX0 nc_me ns_me o1 := by rw [eo1]; exact ipX0_7 hI_me ⟨by decide, by first | decide | omega⟩
  have ko1_k2 : (gI o1 8).toInt = (gI o_me 8).toInt := by rw [eo1]; rfl
  have ko1_v : (gI o1 7).toInt = 0 := by rw [eo1]; exact (show ((0 : Int32)).toInt = _ from by decide)
  have hkpo1 : Kp [] [1] [] o_me o1 := Kp.rf.trans (by rw [eo1]; exact Kp.sI (by decide))
  refine wp_lt (fun o3 eo3 => ?_)
  have hIo3 : IvX0 nc_me ns_me o3 := by rw [eo3]; exact ipX0_8 hIo1 ⟨by decide, by first | decide | omega⟩
  have ko3_k4 : (gI o3 7).toInt = (gI o1 7).toInt := by rw [eo3]; rfl
  have ko3_v : (gI o3 8).toInt = 0 := by rw [eo3]; exact (show ((0 : Int32)).toInt = _ from by decide)
  have hkpo3 : Kp [] [1] [] o_me o3 := hkpo1.trans (by rw [eo3]; exact Kp.sI (by decide))
  refine wp_some ?_
  exact (show IvX0 nc_me ns_me o3 ∧ Kp [] [1] [] o_me o3 from ⟨hIo3, hkpo3⟩)

set_option maxHeartbeats 4000000 in
set_option maxRecDepth 100000 in
theorem s_X6_byteAt (o_me : Ob) (p0 : Int32) (hI_me : IvX6 o_me)  : wp (f_X6_byteAt   o_me p0) (fun (y : Int32) => True) := by
  have li0 : (-1 : Int32).toInt = (-1) := by decide
  have li1 : (400 : Int32).toInt = 400 := by decide
  unfold f_X6_byteAt
  refine wp_if (fun c1 => ?_) (fun c1 => ?_)
  · have c1 := cv_lt (a := p0.toInt) (b := 0) rfl (by decide) c1
    refine wp_some ?_
    exact trivial
  · have c1 := cv_nlt (a := p0.toInt) (b := 0) rfl (by decide) c1
    have t2 := igX6_2 hI_me
    have rg4 := i32_rg p0
    refine wp_if (fun c3 => ?_) (fun c3 => ?_)
    · have c3 := cv_ge (a := p0.toInt) (b := (gI o_me 2).toInt) rfl rfl c3
      refine wp_some ?_
      exact trivial
    · have c3 := cv_nge (a := p0.toInt) (b := (gI o_me 2).toInt) rfl rfl c3
      refine wp_if (fun c5 => ?_) (fun c5 => ?_)
      · have c5 := cv_ge (a := p0.toInt) (b := 400) rfl (by decide) c5
        exfalso; omega
      · have c5 := cv_nge (a := p0.toInt) (b := 400) rfl (by decide) c5
        refine wp_gd (zin_of (m := 400) rfl (by omega) (by omega)) ?_
        refine wp_some ?_
        exact trivial

set_option maxHeartbeats 4000000 in
set_option maxRecDepth 100000 in
theorem s_X6_isLetter (p0 : Int32)   : wp (f_X6_isLetter   p0) (fun (y : Int32) => (0 ≤ y.toInt ∧ y.toInt ≤ 1)) := by
  have li0 : (0 : Int32).toInt = 0 := by decide
  have li1 : (1 : Int32).toInt = 1 := by decide
  have li2 : (122 : Int32).toInt = 122 := by decide
  have li3 : (97 : Int32).toInt = 97 := by decide
  unfold f_X6_isLetter
  refine wp_if (fun c1 => ?_) (fun c1 => ?_)
  · have c1 := cv_lt (a := p0.toInt) (b := 97) rfl (by decide) c1
    refine wp_some ?_
    exact (show (0 ≤ (0 : Int32).toInt ∧ (0 : Int32).toInt ≤ 1) from ⟨by decide, by decide⟩)
  · have c1 := cv_nlt (a := p0.toInt) (b := 97) rfl (by decide) c1
    refine wp_if (fun c2 => ?_) (fun c2 => ?_)
    · have c2 := cv_gt (a := p0.toInt) (b := 122) rfl (by decide) c2
      refine wp_some ?_
      exact (show (0 ≤ (0 : Int32).toInt ∧ (0 : Int32).toInt ≤ 1) from ⟨by decide, by decide⟩)
    · have c2 := cv_ngt (a := p0.toInt) (b := 122) rfl (by decide) c2
      refine wp_some ?_
      exact (show (0 ≤ (1 : Int32).toInt ∧ (1 : Int32).toInt ≤ 1) from ⟨by decide, by decide⟩)

set_option maxHeartbeats 4000000 in
set_option maxRecDepth 100000 in
theorem s_X6_isDigit (p0 : Int32)   : wp (f_X6_isDigit   p0) (fun (y : Int32) => (0 ≤ y.toInt ∧ y.toInt ≤ 1)) := by
  have li0 : (0 : Int32).toInt = 0 := by decide
  have li1 : (1 : Int32).toInt = 1 := by decide
  have li2 : (48 : Int32).toInt = 48 := by decide
  have li3 : (57 : Int32).toInt = 57 := by decide
  unfold f_X6_isDigit
  refine wp_if (fun c1 => ?_) (fun c1 => ?_)
  · have c1 := cv_lt (a := p0.toInt) (b := 48) rfl (by decide) c1
    refine wp_some ?_
    exact (show (0 ≤ (0 : Int32).toInt ∧ (0 : Int32).toInt ≤ 1) from ⟨by decide, by decide⟩)
  · have c1 := cv_nlt (a := p0.toInt) (b := 48) rfl (by decide) c1
    refine wp_if (fun c2 => ?_) (fun c2 => ?_)
    · have c2 := cv_gt (a := p0.toInt) (b := 57) rfl (by decide) c2
      refine wp_some ?_
      exact (show (0 ≤ (0 : Int32).toInt ∧ (0 : Int32).toInt ≤ 1) from ⟨by decide, by decide⟩)
    · have c2 := cv_ngt (a := p0.toInt) (b := 57) rfl (by decide) c2
      refine wp_some ?_
      exact (show (0 ≤ (1 : Int32).toInt ∧ (1 : Int32).toInt ≤ 1) from ⟨by decide, by decide⟩)

set_option maxHeartbeats 4000000 in
set_option maxRecDepth 100000 in
theorem s_X6_step (o_me : Ob) (hI_me : IvX6 o_me) (r0 : (gI o_me 8).toInt ≤ (gI o_me 2).toInt + 0) : wp (f_X6_step   o_me) (fun (y : Ob) => IvX6 y ∧ Kp [2, 3, 4, 5] [0] [] o_me y ∧ ((gI y 8).toInt ≤ (gI y 2).toInt + 0)) := by
  have li0 : (0 : Int32).toInt = 0 := by decide
  have li1 : (1 : Int32).toInt = 1 := by decide
  have li2 : (10 : Int32).toInt = 10 := by decide
  have li3 : (1001 : Int32).toInt = 1001 := by decide
  have li4 : (2 : Int32).toInt = 2 := by decide
  have li5 : (3 : Int32).toInt = 3 := by decide
  have li6 : (32 : Int32).toInt = 32 := by decide
  have li7 : (48 : Int32).toInt = 48 := by decide
  unfold f_X6_step
  have t1 := igX6_8 hI_me
  refine wp_lt (fun x2 ex2 => ?_)
  have tx2 : x2.toInt = (gI o_me 8).toInt := by rw [ex2]
  have t3 := igX6_2 hI_me
  have lp1 : ∀ (N1 : Nat) (v1_1 : Int32) (o_me_1 : Ob), IvX6 o_me_1 → Kp [2, 3, 4, 5] [0] [] o_me o_me_1 → (0 ≤ v1_1.toInt ∧ v1_1.toInt ≤ 400) → (0 ≤ (gI o_me_1 2).toInt ∧ (gI o_me_1 2).toInt ≤ 400) → (0 ≤ (gI o_me_1 8).toInt ∧ (gI o_me_1 8).toInt ≤ 400) → (v1_1.toInt ≤ (gI o_me_1 2).toInt + 0) → ((gI o_me_1 8).toInt ≤ v1_1.toInt + 0) → ((gI o_me_1 8).toInt ≤ (gI o_me_1 2).toInt + 0) → (x2.toInt ≤ v1_1.toInt + 0) → (x2.toInt ≤ (gI o_me_1 2).toInt + 0) → ((gI o_me_1 8).toInt ≤ x2.toInt + 0) → (x2.toInt ≤ (gI o_me_1 8).toInt + 0) → (400 - v1_1.toInt).toNat < N1 → wp (lp_X6_step_5   N1 (v1_1, o_me_1)) (fun (y : Ob) => IvX6 y ∧ Kp [2, 3, 4, 5] [0] [] o_me y ∧ ((gI y 8).toInt ≤ (gI y 2).toInt + 0)) := by
    intro N1
    induction N1 with
    | zero =>
      intro v1_1 o_me_1 hI_me_1 hkp_me_1 hh6 hh7 hh8 hh9 hh10 hh11 hh12 hh13 hh14 hh15 hN1
      exact absurd hN1 (Nat.not_lt_zero _)
    | succ N1 ihx =>
      have ih1 := ihx
      intro v1_1 o_me_1 hI_me_1 hkp_me_1 hh6 hh7 hh8 hh9 hh10 hh11 hh12 hh13 hh14 hh15 hN1
      show wp (lb_X6_step_5   (lp_X6_step_5   N1) v1_1 o_me_1) (fun (y : Ob) => IvX6 y ∧ Kp [2, 3, 4, 5] [0] [] o_me y ∧ ((gI y 8).toInt ≤ (gI y 2).toInt + 0))
      unfold lb_X6_step_5
      refine wp_if (fun c16 => ?_) (fun c16 => ?_)
      · have c16 := cv_ge (a := v1_1.toInt) (b := (gI o_me_1 2).toInt) rfl rfl c16
        unfold bk_X6_step_29
        refine wp_lt (fun o17 eo17 => ?_)
        have hIo17 : IvX6 o17 := by rw [eo17]; exact ipX6_7 hI_me_1 ⟨by omega, by omega⟩
        have ko17_k18 : (gI o17 2).toInt = (gI o_me_1 2).toInt := by rw [eo17]; rfl
        have ko17_k19 : (gI o17 8).toInt = (gI o_me_1 8).toInt := by rw [eo17]; rfl
        have ko17_v : (gI o17 7).toInt = v1_1.toInt := by rw [eo17]; rfl
        have hkpo17 : Kp [2, 3, 4, 5] [0] [] o_me o17 := hkp_me_1.trans (by rw [eo17]; exact Kp.sI (by decide))
        have t20 : (v1_1 + (1 : Int32)).toInt = v1_1.toInt + 1 := i32_add rfl (by decide) (by omega) (by omega)
        refine wp_lt (fun o21 eo21 => ?_)
        have hIo21 : IvX6 o21 := by rw [eo21]; exact ipX6_8 hIo17 ⟨by omega, by omega⟩
        have ko21_k22 : (gI o21 2).toInt = (gI o17 2).toInt := by rw [eo21]; rfl
        have ko21_k23 : (gI o21 7).toInt = (gI o17 7).toInt := by rw [eo21]; rfl
        have ko21_v : (gI o21 8).toInt = (v1_1 + (1 : Int32)).toInt := by rw [eo21]; rfl
        have hkpo21 : Kp [2, 3, 4, 5] [0] [] o_me o21 := hkpo17.trans (by rw [eo21]; exact Kp.sI (by decide))
        refine wp_lt (fun o24 eo24 => ?_)
        have hIo24 : IvX6 o24 := by rw [eo24]; exact hIo21
        have ko24_k25 : (gI o24 2).toInt = (gI o21 2).toInt := by rw [eo24]; rfl
        have ko24_k26 : (gI o24 7).toInt = (gI o21 7).toInt := by rw [eo24]; rfl
        have ko24_k27 : (gI o24 8).toInt = (gI o21 8).toInt := by rw [eo24]; rfl
        have ko24_v : (gI o24 9).toInt = 0 := by rw [eo24]; exact (show ((0 : Int32)).toInt = _ from by decide)
        have hkpo24 : Kp [2, 3, 4, 5] [0] [] o_me o24 := hkpo21.trans (by rw [eo24]; exact Kp.sI (by decide))
        refine wp_if (fun c28 => ?_) (fun c28 => ?_)
        · have c28 := cv_lt (a := v1_1.toInt) (b := (gI o24 2).toInt) rfl rfl c28
          exfalso; omega
        · have c28 := cv_nlt (a := v1_1.toInt) (b := (gI o24 2).toInt) rfl rfl c28
          refine wp_lt (fun o29 eo29 => ?_)
          have hIo29 : IvX6 o29 := by rw [eo29]; exact ipX6_6 hIo24 ⟨by decide, by decide⟩
          have ko29_k30 : (gI o29 2).toInt = (gI o24 2).toInt := by rw [eo29]; rfl
          have ko29_k31 : (gI o29 7).toInt = (gI o24 7).toInt := by rw [eo29]; rfl
          have ko29_k32 : (gI o29 8).toInt = (gI o24 8).toInt := by rw [eo29]; rfl
          have ko29_k33 : (gI o29 9).toInt = (gI o24 9).toInt := by rw [eo29]; rfl
          have ko29_v : (gI o29 6).toInt = 0 := by rw [eo29]; exact (show ((0 : Int32)).toInt = _ from by decide)
          have hkpo29 : Kp [2, 3, 4, 5] [0] [] o_me o29 := hkpo24.trans (by rw [eo29]; exact Kp.sI (by decide))
          refine wp_lt (fun o34 eo34 => ?_)
          have hIo34 : IvX6 o34 := by rw [eo34]; exact ipX6_8 hIo29 ⟨by omega, by omega⟩
          have ko34_k35 : (gI o34 2).toInt = (gI o29 2).toInt := by rw [eo34]; rfl
          have ko34_k36 : (gI o34 6).toInt = (gI o29 6).toInt := by rw [eo34]; rfl
          have ko34_k37 : (gI o34 7).toInt = (gI o29 7).toInt := by rw [eo34]; rfl
          have ko34_k38 : (gI o34 9).toInt = (gI o29 9).toInt := by rw [eo34]; rfl
          have ko34_v : (gI o34 8).toInt = v1_1.toInt := by rw [eo34]; rfl
          have hkpo34 : Kp [2, 3, 4, 5] [0] [] o_me o34 := hkpo29.trans (by rw [eo34]; exact Kp.sI (by decide))
          refine wp_some ?_
          exact (show IvX6 o34 ∧ Kp [2, 3, 4, 5] [0] [] o_me o34 ∧ ((gI o34 8).toInt ≤ (gI o34 2).toInt + 0) from ⟨hIo34, hkpo34, (by omega)⟩)
      · have c16 := cv_nge (a := v1_1.toInt) (b := (gI o_me_1 2).toInt) rfl rfl c16
        refine wp_bd (s_X6_byteAt   o_me_1 v1_1  hI_me_1  ) (fun z39 hz39 => ?_)
        refine wp_if (fun c40 => ?_) (fun c40 => ?_)
        · have c40 := cv_eq (a := z39.toInt) (b := 32) rfl (by decide) c40
          refine wp_lt (fun x41 ex41 => ?_)
          have tx41 : x41.toInt = v1_1.toInt + 1 := by rw [ex41]; exact i32_add rfl (by decide) (by omega) (by omega)
          exact ih1 x41 o_me_1 hI_me_1 hkp_me_1 ⟨by omega, by omega⟩ ⟨by omega, by omega⟩ ⟨by omega, by omega⟩ (by omega) (by omega) (by omega) (by omega) (by omega) (by omega) (by omega) (by omega)
        · have c40 := cv_ne (a := z39.toInt) (b := 32) rfl (by decide) c40
          unfold bk_X6_step_29
          refine wp_lt (fun o42 eo42 => ?_)
          have hIo42 : IvX6 o42 := by rw [eo42]; exact ipX6_7 hI_me_1 ⟨by omega, by omega⟩
          have ko42_k43 : (gI o42 2).toInt = (gI o_me_1 2).toInt := by rw [eo42]; rfl
          have ko42_k44 : (gI o42 8).toInt = (gI o_me_1 8).toInt := by rw [eo42]; rfl
          have ko42_v : (gI o42 7).toInt = v1_1.toInt := by rw [eo42]; rfl
          have hkpo42 : Kp [2, 3, 4, 5] [0] [] o_me o42 := hkp_me_1.trans (by rw [eo42]; exact Kp.sI (by decide))
          have t45 : (v1_1 + (1 : Int32)).toInt = v1_1.toInt + 1 := i32_add rfl (by decide) (by omega) (by omega)
          refine wp_lt (fun o46 eo46 => ?_)
          have hIo46 : IvX6 o46 := by rw [eo46]; exact ipX6_8 hIo42 ⟨by omega, by omega⟩
          have ko46_k47 : (gI o46 2).toInt = (gI o42 2).toInt := by rw [eo46]; rfl
          have ko46_k48 : (gI o46 7).toInt = (gI o42 7).toInt := by rw [eo46]; rfl
          have ko46_v : (gI o46 8).toInt = (v1_1 + (1 : Int32)).toInt := by rw [eo46]; rfl
          have hkpo46 : Kp [2, 3, 4, 5] [0] [] o_me o46 := hkpo42.trans (by rw [eo46]; exact Kp.sI (by decide))
          refine wp_lt (fun o49 eo49 => ?_)
          have hIo49 : IvX6 o49 := by rw [eo49]; exact hIo46
          have ko49_k50 : (gI o49 2).toInt = (gI o46 2).toInt := by rw [eo49]; rfl
          have ko49_k51 : (gI o49 7).toInt = (gI o46 7).toInt := by rw [eo49]; rfl
          have ko49_k52 : (gI o49 8).toInt = (gI o46 8).toInt := by rw [eo49]; rfl
          have ko49_v : (gI o49 9).toInt = 0 := by rw [eo49]; exact (show ((0 : Int32)).toInt = _ from by decide)
          have hkpo49 : Kp [2, 3, 4, 5] [0] [] o_me o49 := hkpo46.trans (by rw [eo49]; exact Kp.sI (by decide))
          refine wp_if (fun c53 => ?_) (fun c53 => ?_)
          · have c53 := cv_lt (a := v1_1.toInt) (b := (gI o49 2).toInt) rfl rfl c53
            refine wp_bd (s_X6_byteAt   o49 v1_1  hIo49  ) (fun z54 hz54 => ?_)
            refine wp_bd (s_X6_isLetter   z54    ) (fun z55 hz55 => ?_)
            have hz55_0 := hz55
            refine wp_if (fun c56 => ?_) (fun c56 => ?_)
            · have c56 := cv_eq (a := z55.toInt) (b := 0) rfl (by decide) c56
              refine wp_bd (s_X6_byteAt   o49 v1_1  hIo49  ) (fun z57 hz57 => ?_)
              refine wp_bd (s_X6_isDigit   z57    ) (fun z58 hz58 => ?_)
              have hz58_0 := hz58
              refine wp_if (fun c59 => ?_) (fun c59 => ?_)
              · have c59 := cv_eq (a := z58.toInt) (b := 0) rfl (by decide) c59
                refine wp_lt (fun o60 eo60 => ?_)
                have hIo60 : IvX6 o60 := by rw [eo60]; exact ipX6_6 hIo49 ⟨by decide, by decide⟩
                have ko60_k61 : (gI o60 2).toInt = (gI o49 2).toInt := by rw [eo60]; rfl
                have ko60_k62 : (gI o60 7).toInt = (gI o49 7).toInt := by rw [eo60]; rfl
                have ko60_k63 : (gI o60 8).toInt = (gI o49 8).toInt := by rw [eo60]; rfl
                have ko60_k64 : (gI o60 9).toInt = (gI o49 9).toInt := by rw [eo60]; rfl
                have ko60_v : (gI o60 6).toInt = 3 := by rw [eo60]; exact (show ((3 : Int32)).toInt = _ from by decide)
                have hkpo60 : Kp [2, 3, 4, 5] [0] [] o_me o60 := hkpo49.trans (by rw [eo60]; exact Kp.sI (by decide))
                refine wp_some ?_
                exact (show IvX6 o60 ∧ Kp [2, 3, 4, 5] [0] [] o_me o60 ∧ ((gI o60 8).toInt ≤ (gI o60 2).toInt + 0) from ⟨hIo60, hkpo60, (by omega)⟩)
              · have c59z := c59
                have c59 := cv_ne (a := z58.toInt) (b := 0) rfl (by decide) c59
                refine wp_lt (fun o65 eo65 => ?_)
                have hIo65 : IvX6 o65 := by rw [eo65]; exact ipX6_6 hIo49 ⟨by decide, by decide⟩
                have ko65_k66 : (gI o65 2).toInt = (gI o49 2).toInt := by rw [eo65]; rfl
                have ko65_k67 : (gI o65 7).toInt = (gI o49 7).toInt := by rw [eo65]; rfl
                have ko65_k68 : (gI o65 8).toInt = (gI o49 8).toInt := by rw [eo65]; rfl
                have ko65_k69 : (gI o65 9).toInt = (gI o49 9).toInt := by rw [eo65]; rfl
                have ko65_v : (gI o65 6).toInt = 2 := by rw [eo65]; exact (show ((2 : Int32)).toInt = _ from by decide)
                have hkpo65 : Kp [2, 3, 4, 5] [0] [] o_me o65 := hkpo49.trans (by rw [eo65]; exact Kp.sI (by decide))
                refine wp_bd (s_X6_byteAt   o65 v1_1  hIo65  ) (fun z70 hz70 => ?_)
                have t71 := i32_subw (x := z70) (y := (48 : Int32)) (b := 48) (by decide) (by decide)
                have rg72 := i32_rg z70
                refine wp_lt (fun o73 eo73 => ?_)
                have hIo73 : IvX6 o73 := by rw [eo73]; exact hIo65
                have ko73_k74 : (gI o73 2).toInt = (gI o65 2).toInt := by rw [eo73]; rfl
                have ko73_k75 : (gI o73 6).toInt = (gI o65 6).toInt := by rw [eo73]; rfl
                have ko73_k76 : (gI o73 7).toInt = (gI o65 7).toInt := by rw [eo73]; rfl
                have ko73_k77 : (gI o73 8).toInt = (gI o65 8).toInt := by rw [eo73]; rfl
                have ko73_v : (gI o73 9).toInt = (z70 - (48 : Int32)).toInt := by rw [eo73]; rfl
                have hkpo73 : Kp [2, 3, 4, 5] [0] [] o_me o73 := hkpo65.trans (by rw [eo73]; exact Kp.sI (by decide))
                have lp2 : ∀ (N2 : Nat) (o_me_2 : Ob), IvX6 o_me_2 → Kp [2, 3, 4, 5] [0] [] o_me o_me_2 → (1 ≤ (gI o_me_2 2).toInt ∧ (gI o_me_2 2).toInt ≤ 400) → (1 ≤ (gI o_me_2 8).toInt ∧ (gI o_me_2 8).toInt ≤ 400) → ((gI o_me_2 8).toInt ≤ (gI o_me_2 2).toInt + 0) → (x2.toInt ≤ (gI o_me_2 2).toInt + (-1)) → (v1_1.toInt ≤ (gI o_me_2 2).toInt + (-1)) → (x2.toInt ≤ (gI o_me_2 8).toInt + (-1)) → (v1_1.toInt ≤ (gI o_me_2 8).toInt + (-1)) → (400 - (gI o_me_2 8).toInt).toNat < N2 → wp (lp_X6_step_149   N2 o_me_2) (fun (y : Ob) => IvX6 y ∧ Kp [2, 3, 4, 5] [0] [] o_me y ∧ ((gI y 8).toInt ≤ (gI y 2).toInt + 0)) := by
                  intro N2
                  induction N2 with
                  | zero =>
                    intro o_me_2 hI_me_2 hkp_me_2 hh80 hh81 hh82 hh83 hh84 hh85 hh86 hN2
                    exact absurd hN2 (Nat.not_lt_zero _)
                  | succ N2 ihx =>
                    have ih2 := ihx
                    intro o_me_2 hI_me_2 hkp_me_2 hh80 hh81 hh82 hh83 hh84 hh85 hh86 hN2
                    show wp (lb_X6_step_149   (lp_X6_step_149   N2) o_me_2) (fun (y : Ob) => IvX6 y ∧ Kp [2, 3, 4, 5] [0] [] o_me y ∧ ((gI y 8).toInt ≤ (gI y 2).toInt + 0))
                    unfold lb_X6_step_149
                    refine wp_if (fun c87 => ?_) (fun c87 => ?_)
                    · have c87 := cv_ge (a := (gI o_me_2 8).toInt) (b := (gI o_me_2 2).toInt) rfl rfl c87
                      refine wp_some ?_
                      exact (show IvX6 o_me_2 ∧ Kp [2, 3, 4, 5] [0] [] o_me o_me_2 ∧ ((gI o_me_2 8).toInt ≤ (gI o_me_2 2).toInt + 0) from ⟨hI_me_2, hkp_me_2, (by omega)⟩)
                    · have c87 := cv_nge (a := (gI o_me_2 8).toInt) (b := (gI o_me_2 2).toInt) rfl rfl c87
                      refine wp_bd (s_X6_byteAt   o_me_2 (gI o_me_2 8)  hI_me_2  ) (fun z88 hz88 => ?_)
                      refine wp_bd (s_X6_isDigit   z88    ) (fun z89 hz89 => ?_)
                      have hz89_0 := hz89
                      refine wp_if (fun c90 => ?_) (fun c90 => ?_)
                      · have c90 := cv_eq (a := z89.toInt) (b := 0) rfl (by decide) c90
                        refine wp_some ?_
                        exact (show IvX6 o_me_2 ∧ Kp [2, 3, 4, 5] [0] [] o_me o_me_2 ∧ ((gI o_me_2 8).toInt ≤ (gI o_me_2 2).toInt + 0) from ⟨hI_me_2, hkp_me_2, (by omega)⟩)
                      · have c90z := c90
                        have c90 := cv_ne (a := z89.toInt) (b := 0) rfl (by decide) c90
                        refine wp_bd (s_X6_byteAt   o_me_2 (gI o_me_2 8)  hI_me_2  ) (fun z91 hz91 => ?_)
                        have t92 := i32_subw (x := ((gI o_me_2 9) * (10 : Int32)) + z91) (y := (48 : Int32)) (b := 48) (by decide) (by decide)
                        have rg93 := i32_rg (((gI o_me_2 9) * (10 : Int32)) + z91)
                        have rg95 := i32_rg ((((gI o_me_2 9) * (10 : Int32)) + z91) - (48 : Int32))
                        have t94 : (-2147483648) ≤ (if ((((gI o_me_2 9) * (10 : Int32)) + z91) - (48 : Int32)) < (1001 : Int32) then ((((gI o_me_2 9) * (10 : Int32)) + z91) - (48 : Int32)) else (1001 : Int32)).toInt ∧ (if ((((gI o_me_2 9) * (10 : Int32)) + z91) - (48 : Int32)) < (1001 : Int32) then ((((gI o_me_2 9) * (10 : Int32)) + z91) - (48 : Int32)) else (1001 : Int32)).toInt ≤ 1001 := z_min (a := 1001) (b := ((((gI o_me_2 9) * (10 : Int32)) + z91) - (48 : Int32)).toInt) (by decide) rfl (by omega) (by omega)
                        have t96 := z_mng (1001 : Int32) ((((gI o_me_2 9) * (10 : Int32)) + z91) - (48 : Int32))
                        refine wp_lt (fun o97 eo97 => ?_)
                        have hIo97 : IvX6 o97 := by rw [eo97]; exact hI_me_2
                        have ko97_k98 : (gI o97 2).toInt = (gI o_me_2 2).toInt := by rw [eo97]; rfl
                        have ko97_k99 : (gI o97 8).toInt = (gI o_me_2 8).toInt := by rw [eo97]; rfl
                        have ko97_v : (gI o97 9).toInt = (if ((((gI o_me_2 9) * (10 : Int32)) + z91) - (48 : Int32)) < (1001 : Int32) then ((((gI o_me_2 9) * (10 : Int32)) + z91) - (48 : Int32)) else (1001 : Int32)).toInt := by rw [eo97]; rfl
                        have hkpo97 : Kp [2, 3, 4, 5] [0] [] o_me o97 := hkp_me_2.trans (by rw [eo97]; exact Kp.sI (by decide))
                        have t100 : ((gI o97 8) + (1 : Int32)).toInt = (gI o97 8).toInt + 1 := i32_add rfl (by decide) (by omega) (by omega)
                        refine wp_lt (fun o101 eo101 => ?_)
                        have hIo101 : IvX6 o101 := by rw [eo101]; exact ipX6_8 hIo97 ⟨by omega, by omega⟩
                        have ko101_k102 : (gI o101 2).toInt = (gI o97 2).toInt := by rw [eo101]; rfl
                        have ko101_k103 : (gI o101 9).toInt = (gI o97 9).toInt := by rw [eo101]; rfl
                        have ko101_v : (gI o101 8).toInt = ((gI o97 8) + (1 : Int32)).toInt := by rw [eo101]; rfl
                        have hkpo101 : Kp [2, 3, 4, 5] [0] [] o_me o101 := hkpo97.trans (by rw [eo101]; exact Kp.sI (by decide))
                        exact ih2 o101 hIo101 hkpo101 ⟨by omega, by omega⟩ ⟨by omega, by omega⟩ (by omega) (by omega) (by omega) (by omega) (by omega) (by omega)
                exact lp2 zfu o73 hIo73 hkpo73 ⟨by omega, by omega⟩ ⟨by omega, by omega⟩ (by omega) (by omega) (by omega) (by omega) (by omega) (by show _ < 100000; omega)
            · have c56z := c56
              have c56 := cv_ne (a := z55.toInt) (b := 0) rfl (by decide) c56
              refine wp_lt (fun o104 eo104 => ?_)
              have hIo104 : IvX6 o104 := by rw [eo104]; exact ipX6_6 hIo49 ⟨by decide, by decide⟩
              have ko104_k105 : (gI o104 2).toInt = (gI o49 2).toInt := by rw [eo104]; rfl
              have ko104_k106 : (gI o104 7).toInt = (gI o49 7).toInt := by rw [eo104]; rfl
              have ko104_k107 : (gI o104 8).toInt = (gI o49 8).toInt := by rw [eo104]; rfl
              have ko104_k108 : (gI o104 9).toInt = (gI o49 9).toInt := by rw [eo104]; rfl
              have ko104_v : (gI o104 6).toInt = 1 := by rw [eo104]; exact (show ((1 : Int32)).toInt = _ from by decide)
              have hkpo104 : Kp [2, 3, 4, 5] [0] [] o_me o104 := hkpo49.trans (by rw [eo104]; exact Kp.sI (by decide))
              have lp3 : ∀ (N3 : Nat) (o_me_3 : Ob), IvX6 o_me_3 → Kp [2, 3, 4, 5] [0] [] o_me o_me_3 → (1 ≤ (gI o_me_3 2).toInt ∧ (gI o_me_3 2).toInt ≤ 400) → (1 ≤ (gI o_me_3 8).toInt ∧ (gI o_me_3 8).toInt ≤ 400) → (0 ≤ (gI o_me_3 9).toInt ∧ (gI o_me_3 9).toInt ≤ 0) → ((gI o_me_3 8).toInt ≤ (gI o_me_3 2).toInt + 0) → (v1_1.toInt ≤ (gI o_me_3 2).toInt + (-1)) → (x2.toInt ≤ (gI o_me_3 2).toInt + (-1)) → (v1_1.toInt ≤ (gI o_me_3 8).toInt + (-1)) → (x2.toInt ≤ (gI o_me_3 8).toInt + (-1)) → (400 - (gI o_me_3 8).toInt).toNat < N3 → wp (lp_X6_step_83   N3 o_me_3) (fun (y : Ob) => IvX6 y ∧ Kp [2, 3, 4, 5] [0] [] o_me y ∧ ((gI y 8).toInt ≤ (gI y 2).toInt + 0)) := by
                intro N3
                induction N3 with
                | zero =>
                  intro o_me_3 hI_me_3 hkp_me_3 hh111 hh112 hh113 hh114 hh115 hh116 hh117 hh118 hN3
                  exact absurd hN3 (Nat.not_lt_zero _)
                | succ N3 ihx =>
                  have ih3 := ihx
                  intro o_me_3 hI_me_3 hkp_me_3 hh111 hh112 hh113 hh114 hh115 hh116 hh117 hh118 hN3
                  show wp (lb_X6_step_83   (lp_X6_step_83   N3) o_me_3) (fun (y : Ob) => IvX6 y ∧ Kp [2, 3, 4, 5] [0] [] o_me y ∧ ((gI y 8).toInt ≤ (gI y 2).toInt + 0))
                  unfold lb_X6_step_83
                  refine wp_if (fun c119 => ?_) (fun c119 => ?_)
                  · have c119 := cv_ge (a := (gI o_me_3 8).toInt) (b := (gI o_me_3 2).toInt) rfl rfl c119
                    refine wp_some ?_
                    exact (show IvX6 o_me_3 ∧ Kp [2, 3, 4, 5] [0] [] o_me o_me_3 ∧ ((gI o_me_3 8).toInt ≤ (gI o_me_3 2).toInt + 0) from ⟨hI_me_3, hkp_me_3, (by omega)⟩)
                  · have c119 := cv_nge (a := (gI o_me_3 8).toInt) (b := (gI o_me_3 2).toInt) rfl rfl c119
                    refine wp_bd (s_X6_byteAt   o_me_3 (gI o_me_3 8)  hI_me_3  ) (fun z120 hz120 => ?_)
                    refine wp_bd (s_X6_isLetter   z120    ) (fun z121 hz121 => ?_)
                    have hz121_0 := hz121
                    refine wp_if (fun c122 => ?_) (fun c122 => ?_)
                    · have c122 := cv_eq (a := z121.toInt) (b := 0) rfl (by decide) c122
                      refine wp_some ?_
                      exact (show IvX6 o_me_3 ∧ Kp [2, 3, 4, 5] [0] [] o_me o_me_3 ∧ ((gI o_me_3 8).toInt ≤ (gI o_me_3 2).toInt + 0) from ⟨hI_me_3, hkp_me_3, (by omega)⟩)
                    · have c122z := c122
                      have c122 := cv_ne (a := z121.toInt) (b := 0) rfl (by decide) c122
                      have t123 : ((gI o_me_3 8) + (1 : Int32)).toInt = (gI o_me_3 8).toInt + 1 := i32_add rfl (by decide) (by omega) (by omega)
                      refine wp_lt (fun o124 eo124 => ?_)
                      have hIo124 : IvX6 o124 := by rw [eo124]; exact ipX6_8 hI_me_3 ⟨by omega, by omega⟩
                      have ko124_k125 : (gI o124 2).toInt = (gI o_me_3 2).toInt := by rw [eo124]; rfl
                      have ko124_k126 : (gI o124 9).toInt = (gI o_me_3 9).toInt := by rw [eo124]; rfl
                      have ko124_v : (gI o124 8).toInt = ((gI o_me_3 8) + (1 : Int32)).toInt := by rw [eo124]; rfl
                      have hkpo124 : Kp [2, 3, 4, 5] [0] [] o_me o124 := hkp_me_3.trans (by rw [eo124]; exact Kp.sI (by decide))
                      exact ih3 o124 hIo124 hkpo124 ⟨by omega, by omega⟩ ⟨by omega, by omega⟩ ⟨by omega, by omega⟩ (by omega) (by omega) (by omega) (by omega) (by omega) (by omega)
              exact lp3 zfu o104 hIo104 hkpo104 ⟨by omega, by omega⟩ ⟨by omega, by omega⟩ ⟨by omega, by omega⟩ (by omega) (by omega) (by omega) (by omega) (by omega) (by show _ < 100000; omega)
          · have c53 := cv_nlt (a := v1_1.toInt) (b := (gI o49 2).toInt) rfl rfl c53
            exfalso; omega
  exact lp1 zfu x2 o_me hI_me Kp.rf ⟨by omega, by omega⟩ ⟨by omega, by omega⟩ ⟨by omega, by omega⟩ (by omega) (by omega) (by omega) (by omega) (by omega) (by omega) (by omega) (by show _ < 100000; omega)

set_option maxHeartbeats 4000000 in
set_option maxRecDepth 100000 in
theorem s_X6_stop (o_me : Ob) (hI_me : IvX6 o_me)  : wp (f_X6_stop   o_me) (fun (y : Int32 × Ob) => (0 ≤ y.1.toInt ∧ y.1.toInt ≤ 0) ∧ IvX6 y.2 ∧ Kp [2, 4, 5, 6, 7, 8] [0] [] o_me y.2) := by
  have li0 : (0 : Int32).toInt = 0 := by decide
  unfold f_X6_stop
  have t1 := igX6_7 hI_me
  refine wp_lt (fun o2 eo2 => ?_)
  have hIo2 : IvX6 o2 := by rw [eo2]; exact hI_me
  have ko2_k3 : (gI o2 7).toInt = (gI o_me 7).toInt := by rw [eo2]; rfl
  have ko2_v : (gI o2 3).toInt = (gI o_me 7).toInt := by rw [eo2]; rfl
  have hkpo2 : Kp [2, 4, 5, 6, 7, 8] [0] [] o_me o2 := Kp.rf.trans (by rw [eo2]; exact Kp.sI (by decide))
  refine wp_some ?_
  exact (show (0 ≤ (0 : Int32).toInt ∧ (0 : Int32).toInt ≤ 0) ∧ IvX6 o2 ∧ Kp [2, 4, 5, 6, 7, 8] [0] [] o_me o2 from ⟨⟨by decide, by decide⟩, hIo2, hkpo2⟩)

-- the texts' lengths and letters
set_option maxRecDepth 100000 in
theorem tx_len : ∀ p, p < 9 → f_J0_length_8abf5 p = some (Int32.ofNat (lnS.getD p 0)) := by decide +kernel
set_option maxRecDepth 100000 in
theorem tx_chr : ∀ p, p < 9 → ∀ k, k < lnS.getD p 0 → f_J0_charAt_5068e p (Int32.ofNat k) = some ((btS.getD p []).getD k 0) := by decide +kernel
set_option maxRecDepth 100000 in
theorem ln_le : ∀ p, p < 9 → lnS.getD p 0 ≤ 100 := by decide +kernel
theorem h_isSame (o : Ob) (p : Nat) (hp : p < 9) (v2 v4 : Int32) (h7 : 0 ≤ (gI o 7).toInt) (g2 : 0 ≤ v2.toInt) (g3 : v2.toInt + v4.toInt ≤ (lnS.getD p 0 : Int)) (g4 : (gI o 7).toInt + v4.toInt ≤ 400) :
    ∀ (N : Nat) (v5 : Int32), 0 ≤ v5.toInt → (v4.toInt - v5.toInt).toNat < N → wp (lp_X6_isSame_53 o N (p, v2, v4, v5)) (fun y => 0 ≤ y.toInt ∧ y.toInt ≤ 1) := by
  have hl := ln_le p hp
  intro N
  induction N with
  | zero => intro v5 _ hN; exact absurd hN (Nat.not_lt_zero _)
  | succ N ih =>
    intro v5 h5 hN
    show wp (lb_X6_isSame_53 o (lp_X6_isSame_53 o N) p v2 v4 v5) _
    unfold lb_X6_isSame_53
    refine wp_if (fun c => wp_some ⟨by decide, by decide⟩) (fun c => ?_)
    have c := cv_nle (a := v4.toInt) (b := v5.toInt) rfl rfl c
    have r7 := i32_rg (gI o 7)
    have t1 : ((gI o 7) + v5).toInt = (gI o 7).toInt + v5.toInt := i32_add rfl rfl (by omega) (by omega)
    have t2 : (v2 + v5).toInt = v2.toInt + v5.toInt := i32_add rfl rfl (by omega) (by omega)
    refine wp_gd (zin_of (m := 400) rfl (by omega) (by omega)) ?_
    refine wp_gd (decide_eq_true hp) ?_
    have ek : v2 + v5 = Int32.ofNat (v2.toInt + v5.toInt).toNat := by
      refine Int32.toInt_inj.mp ?_
      rw [Int32.toInt_ofNat_of_lt (by omega), t2]
      omega
    refine wp_bd (Q := fun _ => True) ⟨_, by rw [ek]; exact tx_chr p hp _ (by omega), trivial⟩ (fun z _ => ?_)
    refine wp_if (fun c2 => ?_) (fun c2 => wp_some ⟨by decide, by decide⟩)
    refine wp_lt (fun x7 e7 => ?_)
    have t7 : x7.toInt = v5.toInt + 1 := by rw [e7]; exact i32_add rfl (by decide) (by omega) (by omega)
    exact ih x7 (by omega) (by omega)
set_option maxHeartbeats 4000000 in
set_option maxRecDepth 100000 in
theorem s_X6_isSame (o_me : Ob) (p0 : Nat) (p1 : Int32) (p2 : Int32) (hI_me : IvX6 o_me) (h_p0 : p0 < 9) (q0 : 0 ≤ p1.toInt ∧ p1.toInt ≤ 101) (q1 : 0 ≤ p2.toInt ∧ p2.toInt ≤ 101) : wp (f_X6_isSame   o_me p0 p1 p2) (fun (y : Int32) => (0 ≤ y.toInt ∧ y.toInt ≤ 1)) := by
  have hl := ln_le p0 h_p0
  have b7 := igX6_7 hI_me
  have b8 := igX6_8 hI_me
  unfold f_X6_isSame
  refine wp_lt (fun x1 e1 => ?_)
  have t1 : x1.toInt = p2.toInt - p1.toInt := by rw [e1]; exact i32_sub rfl rfl (by omega) (by omega)
  refine wp_if (fun c => wp_some ⟨by decide, by decide⟩) (fun c => ?_)
  refine wp_gd (decide_eq_true h_p0) ?_
  refine wp_bd (Q := fun z => z = Int32.ofNat (lnS.getD p0 0)) ⟨_, tx_len p0 h_p0, rfl⟩ (fun z2 hz2 => ?_)
  have tz : z2.toInt = (lnS.getD p0 0 : Int) := by rw [hz2]; exact Int32.toInt_ofNat_of_lt (by omega)
  refine wp_if (fun c => wp_some ⟨by decide, by decide⟩) (fun c2 => ?_)
  have c2 := cv_nlt (a := z2.toInt) (b := p2.toInt) rfl rfl c2
  refine wp_if (fun c3 => ?_) (fun c3 => wp_some ⟨by decide, by decide⟩)
  have t3 : ((gI o_me 8) - (gI o_me 7)).toInt = (gI o_me 8).toInt - (gI o_me 7).toInt := i32_sub rfl rfl (by omega) (by omega)
  have c3 := cv_eq (a := x1.toInt) (b := (gI o_me 8).toInt - (gI o_me 7).toInt) rfl t3 c3
  refine wp_if (fun c4 => wp_some ⟨by decide, by decide⟩) (fun c4 => ?_)
  refine wp_if (fun c5 => ?_) (fun c5 => wp_some ⟨by decide, by decide⟩)
  have c5 := cv_le (a := (gI o_me 8).toInt) (b := 400) rfl (by decide) c5
  have z0 : (0 : Int32).toInt = 0 := by decide
  exact h_isSame o_me p0 h_p0 p1 x1 (by omega) (by omega) (by omega) (by omega) zfu 0 (by omega) (by show _ < 100000; omega)

theorem h_wordOf (o : Ob) (hI : IvX6 o) (p : Nat) (hp : p < 9) :
    ∀ (N : Nat) (v2 v3 v4 : Int32), 0 ≤ v3.toInt → v3.toInt ≤ v4.toInt → v4.toInt ≤ (lnS.getD p 0 : Int) + 1 → ((lnS.getD p 0 : Int) + 1 - v4.toInt).toNat < N → wp (lp_X6_wordOf_17 o N (p, v2, v3, v4)) (fun _ => True) := by
  have hl := ln_le p hp
  intro N
  induction N with
  | zero => intro v2 v3 v4 _ _ _ hN; exact absurd hN (Nat.not_lt_zero _)
  | succ N ih =>
    intro v2 v3 v4 h3 h34 h4 hN
    show wp (lb_X6_wordOf_17 o (lp_X6_wordOf_17 o N) p v2 v3 v4) _
    unfold lb_X6_wordOf_17
    refine wp_gd (decide_eq_true hp) ?_
    refine wp_bd (Q := fun z => z = Int32.ofNat (lnS.getD p 0)) ⟨_, tx_len p hp, rfl⟩ (fun z1 hz1 => ?_)
    have tz : z1.toInt = (lnS.getD p 0 : Int) := by rw [hz1]; exact Int32.toInt_ofNat_of_lt (by omega)
    refine wp_if (fun c => wp_some trivial) (fun c => ?_)
    have c := cv_nlt (a := z1.toInt) (b := v4.toInt) rfl rfl c
    have h67 : ∀ w2 w3 : Int32, 0 ≤ w3.toInt → w3.toInt ≤ v4.toInt + 1 → wp (bk_X6_wordOf_67 o (lp_X6_wordOf_17 o N) p w2 w3 v4) (fun _ => True) := by
      intro w2 w3 g3 g4
      unfold bk_X6_wordOf_67
      refine wp_lt (fun x8 e8 => ?_)
      have t8 : x8.toInt = v4.toInt + 1 := by rw [e8]; exact i32_add rfl (by decide) (by omega) (by omega)
      exact ih w2 w3 x8 g3 (by omega) (by omega) (by omega)
    have h46 : wp (bk_X6_wordOf_46 o (lp_X6_wordOf_17 o N) p v2 v3 v4) (fun _ => True) := by
      unfold bk_X6_wordOf_46
      refine wp_bd (s_X6_isSame o p v3 v4 hI hp ⟨by omega, by omega⟩ ⟨by omega, by omega⟩) (fun z5 _ => ?_)
      refine wp_if (fun c => ?_) (fun c => wp_some trivial)
      refine wp_lt (fun x6 _ => ?_)
      refine wp_lt (fun x7 e7 => ?_)
      have t7 : x7.toInt = v4.toInt + 1 := by rw [e7]; exact i32_add rfl (by decide) (by omega) (by omega)
      exact h67 x6 x7 (by omega) (by omega)
    refine wp_gd (decide_eq_true hp) ?_
    refine wp_bd (Q := fun z => z = Int32.ofNat (lnS.getD p 0)) ⟨_, tx_len p hp, rfl⟩ (fun z3 hz3 => ?_)
    have tz3 : z3.toInt = (lnS.getD p 0 : Int) := by rw [hz3]; exact Int32.toInt_ofNat_of_lt (by omega)
    refine wp_if (fun c => h46) (fun c2 => ?_)
    have c2 := cv_ne (a := v4.toInt) (b := z3.toInt) rfl rfl c2
    refine wp_gd (decide_eq_true hp) ?_
    have ek : v4 = Int32.ofNat v4.toInt.toNat := by
      refine Int32.toInt_inj.mp ?_
      rw [Int32.toInt_ofNat_of_lt (by omega)]
      omega
    refine wp_bd (Q := fun _ => True) ⟨_, (congrArg (f_J0_charAt_5068e p) ek).trans (tx_chr p hp _ (by omega)), trivial⟩ (fun z9 _ => ?_)
    refine wp_if (fun c => h46) (fun c => h67 v2 v3 h3 (by omega))
set_option maxHeartbeats 4000000 in
set_option maxRecDepth 100000 in
theorem s_X6_wordOf (o_me : Ob) (p0 : Nat) (hI_me : IvX6 o_me) (h_p0 : p0 < 9)  : wp (f_X6_wordOf   o_me p0) (fun (y : Int32) => True) := by
  have hl := ln_le p0 h_p0
  unfold f_X6_wordOf
  refine wp_if (fun c => ?_) (fun c => wp_some trivial)
  have z0 : (0 : Int32).toInt = 0 := by decide
  exact h_wordOf o_me hI_me p0 h_p0 zfu 0 0 0 (by omega) (by omega) (by omega) (by show _ < 100000; omega)

set_option maxHeartbeats 4000000 in
set_option maxRecDepth 100000 in
theorem s_X6_isWord (o_me : Ob) (p0 : Nat) (hI_me : IvX6 o_me) (h_p0 : p0 < 9)  : wp (f_X6_isWord   o_me p0) (fun (y : Int32) => (0 ≤ y.toInt ∧ y.toInt ≤ 1)) := by
  have li0 : (0 : Int32).toInt = 0 := by decide
  have li1 : (1 : Int32).toInt = 1 := by decide
  unfold f_X6_isWord
  refine wp_bd (s_X6_wordOf   o_me p0  hI_me h_p0 ) (fun z1 hz1 => ?_)
  refine wp_if (fun c2 => ?_) (fun c2 => ?_)
  · have c2 := cv_eq (a := z1.toInt) (b := 0) rfl (by decide) c2
    refine wp_some ?_
    exact (show (0 ≤ (1 : Int32).toInt ∧ (1 : Int32).toInt ≤ 1) from ⟨by decide, by decide⟩)
  · have c2z := c2
    have c2 := cv_ne (a := z1.toInt) (b := 0) rfl (by decide) c2
    refine wp_some ?_
    exact (show (0 ≤ (0 : Int32).toInt ∧ (0 : Int32).toInt ≤ 1) from ⟨by decide, by decide⟩)

set_option maxHeartbeats 4000000 in
set_option maxRecDepth 100000 in
theorem s_X6_isSign (o_me : Ob) (p0 : Int32) (hI_me : IvX6 o_me)  : wp (f_X6_isSign   o_me p0) (fun (y : Int32) => (0 ≤ y.toInt ∧ y.toInt ≤ 1)) := by
  have li0 : (0 : Int32).toInt = 0 := by decide
  have li1 : (1 : Int32).toInt = 1 := by decide
  have li2 : (3 : Int32).toInt = 3 := by decide
  unfold f_X6_isSign
  have t1 := igX6_6 hI_me
  refine wp_if (fun c2 => ?_) (fun c2 => ?_)
  · have c2 := cv_eq (a := (gI o_me 6).toInt) (b := 3) rfl (by decide) c2
    have t3 := igX6_7 hI_me
    refine wp_bd (s_X6_byteAt   o_me (gI o_me 7)  hI_me  ) (fun z4 hz4 => ?_)
    have rg6 := i32_rg z4
    have rg7 := i32_rg p0
    refine wp_if (fun c5 => ?_) (fun c5 => ?_)
    · have c5 := cv_eq (a := z4.toInt) (b := p0.toInt) rfl rfl c5
      refine wp_some ?_
      exact (show (0 ≤ (1 : Int32).toInt ∧ (1 : Int32).toInt ≤ 1) from ⟨by decide, by decide⟩)
    · have c5 := cv_ne (a := z4.toInt) (b := p0.toInt) rfl rfl c5
      refine wp_some ?_
      exact (show (0 ≤ (0 : Int32).toInt ∧ (0 : Int32).toInt ≤ 1) from ⟨by decide, by decide⟩)
  · have c2 := cv_ne (a := (gI o_me 6).toInt) (b := 3) rfl (by decide) c2
    refine wp_some ?_
    exact (show (0 ≤ (0 : Int32).toInt ∧ (0 : Int32).toInt ≤ 1) from ⟨by decide, by decide⟩)

set_option maxHeartbeats 4000000 in
set_option maxRecDepth 100000 in
theorem s_X0_add (nc_me : Nat) (ns_me : Nat) (o_me : Ob) (p0 : Int32) (p1 : Int32) (hI_me : IvX0 nc_me ns_me o_me)  : wp (f_X0_add  nc_me ns_me o_me p0 p1) (fun (y : Int32 × Ob) => ((-1) ≤ y.1.toInt ∧ y.1.toInt ≤ 399) ∧ IvX0 nc_me ns_me y.2 ∧ Kp [7] [1] [] o_me y.2) := by
  have li0 : (-1 : Int32).toInt = (-1) := by decide
  have li1 : (1 : Int32).toInt = 1 := by decide
  unfold f_X0_add
  have t9nc := igX0_7 hI_me
  have t9ns := igX0_8 hI_me
  have t1 := ofn_X0 hI_me
  refine wp_if (fun c2 => ?_) (fun c2 => ?_)
  · have c2 := cv_lt (a := (gI o_me 8).toInt) (b := (Int32.ofNat ns_me).toInt) rfl rfl c2
    refine wp_gd (zin_of (m := (ns_me : Int)) rfl (by omega) (by omega)) ?_
    refine wp_lt (fun o3 eo3 => ?_)
    have hIo3 : IvX0 nc_me ns_me o3 := by rw [eo3]; exact hI_me
    have ko3_k4 : (gI o3 7).toInt = (gI o_me 7).toInt := by rw [eo3]; rfl
    have ko3_k5 : (gI o3 8).toInt = (gI o_me 8).toInt := by rw [eo3]; rfl
    have ko3_v : (gA o3 5 (gI o_me 8).toNatClampNeg).toInt = p0.toInt := by rw [eo3]; exact congrArg Int32.toInt (upd_eq (g := gA o_me 5) (i := (gI o_me 8)) (v := p0))
    have hkpo3 : Kp [7] [1] [] o_me o3 := Kp.rf.trans (by rw [eo3]; exact Kp.tA (by decide) (by decide))
    refine wp_gd (zin_of (m := (ns_me : Int)) rfl (by omega) (by omega)) ?_
    refine wp_lt (fun o6 eo6 => ?_)
    have hIo6 : IvX0 nc_me ns_me o6 := by rw [eo6]; exact hIo3
    have ko6_k7 : (gA o6 5 (gI o_me 8).toNatClampNeg).toInt = (gA o3 5 (gI o_me 8).toNatClampNeg).toInt := by rw [eo6]; rfl
    have ko6_k8 : (gI o6 7).toInt = (gI o3 7).toInt := by rw [eo6]; rfl
    have ko6_k9 : (gI o6 8).toInt = (gI o3 8).toInt := by rw [eo6]; rfl
    have ko6_v : (gA o6 6 (gI o3 8).toNatClampNeg).toInt = p1.toInt := by rw [eo6]; exact congrArg Int32.toInt (upd_eq (g := gA o3 6) (i := (gI o3 8)) (v := p1))
    have hkpo6 : Kp [7] [1] [] o_me o6 := hkpo3.trans (by rw [eo6]; exact Kp.tA (by decide) (by decide))
    have t10 : ((gI o6 8) + (1 : Int32)).toInt = (gI o6 8).toInt + 1 := i32_add rfl (by decide) (by omega) (by omega)
    refine wp_lt (fun o11 eo11 => ?_)
    have hIo11 : IvX0 nc_me ns_me o11 := by rw [eo11]; exact ipX0_8 hIo6 ⟨by omega, by omega⟩
    have ko11_k12 : (gA o11 5 (gI o_me 8).toNatClampNeg).toInt = (gA o6 5 (gI o_me 8).toNatClampNeg).toInt := by rw [eo11]; rfl
    have ko11_k13 : (gA o11 6 (gI o3 8).toNatClampNeg).toInt = (gA o6 6 (gI o3 8).toNatClampNeg).toInt := by rw [eo11]; rfl
    have ko11_k14 : (gI o11 7).toInt = (gI o6 7).toInt := by rw [eo11]; rfl
    have ko11_v : (gI o11 8).toInt = ((gI o6 8) + (1 : Int32)).toInt := by rw [eo11]; rfl
    have hkpo11 : Kp [7] [1] [] o_me o11 := hkpo6.trans (by rw [eo11]; exact Kp.sI (by decide))
    have t15 : ((gI o11 8) - (1 : Int32)).toInt = (gI o11 8).toInt - 1 := i32_sub rfl (by decide) (by omega) (by omega)
    refine wp_some ?_
    exact (show ((-1) ≤ ((gI o11 8) - (1 : Int32)).toInt ∧ ((gI o11 8) - (1 : Int32)).toInt ≤ 399) ∧ IvX0 nc_me ns_me o11 ∧ Kp [7] [1] [] o_me o11 from ⟨⟨by omega, by omega⟩, hIo11, hkpo11⟩)
  · have c2 := cv_nlt (a := (gI o_me 8).toInt) (b := (Int32.ofNat ns_me).toInt) rfl rfl c2
    refine wp_some ?_
    exact (show ((-1) ≤ (-1 : Int32).toInt ∧ (-1 : Int32).toInt ≤ 399) ∧ IvX0 nc_me ns_me o_me ∧ Kp [7] [1] [] o_me o_me from ⟨⟨by decide, by decide⟩, hI_me, Kp.rf⟩)

set_option maxHeartbeats 4000000 in
set_option maxRecDepth 100000 in
theorem s_X3_wordOfPerson (p0 : Int32) (p1 : Int32)   : wp (f_X3_wordOfPerson   p0 p1) (fun (y : Int32) => True) := by
  have li0 : (12 : Int32).toInt = 12 := by decide
  have li1 : (5 : Int32).toInt = 5 := by decide
  unfold f_X3_wordOfPerson
  refine wp_if (fun c1 => ?_) (fun c1 => ?_)
  · have c1 := cv_eq (a := p0.toInt) (b := 5) rfl (by decide) c1
    obtain ⟨w2, ew2⟩ : ∃ z : Int32, z = (5 : Int32) := ⟨_, rfl⟩
    have tw2 : w2.toInt = 5 := by rw [ew2]; decide
    rw [show bk_X3_wordOfPerson_11   p1 (5 : Int32) = bk_X3_wordOfPerson_11   p1 w2 from by rw [ew2]]
    unfold bk_X3_wordOfPerson_11
    refine wp_some ?_
    exact trivial
  · have c1 := cv_ne (a := p0.toInt) (b := 5) rfl (by decide) c1
    obtain ⟨w3, ew3⟩ : ∃ z : Int32, z = (12 : Int32) := ⟨_, rfl⟩
    have tw3 : w3.toInt = 12 := by rw [ew3]; decide
    rw [show bk_X3_wordOfPerson_11   p1 (12 : Int32) = bk_X3_wordOfPerson_11   p1 w3 from by rw [ew3]]
    unfold bk_X3_wordOfPerson_11
    refine wp_some ?_
    exact trivial

set_option maxHeartbeats 4000000 in
set_option maxRecDepth 100000 in
theorem s_X6_readSinglePart (o_me : Ob) (o_me_code : Ob) (hI_me : IvX6 o_me) (hI_me_code : IvX0 12 400 o_me_code) (r0 : (gI o_me 8).toInt ≤ (gI o_me 2).toInt + 0) : wp (f_X6_readSinglePart  12 400 o_me o_me_code) (fun (y : Int32 × Ob × Ob) => (0 ≤ y.1.toInt ∧ y.1.toInt ≤ 1) ∧ IvX6 y.2.1 ∧ Kp [2, 4] [0] [] o_me y.2.1 ∧ IvX0 12 400 y.2.2 ∧ Kp [7] [1] [] o_me_code y.2.2 ∧ ((gI y.2.1 8).toInt ≤ (gI y.2.1 2).toInt + 0)) := by
  have li0 : (-1 : Int32).toInt = (-1) := by decide
  have li1 : (0 : Int32).toInt = 0 := by decide
  have li2 : (1 : Int32).toInt = 1 := by decide
  have li3 : (1000 : Int32).toInt = 1000 := by decide
  have li4 : (2 : Int32).toInt = 2 := by decide
  have li5 : (5 : Int32).toInt = 5 := by decide
  have li6 : (50 : Int32).toInt = 50 := by decide
  have li7 : (7 : Int32).toInt = 7 := by decide
  unfold f_X6_readSinglePart
  have t1 := igX6_6 hI_me
  refine wp_if (fun c2 => ?_) (fun c2 => ?_)
  · have c2 := cv_eq (a := (gI o_me 6).toInt) (b := 2) rfl (by decide) c2
    refine wp_if (fun c3 => ?_) (fun c3 => ?_)
    · have c3 := cv_gt (a := (gI o_me 9).toInt) (b := 1000) rfl (by decide) c3
      unfold bk_X6_readSinglePart_22
      obtain ⟨w4, ew4⟩ : ∃ z : Int32, z = (0 : Int32) := ⟨_, rfl⟩
      have tw4 : w4.toInt = 0 := by rw [ew4]; decide
      rw [show bk_X6_readSinglePart_23 12 400  (0 : Int32) o_me o_me_code = bk_X6_readSinglePart_23 12 400  w4 o_me o_me_code from by rw [ew4]]
      unfold bk_X6_readSinglePart_23
      have t5 := igX6_4 hI_me
      refine wp_if (fun c6 => ?_) (fun c6 => ?_)
      · have c6 := cv_eq (a := (gI o_me 4).toInt) (b := 0) rfl (by decide) c6
        unfold bk_X6_readSinglePart_39
        refine wp_bd (s_X6_wordOf   o_me 8  hI_me (by decide) ) (fun z7 hz7 => ?_)
        refine wp_if (fun c8 => ?_) (fun c8 => ?_)
        · have c8 := cv_eq (a := w4.toInt) (b := 0) rfl (by decide) c8
          refine wp_if (fun c9 => ?_) (fun c9 => ?_)
          · have c9 := cv_eq (a := z7.toInt) (b := (-1)) rfl (by decide) c9
            unfold bk_X6_readSinglePart_61
            refine wp_bd (s_X6_stop   o_me  hI_me  ) (fun z10 hz10 => ?_)
            obtain ⟨hz10_0, hz10_1, hz10_2⟩ := hz10
            have hkpz10_me : Kp [2, 4] [0] [] o_me z10.2 := Kp.rf.trans (hz10_2.mono (by decide) (by decide) (by decide))
            have kz10_k11 : (gI z10.2 2).toInt = (gI o_me 2).toInt := congrArg Int32.toInt (hz10_2.1 2 (by decide))
            have kz10_k12 : (gI z10.2 4).toInt = (gI o_me 4).toInt := congrArg Int32.toInt (hz10_2.1 4 (by decide))
            have kz10_k13 : (gI z10.2 6).toInt = (gI o_me 6).toInt := congrArg Int32.toInt (hz10_2.1 6 (by decide))
            have kz10_k14 : (gI z10.2 8).toInt = (gI o_me 8).toInt := congrArg Int32.toInt (hz10_2.1 8 (by decide))
            refine wp_gd (zbo_of (by omega) (by omega)) ?_
            refine wp_some ?_
            have t15 := igX6_8 hz10_1
            have t16 := igX6_2 hz10_1
            exact (show (0 ≤ z10.1.toInt ∧ z10.1.toInt ≤ 1) ∧ IvX6 z10.2 ∧ Kp [2, 4] [0] [] o_me z10.2 ∧ IvX0 12 400 o_me_code ∧ Kp [7] [1] [] o_me_code o_me_code ∧ ((gI z10.2 8).toInt ≤ (gI z10.2 2).toInt + 0) from ⟨⟨by omega, by omega⟩, hz10_1, hkpz10_me, hI_me_code, Kp.rf, (by omega)⟩)
          · have c9 := cv_ne (a := z7.toInt) (b := (-1)) rfl (by decide) c9
            unfold bk_X6_readSinglePart_52
            have t17 := igX6_5 hI_me
            refine wp_if (fun c18 => ?_) (fun c18 => ?_)
            · have c18 := cv_lt (a := (gI o_me 5).toInt) (b := 50) rfl (by decide) c18
              have t19 : ((gI o_me 5) + (1 : Int32)).toInt = (gI o_me 5).toInt + 1 := i32_add rfl (by decide) (by omega) (by omega)
              refine wp_lt (fun o20 eo20 => ?_)
              have hIo20 : IvX6 o20 := by rw [eo20]; exact ipX6_5 hI_me ⟨by omega, by omega⟩
              have ko20_k21 : (gI o20 2).toInt = (gI o_me 2).toInt := by rw [eo20]; rfl
              have ko20_k22 : (gI o20 4).toInt = (gI o_me 4).toInt := by rw [eo20]; rfl
              have ko20_k23 : (gI o20 6).toInt = (gI o_me 6).toInt := by rw [eo20]; rfl
              have ko20_k24 : (gI o20 8).toInt = (gI o_me 8).toInt := by rw [eo20]; rfl
              have ko20_k25 : (gI o20 9).toInt = (gI o_me 9).toInt := by rw [eo20]; rfl
              have ko20_v : (gI o20 5).toInt = ((gI o_me 5) + (1 : Int32)).toInt := by rw [eo20]; rfl
              have hkpo20 : Kp [2, 4] [0] [] o_me o20 := Kp.rf.trans (by rw [eo20]; exact Kp.sI (by decide))
              refine wp_if (fun c26 => ?_) (fun c26 => ?_)
              · have c26 := cv_eq (a := w4.toInt) (b := 0) rfl (by decide) c26
                have t28 := igX6_8 hIo20
                have t29 := igX6_2 hIo20
                refine wp_bd (s_X6_step   o20  hIo20  (by omega)) (fun z27 hz27 => ?_)
                obtain ⟨hz27_0, hz27_1, hz27_2⟩ := hz27
                have hkpz27_me : Kp [2, 4] [0] [] o_me z27 := hkpo20.trans (hz27_1.mono (by decide) (by decide) (by decide))
                have kz27_k30 : (gI z27 2).toInt = (gI o20 2).toInt := congrArg Int32.toInt (hz27_1.1 2 (by decide))
                have kz27_k31 : (gI z27 4).toInt = (gI o20 4).toInt := congrArg Int32.toInt (hz27_1.1 4 (by decide))
                have kz27_k32 : (gI z27 5).toInt = (gI o20 5).toInt := congrArg Int32.toInt (hz27_1.1 5 (by decide))
                refine wp_if (fun c33 => ?_) (fun c33 => ?_)
                · have c33 := cv_eq (a := (gI z27 4).toInt) (b := 0) rfl (by decide) c33
                  refine wp_if (fun c34 => ?_) (fun c34 => ?_)
                  · have c34 := cv_ge (a := z7.toInt) (b := 5) rfl (by decide) c34
                    have t35 := igX6_6 hz27_0
                    refine wp_if (fun c36 => ?_) (fun c36 => ?_)
                    · have c36 := cv_eq (a := (gI z27 6).toInt) (b := 2) rfl (by decide) c36
                      refine wp_if (fun c37 => ?_) (fun c37 => ?_)
                      · have c37 := cv_lt (a := (gI z27 9).toInt) (b := 7) rfl (by decide) c37
                        refine wp_bd (s_X3_wordOfPerson   z7 (gI z27 9)    ) (fun z38 hz38 => ?_)
                        refine wp_bd (s_X0_add  12 400 o_me_code (1 : Int32) z38  hI_me_code  ) (fun z39 hz39 => ?_)
                        obtain ⟨hz39_0, hz39_1, hz39_2⟩ := hz39
                        have hkpz39_me_code : Kp [7] [1] [] o_me_code z39.2 := Kp.rf.trans (hz39_2.mono (by decide) (by decide) (by decide))
                        have t41 := igX6_8 hz27_0
                        refine wp_bd (s_X6_step   z27  hz27_0  (by omega)) (fun z40 hz40 => ?_)
                        obtain ⟨hz40_0, hz40_1, hz40_2⟩ := hz40
                        have hkpz40_me : Kp [2, 4] [0] [] o_me z40 := hkpz27_me.trans (hz40_1.mono (by decide) (by decide) (by decide))
                        have kz40_k42 : (gI z40 2).toInt = (gI z27 2).toInt := congrArg Int32.toInt (hz40_1.1 2 (by decide))
                        have kz40_k43 : (gI z40 4).toInt = (gI z27 4).toInt := congrArg Int32.toInt (hz40_1.1 4 (by decide))
                        have kz40_k44 : (gI z40 5).toInt = (gI z27 5).toInt := congrArg Int32.toInt (hz40_1.1 5 (by decide))
                        refine wp_some ?_
                        have t45 := igX6_8 hz40_0
                        exact (show (0 ≤ (1 : Int32).toInt ∧ (1 : Int32).toInt ≤ 1) ∧ IvX6 z40 ∧ Kp [2, 4] [0] [] o_me z40 ∧ IvX0 12 400 z39.2 ∧ Kp [7] [1] [] o_me_code z39.2 ∧ ((gI z40 8).toInt ≤ (gI z40 2).toInt + 0) from ⟨⟨by decide, by decide⟩, hz40_0, hkpz40_me, hz39_1, hkpz39_me_code, (by omega)⟩)
                      · have c37 := cv_nlt (a := (gI z27 9).toInt) (b := 7) rfl (by decide) c37
                        unfold bk_X6_readSinglePart_144
                        refine wp_bd (s_X6_stop   z27  hz27_0  ) (fun z46 hz46 => ?_)
                        obtain ⟨hz46_0, hz46_1, hz46_2⟩ := hz46
                        have hkpz46_me : Kp [2, 4] [0] [] o_me z46.2 := hkpz27_me.trans (hz46_2.mono (by decide) (by decide) (by decide))
                        have kz46_k47 : (gI z46.2 2).toInt = (gI z27 2).toInt := congrArg Int32.toInt (hz46_2.1 2 (by decide))
                        have kz46_k48 : (gI z46.2 4).toInt = (gI z27 4).toInt := congrArg Int32.toInt (hz46_2.1 4 (by decide))
                        have kz46_k49 : (gI z46.2 5).toInt = (gI z27 5).toInt := congrArg Int32.toInt (hz46_2.1 5 (by decide))
                        have kz46_k50 : (gI z46.2 6).toInt = (gI z27 6).toInt := congrArg Int32.toInt (hz46_2.1 6 (by decide))
                        have kz46_k51 : (gI z46.2 8).toInt = (gI z27 8).toInt := congrArg Int32.toInt (hz46_2.1 8 (by decide))
                        refine wp_gd (zbo_of (by omega) (by omega)) ?_
                        refine wp_some ?_
                        have t52 := igX6_8 hz46_1
                        exact (show (0 ≤ z46.1.toInt ∧ z46.1.toInt ≤ 1) ∧ IvX6 z46.2 ∧ Kp [2, 4] [0] [] o_me z46.2 ∧ IvX0 12 400 o_me_code ∧ Kp [7] [1] [] o_me_code o_me_code ∧ ((gI z46.2 8).toInt ≤ (gI z46.2 2).toInt + 0) from ⟨⟨by omega, by omega⟩, hz46_1, hkpz46_me, hI_me_code, Kp.rf, (by omega)⟩)
                    · have c36 := cv_ne (a := (gI z27 6).toInt) (b := 2) rfl (by decide) c36
                      unfold bk_X6_readSinglePart_144
                      refine wp_bd (s_X6_stop   z27  hz27_0  ) (fun z53 hz53 => ?_)
                      obtain ⟨hz53_0, hz53_1, hz53_2⟩ := hz53
                      have hkpz53_me : Kp [2, 4] [0] [] o_me z53.2 := hkpz27_me.trans (hz53_2.mono (by decide) (by decide) (by decide))
                      have kz53_k54 : (gI z53.2 2).toInt = (gI z27 2).toInt := congrArg Int32.toInt (hz53_2.1 2 (by decide))
                      have kz53_k55 : (gI z53.2 4).toInt = (gI z27 4).toInt := congrArg Int32.toInt (hz53_2.1 4 (by decide))
                      have kz53_k56 : (gI z53.2 5).toInt = (gI z27 5).toInt := congrArg Int32.toInt (hz53_2.1 5 (by decide))
                      have kz53_k57 : (gI z53.2 6).toInt = (gI z27 6).toInt := congrArg Int32.toInt (hz53_2.1 6 (by decide))
                      have kz53_k58 : (gI z53.2 8).toInt = (gI z27 8).toInt := congrArg Int32.toInt (hz53_2.1 8 (by decide))
                      refine wp_gd (zbo_of (by omega) (by omega)) ?_
                      refine wp_some ?_
                      have t59 := igX6_8 hz53_1
                      exact (show (0 ≤ z53.1.toInt ∧ z53.1.toInt ≤ 1) ∧ IvX6 z53.2 ∧ Kp [2, 4] [0] [] o_me z53.2 ∧ IvX0 12 400 o_me_code ∧ Kp [7] [1] [] o_me_code o_me_code ∧ ((gI z53.2 8).toInt ≤ (gI z53.2 2).toInt + 0) from ⟨⟨by omega, by omega⟩, hz53_1, hkpz53_me, hI_me_code, Kp.rf, (by omega)⟩)
                  · have c34 := cv_nge (a := z7.toInt) (b := 5) rfl (by decide) c34
                    unfold bk_X6_readSinglePart_115
                    refine wp_bd (s_X0_add  12 400 o_me_code (1 : Int32) z7  hI_me_code  ) (fun z60 hz60 => ?_)
                    obtain ⟨hz60_0, hz60_1, hz60_2⟩ := hz60
                    have hkpz60_me_code : Kp [7] [1] [] o_me_code z60.2 := Kp.rf.trans (hz60_2.mono (by decide) (by decide) (by decide))
                    refine wp_some ?_
                    have t61 := igX6_8 hz27_0
                    exact (show (0 ≤ (1 : Int32).toInt ∧ (1 : Int32).toInt ≤ 1) ∧ IvX6 z27 ∧ Kp [2, 4] [0] [] o_me z27 ∧ IvX0 12 400 z60.2 ∧ Kp [7] [1] [] o_me_code z60.2 ∧ ((gI z27 8).toInt ≤ (gI z27 2).toInt + 0) from ⟨⟨by decide, by decide⟩, hz27_0, hkpz27_me, hz60_1, hkpz60_me_code, (by omega)⟩)
                · have c33z := c33
                  have c33 := cv_ne (a := (gI z27 4).toInt) (b := 0) rfl (by decide) c33
                  exfalso; omega
              · have c26z := c26
                have c26 := cv_ne (a := w4.toInt) (b := 0) rfl (by decide) c26
                exfalso; omega
            · have c18 := cv_nlt (a := (gI o_me 5).toInt) (b := 50) rfl (by decide) c18
              unfold bk_X6_readSinglePart_61
              refine wp_bd (s_X6_stop   o_me  hI_me  ) (fun z62 hz62 => ?_)
              obtain ⟨hz62_0, hz62_1, hz62_2⟩ := hz62
              have hkpz62_me : Kp [2, 4] [0] [] o_me z62.2 := Kp.rf.trans (hz62_2.mono (by decide) (by decide) (by decide))
              have kz62_k63 : (gI z62.2 2).toInt = (gI o_me 2).toInt := congrArg Int32.toInt (hz62_2.1 2 (by decide))
              have kz62_k64 : (gI z62.2 4).toInt = (gI o_me 4).toInt := congrArg Int32.toInt (hz62_2.1 4 (by decide))
              have kz62_k65 : (gI z62.2 5).toInt = (gI o_me 5).toInt := congrArg Int32.toInt (hz62_2.1 5 (by decide))
              have kz62_k66 : (gI z62.2 6).toInt = (gI o_me 6).toInt := congrArg Int32.toInt (hz62_2.1 6 (by decide))
              have kz62_k67 : (gI z62.2 8).toInt = (gI o_me 8).toInt := congrArg Int32.toInt (hz62_2.1 8 (by decide))
              refine wp_gd (zbo_of (by omega) (by omega)) ?_
              refine wp_some ?_
              have t68 := igX6_8 hz62_1
              have t69 := igX6_2 hz62_1
              exact (show (0 ≤ z62.1.toInt ∧ z62.1.toInt ≤ 1) ∧ IvX6 z62.2 ∧ Kp [2, 4] [0] [] o_me z62.2 ∧ IvX0 12 400 o_me_code ∧ Kp [7] [1] [] o_me_code o_me_code ∧ ((gI z62.2 8).toInt ≤ (gI z62.2 2).toInt + 0) from ⟨⟨by omega, by omega⟩, hz62_1, hkpz62_me, hI_me_code, Kp.rf, (by omega)⟩)
        · have c8z := c8
          have c8 := cv_ne (a := w4.toInt) (b := 0) rfl (by decide) c8
          exfalso; omega
      · have c6z := c6
        have c6 := cv_ne (a := (gI o_me 4).toInt) (b := 0) rfl (by decide) c6
        unfold bk_X6_readSinglePart_39
        refine wp_bd (s_X6_wordOf   o_me 7  hI_me (by decide) ) (fun z70 hz70 => ?_)
        refine wp_if (fun c71 => ?_) (fun c71 => ?_)
        · have c71 := cv_eq (a := w4.toInt) (b := 0) rfl (by decide) c71
          refine wp_if (fun c72 => ?_) (fun c72 => ?_)
          · have c72 := cv_eq (a := z70.toInt) (b := (-1)) rfl (by decide) c72
            unfold bk_X6_readSinglePart_61
            refine wp_bd (s_X6_stop   o_me  hI_me  ) (fun z73 hz73 => ?_)
            obtain ⟨hz73_0, hz73_1, hz73_2⟩ := hz73
            have hkpz73_me : Kp [2, 4] [0] [] o_me z73.2 := Kp.rf.trans (hz73_2.mono (by decide) (by decide) (by decide))
            have kz73_k74 : (gI z73.2 2).toInt = (gI o_me 2).toInt := congrArg Int32.toInt (hz73_2.1 2 (by decide))
            have kz73_k75 : (gI z73.2 4).toInt = (gI o_me 4).toInt := congrArg Int32.toInt (hz73_2.1 4 (by decide))
            have kz73_k76 : (gI z73.2 6).toInt = (gI o_me 6).toInt := congrArg Int32.toInt (hz73_2.1 6 (by decide))
            have kz73_k77 : (gI z73.2 8).toInt = (gI o_me 8).toInt := congrArg Int32.toInt (hz73_2.1 8 (by decide))
            refine wp_gd (zbo_of (by omega) (by omega)) ?_
            refine wp_some ?_
            have t78 := igX6_8 hz73_1
            have t79 := igX6_2 hz73_1
            exact (show (0 ≤ z73.1.toInt ∧ z73.1.toInt ≤ 1) ∧ IvX6 z73.2 ∧ Kp [2, 4] [0] [] o_me z73.2 ∧ IvX0 12 400 o_me_code ∧ Kp [7] [1] [] o_me_code o_me_code ∧ ((gI z73.2 8).toInt ≤ (gI z73.2 2).toInt + 0) from ⟨⟨by omega, by omega⟩, hz73_1, hkpz73_me, hI_me_code, Kp.rf, (by omega)⟩)
          · have c72 := cv_ne (a := z70.toInt) (b := (-1)) rfl (by decide) c72
            unfold bk_X6_readSinglePart_52
            have t80 := igX6_5 hI_me
            refine wp_if (fun c81 => ?_) (fun c81 => ?_)
            · have c81 := cv_lt (a := (gI o_me 5).toInt) (b := 50) rfl (by decide) c81
              have t82 : ((gI o_me 5) + (1 : Int32)).toInt = (gI o_me 5).toInt + 1 := i32_add rfl (by decide) (by omega) (by omega)
              refine wp_lt (fun o83 eo83 => ?_)
              have hIo83 : IvX6 o83 := by rw [eo83]; exact ipX6_5 hI_me ⟨by omega, by omega⟩
              have ko83_k84 : (gI o83 2).toInt = (gI o_me 2).toInt := by rw [eo83]; rfl
              have ko83_k85 : (gI o83 4).toInt = (gI o_me 4).toInt := by rw [eo83]; rfl
              have ko83_k86 : (gI o83 6).toInt = (gI o_me 6).toInt := by rw [eo83]; rfl
              have ko83_k87 : (gI o83 8).toInt = (gI o_me 8).toInt := by rw [eo83]; rfl
              have ko83_k88 : (gI o83 9).toInt = (gI o_me 9).toInt := by rw [eo83]; rfl
              have ko83_v : (gI o83 5).toInt = ((gI o_me 5) + (1 : Int32)).toInt := by rw [eo83]; rfl
              have hkpo83 : Kp [2, 4] [0] [] o_me o83 := Kp.rf.trans (by rw [eo83]; exact Kp.sI (by decide))
              refine wp_if (fun c89 => ?_) (fun c89 => ?_)
              · have c89 := cv_eq (a := w4.toInt) (b := 0) rfl (by decide) c89
                have t91 := igX6_8 hIo83
                have t92 := igX6_2 hIo83
                refine wp_bd (s_X6_step   o83  hIo83  (by omega)) (fun z90 hz90 => ?_)
                obtain ⟨hz90_0, hz90_1, hz90_2⟩ := hz90
                have hkpz90_me : Kp [2, 4] [0] [] o_me z90 := hkpo83.trans (hz90_1.mono (by decide) (by decide) (by decide))
                have kz90_k93 : (gI z90 2).toInt = (gI o83 2).toInt := congrArg Int32.toInt (hz90_1.1 2 (by decide))
                have kz90_k94 : (gI z90 4).toInt = (gI o83 4).toInt := congrArg Int32.toInt (hz90_1.1 4 (by decide))
                have kz90_k95 : (gI z90 5).toInt = (gI o83 5).toInt := congrArg Int32.toInt (hz90_1.1 5 (by decide))
                refine wp_if (fun c96 => ?_) (fun c96 => ?_)
                · have c96 := cv_eq (a := (gI z90 4).toInt) (b := 0) rfl (by decide) c96
                  exfalso; omega
                · have c96z := c96
                  have c96 := cv_ne (a := (gI z90 4).toInt) (b := 0) rfl (by decide) c96
                  unfold bk_X6_readSinglePart_115
                  refine wp_bd (s_X0_add  12 400 o_me_code (1 : Int32) z70  hI_me_code  ) (fun z97 hz97 => ?_)
                  obtain ⟨hz97_0, hz97_1, hz97_2⟩ := hz97
                  have hkpz97_me_code : Kp [7] [1] [] o_me_code z97.2 := Kp.rf.trans (hz97_2.mono (by decide) (by decide) (by decide))
                  refine wp_some ?_
                  have t98 := igX6_8 hz90_0
                  exact (show (0 ≤ (1 : Int32).toInt ∧ (1 : Int32).toInt ≤ 1) ∧ IvX6 z90 ∧ Kp [2, 4] [0] [] o_me z90 ∧ IvX0 12 400 z97.2 ∧ Kp [7] [1] [] o_me_code z97.2 ∧ ((gI z90 8).toInt ≤ (gI z90 2).toInt + 0) from ⟨⟨by decide, by decide⟩, hz90_0, hkpz90_me, hz97_1, hkpz97_me_code, (by omega)⟩)
              · have c89z := c89
                have c89 := cv_ne (a := w4.toInt) (b := 0) rfl (by decide) c89
                exfalso; omega
            · have c81 := cv_nlt (a := (gI o_me 5).toInt) (b := 50) rfl (by decide) c81
              unfold bk_X6_readSinglePart_61
              refine wp_bd (s_X6_stop   o_me  hI_me  ) (fun z99 hz99 => ?_)
              obtain ⟨hz99_0, hz99_1, hz99_2⟩ := hz99
              have hkpz99_me : Kp [2, 4] [0] [] o_me z99.2 := Kp.rf.trans (hz99_2.mono (by decide) (by decide) (by decide))
              have kz99_k100 : (gI z99.2 2).toInt = (gI o_me 2).toInt := congrArg Int32.toInt (hz99_2.1 2 (by decide))
              have kz99_k101 : (gI z99.2 4).toInt = (gI o_me 4).toInt := congrArg Int32.toInt (hz99_2.1 4 (by decide))
              have kz99_k102 : (gI z99.2 5).toInt = (gI o_me 5).toInt := congrArg Int32.toInt (hz99_2.1 5 (by decide))
              have kz99_k103 : (gI z99.2 6).toInt = (gI o_me 6).toInt := congrArg Int32.toInt (hz99_2.1 6 (by decide))
              have kz99_k104 : (gI z99.2 8).toInt = (gI o_me 8).toInt := congrArg Int32.toInt (hz99_2.1 8 (by decide))
              refine wp_gd (zbo_of (by omega) (by omega)) ?_
              refine wp_some ?_
              have t105 := igX6_8 hz99_1
              have t106 := igX6_2 hz99_1
              exact (show (0 ≤ z99.1.toInt ∧ z99.1.toInt ≤ 1) ∧ IvX6 z99.2 ∧ Kp [2, 4] [0] [] o_me z99.2 ∧ IvX0 12 400 o_me_code ∧ Kp [7] [1] [] o_me_code o_me_code ∧ ((gI z99.2 8).toInt ≤ (gI z99.2 2).toInt + 0) from ⟨⟨by omega, by omega⟩, hz99_1, hkpz99_me, hI_me_code, Kp.rf, (by omega)⟩)
        · have c71z := c71
          have c71 := cv_ne (a := w4.toInt) (b := 0) rfl (by decide) c71
          exfalso; omega
    · have c3 := cv_ngt (a := (gI o_me 9).toInt) (b := 1000) rfl (by decide) c3
      obtain ⟨w107, ew107⟩ : ∃ z : Int32, z = (1 : Int32) := ⟨_, rfl⟩
      have tw107 : w107.toInt = 1 := by rw [ew107]; decide
      rw [show bk_X6_readSinglePart_23 12 400  (1 : Int32) o_me o_me_code = bk_X6_readSinglePart_23 12 400  w107 o_me o_me_code from by rw [ew107]]
      unfold bk_X6_readSinglePart_23
      have t108 := igX6_4 hI_me
      refine wp_if (fun c109 => ?_) (fun c109 => ?_)
      · have c109 := cv_eq (a := (gI o_me 4).toInt) (b := 0) rfl (by decide) c109
        unfold bk_X6_readSinglePart_39
        refine wp_bd (s_X6_wordOf   o_me 8  hI_me (by decide) ) (fun z110 hz110 => ?_)
        refine wp_if (fun c111 => ?_) (fun c111 => ?_)
        · have c111 := cv_eq (a := w107.toInt) (b := 0) rfl (by decide) c111
          exfalso; omega
        · have c111z := c111
          have c111 := cv_ne (a := w107.toInt) (b := 0) rfl (by decide) c111
          unfold bk_X6_readSinglePart_52
          have t112 := igX6_5 hI_me
          refine wp_if (fun c113 => ?_) (fun c113 => ?_)
          · have c113 := cv_lt (a := (gI o_me 5).toInt) (b := 50) rfl (by decide) c113
            have t114 : ((gI o_me 5) + (1 : Int32)).toInt = (gI o_me 5).toInt + 1 := i32_add rfl (by decide) (by omega) (by omega)
            refine wp_lt (fun o115 eo115 => ?_)
            have hIo115 : IvX6 o115 := by rw [eo115]; exact ipX6_5 hI_me ⟨by omega, by omega⟩
            have ko115_k116 : (gI o115 2).toInt = (gI o_me 2).toInt := by rw [eo115]; rfl
            have ko115_k117 : (gI o115 4).toInt = (gI o_me 4).toInt := by rw [eo115]; rfl
            have ko115_k118 : (gI o115 6).toInt = (gI o_me 6).toInt := by rw [eo115]; rfl
            have ko115_k119 : (gI o115 8).toInt = (gI o_me 8).toInt := by rw [eo115]; rfl
            have ko115_k120 : (gI o115 9).toInt = (gI o_me 9).toInt := by rw [eo115]; rfl
            have ko115_v : (gI o115 5).toInt = ((gI o_me 5) + (1 : Int32)).toInt := by rw [eo115]; rfl
            have hkpo115 : Kp [2, 4] [0] [] o_me o115 := Kp.rf.trans (by rw [eo115]; exact Kp.sI (by decide))
            refine wp_if (fun c121 => ?_) (fun c121 => ?_)
            · have c121 := cv_eq (a := w107.toInt) (b := 0) rfl (by decide) c121
              exfalso; omega
            · have c121z := c121
              have c121 := cv_ne (a := w107.toInt) (b := 0) rfl (by decide) c121
              refine wp_bd (s_X0_add  12 400 o_me_code (0 : Int32) (gI o115 9)  hI_me_code  ) (fun z122 hz122 => ?_)
              obtain ⟨hz122_0, hz122_1, hz122_2⟩ := hz122
              have hkpz122_me_code : Kp [7] [1] [] o_me_code z122.2 := Kp.rf.trans (hz122_2.mono (by decide) (by decide) (by decide))
              have t124 := igX6_8 hIo115
              have t125 := igX6_2 hIo115
              refine wp_bd (s_X6_step   o115  hIo115  (by omega)) (fun z123 hz123 => ?_)
              obtain ⟨hz123_0, hz123_1, hz123_2⟩ := hz123
              have hkpz123_me : Kp [2, 4] [0] [] o_me z123 := hkpo115.trans (hz123_1.mono (by decide) (by decide) (by decide))
              have kz123_k126 : (gI z123 2).toInt = (gI o115 2).toInt := congrArg Int32.toInt (hz123_1.1 2 (by decide))
              have kz123_k127 : (gI z123 4).toInt = (gI o115 4).toInt := congrArg Int32.toInt (hz123_1.1 4 (by decide))
              have kz123_k128 : (gI z123 5).toInt = (gI o115 5).toInt := congrArg Int32.toInt (hz123_1.1 5 (by decide))
              refine wp_some ?_
              have t129 := igX6_8 hz123_0
              exact (show (0 ≤ (1 : Int32).toInt ∧ (1 : Int32).toInt ≤ 1) ∧ IvX6 z123 ∧ Kp [2, 4] [0] [] o_me z123 ∧ IvX0 12 400 z122.2 ∧ Kp [7] [1] [] o_me_code z122.2 ∧ ((gI z123 8).toInt ≤ (gI z123 2).toInt + 0) from ⟨⟨by decide, by decide⟩, hz123_0, hkpz123_me, hz122_1, hkpz122_me_code, (by omega)⟩)
          · have c113 := cv_nlt (a := (gI o_me 5).toInt) (b := 50) rfl (by decide) c113
            unfold bk_X6_readSinglePart_61
            refine wp_bd (s_X6_stop   o_me  hI_me  ) (fun z130 hz130 => ?_)
            obtain ⟨hz130_0, hz130_1, hz130_2⟩ := hz130
            have hkpz130_me : Kp [2, 4] [0] [] o_me z130.2 := Kp.rf.trans (hz130_2.mono (by decide) (by decide) (by decide))
            have kz130_k131 : (gI z130.2 2).toInt = (gI o_me 2).toInt := congrArg Int32.toInt (hz130_2.1 2 (by decide))
            have kz130_k132 : (gI z130.2 4).toInt = (gI o_me 4).toInt := congrArg Int32.toInt (hz130_2.1 4 (by decide))
            have kz130_k133 : (gI z130.2 5).toInt = (gI o_me 5).toInt := congrArg Int32.toInt (hz130_2.1 5 (by decide))
            have kz130_k134 : (gI z130.2 6).toInt = (gI o_me 6).toInt := congrArg Int32.toInt (hz130_2.1 6 (by decide))
            have kz130_k135 : (gI z130.2 8).toInt = (gI o_me 8).toInt := congrArg Int32.toInt (hz130_2.1 8 (by decide))
            refine wp_gd (zbo_of (by omega) (by omega)) ?_
            refine wp_some ?_
            have t136 := igX6_8 hz130_1
            have t137 := igX6_2 hz130_1
            exact (show (0 ≤ z130.1.toInt ∧ z130.1.toInt ≤ 1) ∧ IvX6 z130.2 ∧ Kp [2, 4] [0] [] o_me z130.2 ∧ IvX0 12 400 o_me_code ∧ Kp [7] [1] [] o_me_code o_me_code ∧ ((gI z130.2 8).toInt ≤ (gI z130.2 2).toInt + 0) from ⟨⟨by omega, by omega⟩, hz130_1, hkpz130_me, hI_me_code, Kp.rf, (by omega)⟩)
      · have c109z := c109
        have c109 := cv_ne (a := (gI o_me 4).toInt) (b := 0) rfl (by decide) c109
        unfold bk_X6_readSinglePart_39
        refine wp_bd (s_X6_wordOf   o_me 7  hI_me (by decide) ) (fun z138 hz138 => ?_)
        refine wp_if (fun c139 => ?_) (fun c139 => ?_)
        · have c139 := cv_eq (a := w107.toInt) (b := 0) rfl (by decide) c139
          exfalso; omega
        · have c139z := c139
          have c139 := cv_ne (a := w107.toInt) (b := 0) rfl (by decide) c139
          unfold bk_X6_readSinglePart_52
          have t140 := igX6_5 hI_me
          refine wp_if (fun c141 => ?_) (fun c141 => ?_)
          · have c141 := cv_lt (a := (gI o_me 5).toInt) (b := 50) rfl (by decide) c141
            have t142 : ((gI o_me 5) + (1 : Int32)).toInt = (gI o_me 5).toInt + 1 := i32_add rfl (by decide) (by omega) (by omega)
            refine wp_lt (fun o143 eo143 => ?_)
            have hIo143 : IvX6 o143 := by rw [eo143]; exact ipX6_5 hI_me ⟨by omega, by omega⟩
            have ko143_k144 : (gI o143 2).toInt = (gI o_me 2).toInt := by rw [eo143]; rfl
            have ko143_k145 : (gI o143 4).toInt = (gI o_me 4).toInt := by rw [eo143]; rfl
            have ko143_k146 : (gI o143 6).toInt = (gI o_me 6).toInt := by rw [eo143]; rfl
            have ko143_k147 : (gI o143 8).toInt = (gI o_me 8).toInt := by rw [eo143]; rfl
            have ko143_k148 : (gI o143 9).toInt = (gI o_me 9).toInt := by rw [eo143]; rfl
            have ko143_v : (gI o143 5).toInt = ((gI o_me 5) + (1 : Int32)).toInt := by rw [eo143]; rfl
            have hkpo143 : Kp [2, 4] [0] [] o_me o143 := Kp.rf.trans (by rw [eo143]; exact Kp.sI (by decide))
            refine wp_if (fun c149 => ?_) (fun c149 => ?_)
            · have c149 := cv_eq (a := w107.toInt) (b := 0) rfl (by decide) c149
              exfalso; omega
            · have c149z := c149
              have c149 := cv_ne (a := w107.toInt) (b := 0) rfl (by decide) c149
              refine wp_bd (s_X0_add  12 400 o_me_code (0 : Int32) (gI o143 9)  hI_me_code  ) (fun z150 hz150 => ?_)
              obtain ⟨hz150_0, hz150_1, hz150_2⟩ := hz150
              have hkpz150_me_code : Kp [7] [1] [] o_me_code z150.2 := Kp.rf.trans (hz150_2.mono (by decide) (by decide) (by decide))
              have t152 := igX6_8 hIo143
              have t153 := igX6_2 hIo143
              refine wp_bd (s_X6_step   o143  hIo143  (by omega)) (fun z151 hz151 => ?_)
              obtain ⟨hz151_0, hz151_1, hz151_2⟩ := hz151
              have hkpz151_me : Kp [2, 4] [0] [] o_me z151 := hkpo143.trans (hz151_1.mono (by decide) (by decide) (by decide))
              have kz151_k154 : (gI z151 2).toInt = (gI o143 2).toInt := congrArg Int32.toInt (hz151_1.1 2 (by decide))
              have kz151_k155 : (gI z151 4).toInt = (gI o143 4).toInt := congrArg Int32.toInt (hz151_1.1 4 (by decide))
              have kz151_k156 : (gI z151 5).toInt = (gI o143 5).toInt := congrArg Int32.toInt (hz151_1.1 5 (by decide))
              refine wp_some ?_
              have t157 := igX6_8 hz151_0
              exact (show (0 ≤ (1 : Int32).toInt ∧ (1 : Int32).toInt ≤ 1) ∧ IvX6 z151 ∧ Kp [2, 4] [0] [] o_me z151 ∧ IvX0 12 400 z150.2 ∧ Kp [7] [1] [] o_me_code z150.2 ∧ ((gI z151 8).toInt ≤ (gI z151 2).toInt + 0) from ⟨⟨by decide, by decide⟩, hz151_0, hkpz151_me, hz150_1, hkpz150_me_code, (by omega)⟩)
          · have c141 := cv_nlt (a := (gI o_me 5).toInt) (b := 50) rfl (by decide) c141
            unfold bk_X6_readSinglePart_61
            refine wp_bd (s_X6_stop   o_me  hI_me  ) (fun z158 hz158 => ?_)
            obtain ⟨hz158_0, hz158_1, hz158_2⟩ := hz158
            have hkpz158_me : Kp [2, 4] [0] [] o_me z158.2 := Kp.rf.trans (hz158_2.mono (by decide) (by decide) (by decide))
            have kz158_k159 : (gI z158.2 2).toInt = (gI o_me 2).toInt := congrArg Int32.toInt (hz158_2.1 2 (by decide))
            have kz158_k160 : (gI z158.2 4).toInt = (gI o_me 4).toInt := congrArg Int32.toInt (hz158_2.1 4 (by decide))
            have kz158_k161 : (gI z158.2 5).toInt = (gI o_me 5).toInt := congrArg Int32.toInt (hz158_2.1 5 (by decide))
            have kz158_k162 : (gI z158.2 6).toInt = (gI o_me 6).toInt := congrArg Int32.toInt (hz158_2.1 6 (by decide))
            have kz158_k163 : (gI z158.2 8).toInt = (gI o_me 8).toInt := congrArg Int32.toInt (hz158_2.1 8 (by decide))
            refine wp_gd (zbo_of (by omega) (by omega)) ?_
            refine wp_some ?_
            have t164 := igX6_8 hz158_1
            have t165 := igX6_2 hz158_1
            exact (show (0 ≤ z158.1.toInt ∧ z158.1.toInt ≤ 1) ∧ IvX6 z158.2 ∧ Kp [2, 4] [0] [] o_me z158.2 ∧ IvX0 12 400 o_me_code ∧ Kp [7] [1] [] o_me_code o_me_code ∧ ((gI z158.2 8).toInt ≤ (gI z158.2 2).toInt + 0) from ⟨⟨by omega, by omega⟩, hz158_1, hkpz158_me, hI_me_code, Kp.rf, (by omega)⟩)
  · have c2 := cv_ne (a := (gI o_me 6).toInt) (b := 2) rfl (by decide) c2
    unfold bk_X6_readSinglePart_22
    obtain ⟨w166, ew166⟩ : ∃ z : Int32, z = (0 : Int32) := ⟨_, rfl⟩
    have tw166 : w166.toInt = 0 := by rw [ew166]; decide
    rw [show bk_X6_readSinglePart_23 12 400  (0 : Int32) o_me o_me_code = bk_X6_readSinglePart_23 12 400  w166 o_me o_me_code from by rw [ew166]]
    unfold bk_X6_readSinglePart_23
    have t167 := igX6_4 hI_me
    refine wp_if (fun c168 => ?_) (fun c168 => ?_)
    · have c168 := cv_eq (a := (gI o_me 4).toInt) (b := 0) rfl (by decide) c168
      unfold bk_X6_readSinglePart_39
      refine wp_bd (s_X6_wordOf   o_me 8  hI_me (by decide) ) (fun z169 hz169 => ?_)
      refine wp_if (fun c170 => ?_) (fun c170 => ?_)
      · have c170 := cv_eq (a := w166.toInt) (b := 0) rfl (by decide) c170
        refine wp_if (fun c171 => ?_) (fun c171 => ?_)
        · have c171 := cv_eq (a := z169.toInt) (b := (-1)) rfl (by decide) c171
          unfold bk_X6_readSinglePart_61
          refine wp_bd (s_X6_stop   o_me  hI_me  ) (fun z172 hz172 => ?_)
          obtain ⟨hz172_0, hz172_1, hz172_2⟩ := hz172
          have hkpz172_me : Kp [2, 4] [0] [] o_me z172.2 := Kp.rf.trans (hz172_2.mono (by decide) (by decide) (by decide))
          have kz172_k173 : (gI z172.2 2).toInt = (gI o_me 2).toInt := congrArg Int32.toInt (hz172_2.1 2 (by decide))
          have kz172_k174 : (gI z172.2 4).toInt = (gI o_me 4).toInt := congrArg Int32.toInt (hz172_2.1 4 (by decide))
          have kz172_k175 : (gI z172.2 6).toInt = (gI o_me 6).toInt := congrArg Int32.toInt (hz172_2.1 6 (by decide))
          have kz172_k176 : (gI z172.2 8).toInt = (gI o_me 8).toInt := congrArg Int32.toInt (hz172_2.1 8 (by decide))
          refine wp_gd (zbo_of (by omega) (by omega)) ?_
          refine wp_some ?_
          have t177 := igX6_8 hz172_1
          have t178 := igX6_2 hz172_1
          exact (show (0 ≤ z172.1.toInt ∧ z172.1.toInt ≤ 1) ∧ IvX6 z172.2 ∧ Kp [2, 4] [0] [] o_me z172.2 ∧ IvX0 12 400 o_me_code ∧ Kp [7] [1] [] o_me_code o_me_code ∧ ((gI z172.2 8).toInt ≤ (gI z172.2 2).toInt + 0) from ⟨⟨by omega, by omega⟩, hz172_1, hkpz172_me, hI_me_code, Kp.rf, (by omega)⟩)
        · have c171 := cv_ne (a := z169.toInt) (b := (-1)) rfl (by decide) c171
          unfold bk_X6_readSinglePart_52
          have t179 := igX6_5 hI_me
          refine wp_if (fun c180 => ?_) (fun c180 => ?_)
          · have c180 := cv_lt (a := (gI o_me 5).toInt) (b := 50) rfl (by decide) c180
            have t181 : ((gI o_me 5) + (1 : Int32)).toInt = (gI o_me 5).toInt + 1 := i32_add rfl (by decide) (by omega) (by omega)
            refine wp_lt (fun o182 eo182 => ?_)
            have hIo182 : IvX6 o182 := by rw [eo182]; exact ipX6_5 hI_me ⟨by omega, by omega⟩
            have ko182_k183 : (gI o182 2).toInt = (gI o_me 2).toInt := by rw [eo182]; rfl
            have ko182_k184 : (gI o182 4).toInt = (gI o_me 4).toInt := by rw [eo182]; rfl
            have ko182_k185 : (gI o182 6).toInt = (gI o_me 6).toInt := by rw [eo182]; rfl
            have ko182_k186 : (gI o182 8).toInt = (gI o_me 8).toInt := by rw [eo182]; rfl
            have ko182_v : (gI o182 5).toInt = ((gI o_me 5) + (1 : Int32)).toInt := by rw [eo182]; rfl
            have hkpo182 : Kp [2, 4] [0] [] o_me o182 := Kp.rf.trans (by rw [eo182]; exact Kp.sI (by decide))
            refine wp_if (fun c187 => ?_) (fun c187 => ?_)
            · have c187 := cv_eq (a := w166.toInt) (b := 0) rfl (by decide) c187
              have t189 := igX6_8 hIo182
              have t190 := igX6_2 hIo182
              refine wp_bd (s_X6_step   o182  hIo182  (by omega)) (fun z188 hz188 => ?_)
              obtain ⟨hz188_0, hz188_1, hz188_2⟩ := hz188
              have hkpz188_me : Kp [2, 4] [0] [] o_me z188 := hkpo182.trans (hz188_1.mono (by decide) (by decide) (by decide))
              have kz188_k191 : (gI z188 2).toInt = (gI o182 2).toInt := congrArg Int32.toInt (hz188_1.1 2 (by decide))
              have kz188_k192 : (gI z188 4).toInt = (gI o182 4).toInt := congrArg Int32.toInt (hz188_1.1 4 (by decide))
              have kz188_k193 : (gI z188 5).toInt = (gI o182 5).toInt := congrArg Int32.toInt (hz188_1.1 5 (by decide))
              refine wp_if (fun c194 => ?_) (fun c194 => ?_)
              · have c194 := cv_eq (a := (gI z188 4).toInt) (b := 0) rfl (by decide) c194
                refine wp_if (fun c195 => ?_) (fun c195 => ?_)
                · have c195 := cv_ge (a := z169.toInt) (b := 5) rfl (by decide) c195
                  have t196 := igX6_6 hz188_0
                  refine wp_if (fun c197 => ?_) (fun c197 => ?_)
                  · have c197 := cv_eq (a := (gI z188 6).toInt) (b := 2) rfl (by decide) c197
                    refine wp_if (fun c198 => ?_) (fun c198 => ?_)
                    · have c198 := cv_lt (a := (gI z188 9).toInt) (b := 7) rfl (by decide) c198
                      refine wp_bd (s_X3_wordOfPerson   z169 (gI z188 9)    ) (fun z199 hz199 => ?_)
                      refine wp_bd (s_X0_add  12 400 o_me_code (1 : Int32) z199  hI_me_code  ) (fun z200 hz200 => ?_)
                      obtain ⟨hz200_0, hz200_1, hz200_2⟩ := hz200
                      have hkpz200_me_code : Kp [7] [1] [] o_me_code z200.2 := Kp.rf.trans (hz200_2.mono (by decide) (by decide) (by decide))
                      have t202 := igX6_8 hz188_0
                      refine wp_bd (s_X6_step   z188  hz188_0  (by omega)) (fun z201 hz201 => ?_)
                      obtain ⟨hz201_0, hz201_1, hz201_2⟩ := hz201
                      have hkpz201_me : Kp [2, 4] [0] [] o_me z201 := hkpz188_me.trans (hz201_1.mono (by decide) (by decide) (by decide))
                      have kz201_k203 : (gI z201 2).toInt = (gI z188 2).toInt := congrArg Int32.toInt (hz201_1.1 2 (by decide))
                      have kz201_k204 : (gI z201 4).toInt = (gI z188 4).toInt := congrArg Int32.toInt (hz201_1.1 4 (by decide))
                      have kz201_k205 : (gI z201 5).toInt = (gI z188 5).toInt := congrArg Int32.toInt (hz201_1.1 5 (by decide))
                      refine wp_some ?_
                      have t206 := igX6_8 hz201_0
                      exact (show (0 ≤ (1 : Int32).toInt ∧ (1 : Int32).toInt ≤ 1) ∧ IvX6 z201 ∧ Kp [2, 4] [0] [] o_me z201 ∧ IvX0 12 400 z200.2 ∧ Kp [7] [1] [] o_me_code z200.2 ∧ ((gI z201 8).toInt ≤ (gI z201 2).toInt + 0) from ⟨⟨by decide, by decide⟩, hz201_0, hkpz201_me, hz200_1, hkpz200_me_code, (by omega)⟩)
                    · have c198 := cv_nlt (a := (gI z188 9).toInt) (b := 7) rfl (by decide) c198
                      unfold bk_X6_readSinglePart_144
                      refine wp_bd (s_X6_stop   z188  hz188_0  ) (fun z207 hz207 => ?_)
                      obtain ⟨hz207_0, hz207_1, hz207_2⟩ := hz207
                      have hkpz207_me : Kp [2, 4] [0] [] o_me z207.2 := hkpz188_me.trans (hz207_2.mono (by decide) (by decide) (by decide))
                      have kz207_k208 : (gI z207.2 2).toInt = (gI z188 2).toInt := congrArg Int32.toInt (hz207_2.1 2 (by decide))
                      have kz207_k209 : (gI z207.2 4).toInt = (gI z188 4).toInt := congrArg Int32.toInt (hz207_2.1 4 (by decide))
                      have kz207_k210 : (gI z207.2 5).toInt = (gI z188 5).toInt := congrArg Int32.toInt (hz207_2.1 5 (by decide))
                      have kz207_k211 : (gI z207.2 6).toInt = (gI z188 6).toInt := congrArg Int32.toInt (hz207_2.1 6 (by decide))
                      have kz207_k212 : (gI z207.2 8).toInt = (gI z188 8).toInt := congrArg Int32.toInt (hz207_2.1 8 (by decide))
                      refine wp_gd (zbo_of (by omega) (by omega)) ?_
                      refine wp_some ?_
                      have t213 := igX6_8 hz207_1
                      exact (show (0 ≤ z207.1.toInt ∧ z207.1.toInt ≤ 1) ∧ IvX6 z207.2 ∧ Kp [2, 4] [0] [] o_me z207.2 ∧ IvX0 12 400 o_me_code ∧ Kp [7] [1] [] o_me_code o_me_code ∧ ((gI z207.2 8).toInt ≤ (gI z207.2 2).toInt + 0) from ⟨⟨by omega, by omega⟩, hz207_1, hkpz207_me, hI_me_code, Kp.rf, (by omega)⟩)
                  · have c197 := cv_ne (a := (gI z188 6).toInt) (b := 2) rfl (by decide) c197
                    unfold bk_X6_readSinglePart_144
                    refine wp_bd (s_X6_stop   z188  hz188_0  ) (fun z214 hz214 => ?_)
                    obtain ⟨hz214_0, hz214_1, hz214_2⟩ := hz214
                    have hkpz214_me : Kp [2, 4] [0] [] o_me z214.2 := hkpz188_me.trans (hz214_2.mono (by decide) (by decide) (by decide))
                    have kz214_k215 : (gI z214.2 2).toInt = (gI z188 2).toInt := congrArg Int32.toInt (hz214_2.1 2 (by decide))
                    have kz214_k216 : (gI z214.2 4).toInt = (gI z188 4).toInt := congrArg Int32.toInt (hz214_2.1 4 (by decide))
                    have kz214_k217 : (gI z214.2 5).toInt = (gI z188 5).toInt := congrArg Int32.toInt (hz214_2.1 5 (by decide))
                    have kz214_k218 : (gI z214.2 6).toInt = (gI z188 6).toInt := congrArg Int32.toInt (hz214_2.1 6 (by decide))
                    have kz214_k219 : (gI z214.2 8).toInt = (gI z188 8).toInt := congrArg Int32.toInt (hz214_2.1 8 (by decide))
                    refine wp_gd (zbo_of (by omega) (by omega)) ?_
                    refine wp_some ?_
                    have t220 := igX6_8 hz214_1
                    exact (show (0 ≤ z214.1.toInt ∧ z214.1.toInt ≤ 1) ∧ IvX6 z214.2 ∧ Kp [2, 4] [0] [] o_me z214.2 ∧ IvX0 12 400 o_me_code ∧ Kp [7] [1] [] o_me_code o_me_code ∧ ((gI z214.2 8).toInt ≤ (gI z214.2 2).toInt + 0) from ⟨⟨by omega, by omega⟩, hz214_1, hkpz214_me, hI_me_code, Kp.rf, (by omega)⟩)
                · have c195 := cv_nge (a := z169.toInt) (b := 5) rfl (by decide) c195
                  unfold bk_X6_readSinglePart_115
                  refine wp_bd (s_X0_add  12 400 o_me_code (1 : Int32) z169  hI_me_code  ) (fun z221 hz221 => ?_)
                  obtain ⟨hz221_0, hz221_1, hz221_2⟩ := hz221
                  have hkpz221_me_code : Kp [7] [1] [] o_me_code z221.2 := Kp.rf.trans (hz221_2.mono (by decide) (by decide) (by decide))
                  refine wp_some ?_
                  have t222 := igX6_8 hz188_0
                  exact (show (0 ≤ (1 : Int32).toInt ∧ (1 : Int32).toInt ≤ 1) ∧ IvX6 z188 ∧ Kp [2, 4] [0] [] o_me z188 ∧ IvX0 12 400 z221.2 ∧ Kp [7] [1] [] o_me_code z221.2 ∧ ((gI z188 8).toInt ≤ (gI z188 2).toInt + 0) from ⟨⟨by decide, by decide⟩, hz188_0, hkpz188_me, hz221_1, hkpz221_me_code, (by omega)⟩)
              · have c194z := c194
                have c194 := cv_ne (a := (gI z188 4).toInt) (b := 0) rfl (by decide) c194
                exfalso; omega
            · have c187z := c187
              have c187 := cv_ne (a := w166.toInt) (b := 0) rfl (by decide) c187
              exfalso; omega
          · have c180 := cv_nlt (a := (gI o_me 5).toInt) (b := 50) rfl (by decide) c180
            unfold bk_X6_readSinglePart_61
            refine wp_bd (s_X6_stop   o_me  hI_me  ) (fun z223 hz223 => ?_)
            obtain ⟨hz223_0, hz223_1, hz223_2⟩ := hz223
            have hkpz223_me : Kp [2, 4] [0] [] o_me z223.2 := Kp.rf.trans (hz223_2.mono (by decide) (by decide) (by decide))
            have kz223_k224 : (gI z223.2 2).toInt = (gI o_me 2).toInt := congrArg Int32.toInt (hz223_2.1 2 (by decide))
            have kz223_k225 : (gI z223.2 4).toInt = (gI o_me 4).toInt := congrArg Int32.toInt (hz223_2.1 4 (by decide))
            have kz223_k226 : (gI z223.2 5).toInt = (gI o_me 5).toInt := congrArg Int32.toInt (hz223_2.1 5 (by decide))
            have kz223_k227 : (gI z223.2 6).toInt = (gI o_me 6).toInt := congrArg Int32.toInt (hz223_2.1 6 (by decide))
            have kz223_k228 : (gI z223.2 8).toInt = (gI o_me 8).toInt := congrArg Int32.toInt (hz223_2.1 8 (by decide))
            refine wp_gd (zbo_of (by omega) (by omega)) ?_
            refine wp_some ?_
            have t229 := igX6_8 hz223_1
            have t230 := igX6_2 hz223_1
            exact (show (0 ≤ z223.1.toInt ∧ z223.1.toInt ≤ 1) ∧ IvX6 z223.2 ∧ Kp [2, 4] [0] [] o_me z223.2 ∧ IvX0 12 400 o_me_code ∧ Kp [7] [1] [] o_me_code o_me_code ∧ ((gI z223.2 8).toInt ≤ (gI z223.2 2).toInt + 0) from ⟨⟨by omega, by omega⟩, hz223_1, hkpz223_me, hI_me_code, Kp.rf, (by omega)⟩)
      · have c170z := c170
        have c170 := cv_ne (a := w166.toInt) (b := 0) rfl (by decide) c170
        exfalso; omega
    · have c168z := c168
      have c168 := cv_ne (a := (gI o_me 4).toInt) (b := 0) rfl (by decide) c168
      unfold bk_X6_readSinglePart_39
      refine wp_bd (s_X6_wordOf   o_me 7  hI_me (by decide) ) (fun z231 hz231 => ?_)
      refine wp_if (fun c232 => ?_) (fun c232 => ?_)
      · have c232 := cv_eq (a := w166.toInt) (b := 0) rfl (by decide) c232
        refine wp_if (fun c233 => ?_) (fun c233 => ?_)
        · have c233 := cv_eq (a := z231.toInt) (b := (-1)) rfl (by decide) c233
          unfold bk_X6_readSinglePart_61
          refine wp_bd (s_X6_stop   o_me  hI_me  ) (fun z234 hz234 => ?_)
          obtain ⟨hz234_0, hz234_1, hz234_2⟩ := hz234
          have hkpz234_me : Kp [2, 4] [0] [] o_me z234.2 := Kp.rf.trans (hz234_2.mono (by decide) (by decide) (by decide))
          have kz234_k235 : (gI z234.2 2).toInt = (gI o_me 2).toInt := congrArg Int32.toInt (hz234_2.1 2 (by decide))
          have kz234_k236 : (gI z234.2 4).toInt = (gI o_me 4).toInt := congrArg Int32.toInt (hz234_2.1 4 (by decide))
          have kz234_k237 : (gI z234.2 6).toInt = (gI o_me 6).toInt := congrArg Int32.toInt (hz234_2.1 6 (by decide))
          have kz234_k238 : (gI z234.2 8).toInt = (gI o_me 8).toInt := congrArg Int32.toInt (hz234_2.1 8 (by decide))
          refine wp_gd (zbo_of (by omega) (by omega)) ?_
          refine wp_some ?_
          have t239 := igX6_8 hz234_1
          have t240 := igX6_2 hz234_1
          exact (show (0 ≤ z234.1.toInt ∧ z234.1.toInt ≤ 1) ∧ IvX6 z234.2 ∧ Kp [2, 4] [0] [] o_me z234.2 ∧ IvX0 12 400 o_me_code ∧ Kp [7] [1] [] o_me_code o_me_code ∧ ((gI z234.2 8).toInt ≤ (gI z234.2 2).toInt + 0) from ⟨⟨by omega, by omega⟩, hz234_1, hkpz234_me, hI_me_code, Kp.rf, (by omega)⟩)
        · have c233 := cv_ne (a := z231.toInt) (b := (-1)) rfl (by decide) c233
          unfold bk_X6_readSinglePart_52
          have t241 := igX6_5 hI_me
          refine wp_if (fun c242 => ?_) (fun c242 => ?_)
          · have c242 := cv_lt (a := (gI o_me 5).toInt) (b := 50) rfl (by decide) c242
            have t243 : ((gI o_me 5) + (1 : Int32)).toInt = (gI o_me 5).toInt + 1 := i32_add rfl (by decide) (by omega) (by omega)
            refine wp_lt (fun o244 eo244 => ?_)
            have hIo244 : IvX6 o244 := by rw [eo244]; exact ipX6_5 hI_me ⟨by omega, by omega⟩
            have ko244_k245 : (gI o244 2).toInt = (gI o_me 2).toInt := by rw [eo244]; rfl
            have ko244_k246 : (gI o244 4).toInt = (gI o_me 4).toInt := by rw [eo244]; rfl
            have ko244_k247 : (gI o244 6).toInt = (gI o_me 6).toInt := by rw [eo244]; rfl
            have ko244_k248 : (gI o244 8).toInt = (gI o_me 8).toInt := by rw [eo244]; rfl
            have ko244_v : (gI o244 5).toInt = ((gI o_me 5) + (1 : Int32)).toInt := by rw [eo244]; rfl
            have hkpo244 : Kp [2, 4] [0] [] o_me o244 := Kp.rf.trans (by rw [eo244]; exact Kp.sI (by decide))
            refine wp_if (fun c249 => ?_) (fun c249 => ?_)
            · have c249 := cv_eq (a := w166.toInt) (b := 0) rfl (by decide) c249
              have t251 := igX6_8 hIo244
              have t252 := igX6_2 hIo244
              refine wp_bd (s_X6_step   o244  hIo244  (by omega)) (fun z250 hz250 => ?_)
              obtain ⟨hz250_0, hz250_1, hz250_2⟩ := hz250
              have hkpz250_me : Kp [2, 4] [0] [] o_me z250 := hkpo244.trans (hz250_1.mono (by decide) (by decide) (by decide))
              have kz250_k253 : (gI z250 2).toInt = (gI o244 2).toInt := congrArg Int32.toInt (hz250_1.1 2 (by decide))
              have kz250_k254 : (gI z250 4).toInt = (gI o244 4).toInt := congrArg Int32.toInt (hz250_1.1 4 (by decide))
              have kz250_k255 : (gI z250 5).toInt = (gI o244 5).toInt := congrArg Int32.toInt (hz250_1.1 5 (by decide))
              refine wp_if (fun c256 => ?_) (fun c256 => ?_)
              · have c256 := cv_eq (a := (gI z250 4).toInt) (b := 0) rfl (by decide) c256
                exfalso; omega
              · have c256z := c256
                have c256 := cv_ne (a := (gI z250 4).toInt) (b := 0) rfl (by decide) c256
                unfold bk_X6_readSinglePart_115
                refine wp_bd (s_X0_add  12 400 o_me_code (1 : Int32) z231  hI_me_code  ) (fun z257 hz257 => ?_)
                obtain ⟨hz257_0, hz257_1, hz257_2⟩ := hz257
                have hkpz257_me_code : Kp [7] [1] [] o_me_code z257.2 := Kp.rf.trans (hz257_2.mono (by decide) (by decide) (by decide))
                refine wp_some ?_
                have t258 := igX6_8 hz250_0
                exact (show (0 ≤ (1 : Int32).toInt ∧ (1 : Int32).toInt ≤ 1) ∧ IvX6 z250 ∧ Kp [2, 4] [0] [] o_me z250 ∧ IvX0 12 400 z257.2 ∧ Kp [7] [1] [] o_me_code z257.2 ∧ ((gI z250 8).toInt ≤ (gI z250 2).toInt + 0) from ⟨⟨by decide, by decide⟩, hz250_0, hkpz250_me, hz257_1, hkpz257_me_code, (by omega)⟩)
            · have c249z := c249
              have c249 := cv_ne (a := w166.toInt) (b := 0) rfl (by decide) c249
              exfalso; omega
          · have c242 := cv_nlt (a := (gI o_me 5).toInt) (b := 50) rfl (by decide) c242
            unfold bk_X6_readSinglePart_61
            refine wp_bd (s_X6_stop   o_me  hI_me  ) (fun z259 hz259 => ?_)
            obtain ⟨hz259_0, hz259_1, hz259_2⟩ := hz259
            have hkpz259_me : Kp [2, 4] [0] [] o_me z259.2 := Kp.rf.trans (hz259_2.mono (by decide) (by decide) (by decide))
            have kz259_k260 : (gI z259.2 2).toInt = (gI o_me 2).toInt := congrArg Int32.toInt (hz259_2.1 2 (by decide))
            have kz259_k261 : (gI z259.2 4).toInt = (gI o_me 4).toInt := congrArg Int32.toInt (hz259_2.1 4 (by decide))
            have kz259_k262 : (gI z259.2 5).toInt = (gI o_me 5).toInt := congrArg Int32.toInt (hz259_2.1 5 (by decide))
            have kz259_k263 : (gI z259.2 6).toInt = (gI o_me 6).toInt := congrArg Int32.toInt (hz259_2.1 6 (by decide))
            have kz259_k264 : (gI z259.2 8).toInt = (gI o_me 8).toInt := congrArg Int32.toInt (hz259_2.1 8 (by decide))
            refine wp_gd (zbo_of (by omega) (by omega)) ?_
            refine wp_some ?_
            have t265 := igX6_8 hz259_1
            have t266 := igX6_2 hz259_1
            exact (show (0 ≤ z259.1.toInt ∧ z259.1.toInt ≤ 1) ∧ IvX6 z259.2 ∧ Kp [2, 4] [0] [] o_me z259.2 ∧ IvX0 12 400 o_me_code ∧ Kp [7] [1] [] o_me_code o_me_code ∧ ((gI z259.2 8).toInt ≤ (gI z259.2 2).toInt + 0) from ⟨⟨by omega, by omega⟩, hz259_1, hkpz259_me, hI_me_code, Kp.rf, (by omega)⟩)
      · have c232z := c232
        have c232 := cv_ne (a := w166.toInt) (b := 0) rfl (by decide) c232
        exfalso; omega


set_option maxHeartbeats 4000000 in
set_option maxRecDepth 100000 in
theorem s_X6_readPart (rS : Ob → Ob → Int32 → Option (Int32 × Ob × Ob)) (o_me : Ob) (o_me_code : Ob) (p0 : Int32) (hrS : ∀ (o9 c9 : Ob) (p9 : Int32), IvX6 o9 → IvX0 12 400 c9 → p0.toInt < p9.toInt → 0 ≤ p9.toInt ∧ p9.toInt ≤ 8 → (gI o9 8).toInt ≤ (gI o9 2).toInt + 0 → wp (rS o9 c9 p9) (fun (y : Int32 × Ob × Ob) => (0 ≤ y.1.toInt ∧ y.1.toInt ≤ 1) ∧ IvX6 y.2.1 ∧ Kp [2, 4] [0] [] o9 y.2.1 ∧ IvX0 12 400 y.2.2 ∧ Kp [7] [1] [] c9 y.2.2 ∧ ((gI y.2.1 8).toInt ≤ (gI y.2.1 2).toInt + 0))) (hI_me : IvX6 o_me) (hI_me_code : IvX0 12 400 o_me_code) (q0 : 0 ≤ p0.toInt ∧ p0.toInt ≤ 8) (r0 : (gI o_me 8).toInt ≤ (gI o_me 2).toInt + 0) : wp (f_X6_readPart rS 12 400 o_me o_me_code p0) (fun (y : Int32 × Ob × Ob) => (0 ≤ y.1.toInt ∧ y.1.toInt ≤ 1) ∧ IvX6 y.2.1 ∧ Kp [2, 4] [0] [] o_me y.2.1 ∧ IvX0 12 400 y.2.2 ∧ Kp [7] [1] [] o_me_code y.2.2 ∧ ((gI y.2.1 8).toInt ≤ (gI y.2.1 2).toInt + 0)) := by
  have li0 : (0 : Int32).toInt = 0 := by decide
  have li1 : (1 : Int32).toInt = 1 := by decide
  have li2 : (8 : Int32).toInt = 8 := by decide
  have li3 : (91 : Int32).toInt = 91 := by decide
  have li4 : (93 : Int32).toInt = 93 := by decide
  unfold f_X6_readPart
  refine wp_bd (s_X6_isSign   o_me (91 : Int32)  hI_me  ) (fun z1 hz1 => ?_)
  have hz1_0 := hz1
  refine wp_if (fun c2 => ?_) (fun c2 => ?_)
  · have c2 := cv_eq (a := z1.toInt) (b := 0) rfl (by decide) c2
    have t4 := igX6_8 hI_me
    have t5 := igX6_2 hI_me
    refine wp_bd (s_X6_readSinglePart   o_me o_me_code  hI_me hI_me_code  (by omega)) (fun z3 hz3 => ?_)
    obtain ⟨hz3_0, hz3_1, hz3_2, hz3_3, hz3_4, hz3_5⟩ := hz3
    have hkpz3_me : Kp [2, 4] [0] [] o_me z3.2.1 := Kp.rf.trans (hz3_2.mono (by decide) (by decide) (by decide))
    have kz3_k6 : (gI z3.2.1 2).toInt = (gI o_me 2).toInt := congrArg Int32.toInt (hz3_2.1 2 (by decide))
    have hkpz3_me_code : Kp [7] [1] [] o_me_code z3.2.2 := Kp.rf.trans (hz3_4.mono (by decide) (by decide) (by decide))
    refine wp_gd (zbo_of (by omega) (by omega)) ?_
    refine wp_some ?_
    have t7 := igX6_8 hz3_1
    exact (show (0 ≤ z3.1.toInt ∧ z3.1.toInt ≤ 1) ∧ IvX6 z3.2.1 ∧ Kp [2, 4] [0] [] o_me z3.2.1 ∧ IvX0 12 400 z3.2.2 ∧ Kp [7] [1] [] o_me_code z3.2.2 ∧ ((gI z3.2.1 8).toInt ≤ (gI z3.2.1 2).toInt + 0) from ⟨⟨by omega, by omega⟩, hz3_1, hkpz3_me, hz3_3, hkpz3_me_code, (by omega)⟩)
  · have c2z := c2
    have c2 := cv_ne (a := z1.toInt) (b := 0) rfl (by decide) c2
    refine wp_if (fun c8 => ?_) (fun c8 => ?_)
    · have c8 := cv_lt (a := p0.toInt) (b := 8) rfl (by decide) c8
      have t10 := igX6_8 hI_me
      have t11 := igX6_2 hI_me
      refine wp_bd (s_X6_step   o_me  hI_me  (by omega)) (fun z9 hz9 => ?_)
      obtain ⟨hz9_0, hz9_1, hz9_2⟩ := hz9
      have hkpz9_me : Kp [2, 4] [0] [] o_me z9 := Kp.rf.trans (hz9_1.mono (by decide) (by decide) (by decide))
      have kz9_k12 : (gI z9 2).toInt = (gI o_me 2).toInt := congrArg Int32.toInt (hz9_1.1 2 (by decide))
      have t13 : (p0 + (1 : Int32)).toInt = p0.toInt + 1 := i32_add rfl (by decide) (by omega) (by omega)
      have t15 := igX6_8 hz9_0
      refine wp_bd (hrS   z9 o_me_code (p0 + (1 : Int32))  hz9_0 hI_me_code (by omega) ⟨by omega, by omega⟩ (by omega)) (fun z14 hz14 => ?_)
      obtain ⟨hz14_0, hz14_1, hz14_2, hz14_3, hz14_4, hz14_5⟩ := hz14
      have hkpz14_me : Kp [2, 4] [0] [] o_me z14.2.1 := hkpz9_me.trans (hz14_2.mono (by decide) (by decide) (by decide))
      have kz14_k16 : (gI z14.2.1 2).toInt = (gI z9 2).toInt := congrArg Int32.toInt (hz14_2.1 2 (by decide))
      have hkpz14_me_code : Kp [7] [1] [] o_me_code z14.2.2 := Kp.rf.trans (hz14_4.mono (by decide) (by decide) (by decide))
      refine wp_if (fun c17 => ?_) (fun c17 => ?_)
      · have c17 := cv_eq (a := z14.1.toInt) (b := 0) rfl (by decide) c17
        refine wp_some ?_
        have t18 := igX6_8 hz14_1
        exact (show (0 ≤ (0 : Int32).toInt ∧ (0 : Int32).toInt ≤ 1) ∧ IvX6 z14.2.1 ∧ Kp [2, 4] [0] [] o_me z14.2.1 ∧ IvX0 12 400 z14.2.2 ∧ Kp [7] [1] [] o_me_code z14.2.2 ∧ ((gI z14.2.1 8).toInt ≤ (gI z14.2.1 2).toInt + 0) from ⟨⟨by decide, by decide⟩, hz14_1, hkpz14_me, hz14_3, hkpz14_me_code, (by omega)⟩)
      · have c17z := c17
        have c17 := cv_ne (a := z14.1.toInt) (b := 0) rfl (by decide) c17
        refine wp_bd (s_X6_isSign   z14.2.1 (93 : Int32)  hz14_1  ) (fun z19 hz19 => ?_)
        have hz19_0 := hz19
        refine wp_if (fun c20 => ?_) (fun c20 => ?_)
        · have c20 := cv_eq (a := z19.toInt) (b := 0) rfl (by decide) c20
          refine wp_bd (s_X6_stop   z14.2.1  hz14_1  ) (fun z21 hz21 => ?_)
          obtain ⟨hz21_0, hz21_1, hz21_2⟩ := hz21
          have hkpz21_me : Kp [2, 4] [0] [] o_me z21.2 := hkpz14_me.trans (hz21_2.mono (by decide) (by decide) (by decide))
          have kz21_k22 : (gI z21.2 2).toInt = (gI z14.2.1 2).toInt := congrArg Int32.toInt (hz21_2.1 2 (by decide))
          have kz21_k23 : (gI z21.2 8).toInt = (gI z14.2.1 8).toInt := congrArg Int32.toInt (hz21_2.1 8 (by decide))
          refine wp_gd (zbo_of (by omega) (by omega)) ?_
          refine wp_some ?_
          have t24 := igX6_8 hz21_1
          exact (show (0 ≤ z21.1.toInt ∧ z21.1.toInt ≤ 1) ∧ IvX6 z21.2 ∧ Kp [2, 4] [0] [] o_me z21.2 ∧ IvX0 12 400 z14.2.2 ∧ Kp [7] [1] [] o_me_code z14.2.2 ∧ ((gI z21.2 8).toInt ≤ (gI z21.2 2).toInt + 0) from ⟨⟨by omega, by omega⟩, hz21_1, hkpz21_me, hz14_3, hkpz14_me_code, (by omega)⟩)
        · have c20z := c20
          have c20 := cv_ne (a := z19.toInt) (b := 0) rfl (by decide) c20
          have t26 := igX6_8 hz14_1
          refine wp_bd (s_X6_step   z14.2.1  hz14_1  (by omega)) (fun z25 hz25 => ?_)
          obtain ⟨hz25_0, hz25_1, hz25_2⟩ := hz25
          have hkpz25_me : Kp [2, 4] [0] [] o_me z25 := hkpz14_me.trans (hz25_1.mono (by decide) (by decide) (by decide))
          have kz25_k27 : (gI z25 2).toInt = (gI z14.2.1 2).toInt := congrArg Int32.toInt (hz25_1.1 2 (by decide))
          refine wp_some ?_
          have t28 := igX6_8 hz25_0
          exact (show (0 ≤ (1 : Int32).toInt ∧ (1 : Int32).toInt ≤ 1) ∧ IvX6 z25 ∧ Kp [2, 4] [0] [] o_me z25 ∧ IvX0 12 400 z14.2.2 ∧ Kp [7] [1] [] o_me_code z14.2.2 ∧ ((gI z25 8).toInt ≤ (gI z25 2).toInt + 0) from ⟨⟨by decide, by decide⟩, hz25_0, hkpz25_me, hz14_3, hkpz14_me_code, (by omega)⟩)
    · have c8 := cv_nlt (a := p0.toInt) (b := 8) rfl (by decide) c8
      refine wp_bd (s_X6_stop   o_me  hI_me  ) (fun z29 hz29 => ?_)
      obtain ⟨hz29_0, hz29_1, hz29_2⟩ := hz29
      have hkpz29_me : Kp [2, 4] [0] [] o_me z29.2 := Kp.rf.trans (hz29_2.mono (by decide) (by decide) (by decide))
      have kz29_k30 : (gI z29.2 2).toInt = (gI o_me 2).toInt := congrArg Int32.toInt (hz29_2.1 2 (by decide))
      have kz29_k31 : (gI z29.2 8).toInt = (gI o_me 8).toInt := congrArg Int32.toInt (hz29_2.1 8 (by decide))
      refine wp_gd (zbo_of (by omega) (by omega)) ?_
      refine wp_some ?_
      have t32 := igX6_8 hz29_1
      have t33 := igX6_2 hz29_1
      exact (show (0 ≤ z29.1.toInt ∧ z29.1.toInt ≤ 1) ∧ IvX6 z29.2 ∧ Kp [2, 4] [0] [] o_me z29.2 ∧ IvX0 12 400 o_me_code ∧ Kp [7] [1] [] o_me_code o_me_code ∧ ((gI z29.2 8).toInt ≤ (gI z29.2 2).toInt + 0) from ⟨⟨by omega, by omega⟩, hz29_1, hkpz29_me, hI_me_code, Kp.rf, (by omega)⟩)

set_option maxHeartbeats 4000000 in
set_option maxRecDepth 100000 in
theorem s_X6_readTerm (rS : Ob → Ob → Int32 → Option (Int32 × Ob × Ob)) (o_me : Ob) (o_me_code : Ob) (p0 : Int32) (hrS : ∀ (o9 c9 : Ob) (p9 : Int32), IvX6 o9 → IvX0 12 400 c9 → p0.toInt < p9.toInt → 0 ≤ p9.toInt ∧ p9.toInt ≤ 8 → (gI o9 8).toInt ≤ (gI o9 2).toInt + 0 → wp (rS o9 c9 p9) (fun (y : Int32 × Ob × Ob) => (0 ≤ y.1.toInt ∧ y.1.toInt ≤ 1) ∧ IvX6 y.2.1 ∧ Kp [2, 4] [0] [] o9 y.2.1 ∧ IvX0 12 400 y.2.2 ∧ Kp [7] [1] [] c9 y.2.2 ∧ ((gI y.2.1 8).toInt ≤ (gI y.2.1 2).toInt + 0))) (hI_me : IvX6 o_me) (hI_me_code : IvX0 12 400 o_me_code) (q0 : 0 ≤ p0.toInt ∧ p0.toInt ≤ 8) (r0 : (gI o_me 8).toInt ≤ (gI o_me 2).toInt + 0) : wp (f_X6_readTerm rS 12 400 o_me o_me_code p0) (fun (y : Int32 × Ob × Ob) => (0 ≤ y.1.toInt ∧ y.1.toInt ≤ 1) ∧ IvX6 y.2.1 ∧ Kp [2, 4] [0] [] o_me y.2.1 ∧ IvX0 12 400 y.2.2 ∧ Kp [7] [1] [] o_me_code y.2.2 ∧ ((gI y.2.1 8).toInt ≤ (gI y.2.1 2).toInt + 0)) := by
  have li0 : (0 : Int32).toInt = 0 := by decide
  have li1 : (1 : Int32).toInt = 1 := by decide
  have li2 : (37 : Int32).toInt = 37 := by decide
  have li3 : (400 : Int32).toInt = 400 := by decide
  have li4 : (42 : Int32).toInt = 42 := by decide
  have li5 : (47 : Int32).toInt = 47 := by decide
  have li6 : (7 : Int32).toInt = 7 := by decide
  have li7 : (8 : Int32).toInt = 8 := by decide
  have li8 : (9 : Int32).toInt = 9 := by decide
  unfold f_X6_readTerm
  have t2 := igX6_8 hI_me
  have t3 := igX6_2 hI_me
  refine wp_bd (s_X6_readPart rS  o_me o_me_code p0 (fun o c p h1 h2 h3 h4 h5 => hrS o c p h1 h2 (by omega) h4 h5) hI_me hI_me_code  ⟨by omega, by omega⟩ (by omega)) (fun z1 hz1 => ?_)
  obtain ⟨hz1_0, hz1_1, hz1_2, hz1_3, hz1_4, hz1_5⟩ := hz1
  have hkpz1_me : Kp [2, 4] [0] [] o_me z1.2.1 := Kp.rf.trans (hz1_2.mono (by decide) (by decide) (by decide))
  have kz1_k4 : (gI z1.2.1 2).toInt = (gI o_me 2).toInt := congrArg Int32.toInt (hz1_2.1 2 (by decide))
  have hkpz1_me_code : Kp [7] [1] [] o_me_code z1.2.2 := Kp.rf.trans (hz1_4.mono (by decide) (by decide) (by decide))
  refine wp_if (fun c5 => ?_) (fun c5 => ?_)
  · have c5 := cv_eq (a := z1.1.toInt) (b := 0) rfl (by decide) c5
    refine wp_some ?_
    have t6 := igX6_8 hz1_1
    exact (show (0 ≤ (0 : Int32).toInt ∧ (0 : Int32).toInt ≤ 1) ∧ IvX6 z1.2.1 ∧ Kp [2, 4] [0] [] o_me z1.2.1 ∧ IvX0 12 400 z1.2.2 ∧ Kp [7] [1] [] o_me_code z1.2.2 ∧ ((gI z1.2.1 8).toInt ≤ (gI z1.2.1 2).toInt + 0) from ⟨⟨by decide, by decide⟩, hz1_1, hkpz1_me, hz1_3, hkpz1_me_code, (by omega)⟩)
  · have c5z := c5
    have c5 := cv_ne (a := z1.1.toInt) (b := 0) rfl (by decide) c5
    have t7 := igX6_8 hz1_1
    have lp1 : ∀ (N1 : Nat) (v1_1 : Int32) (v2_1 : Int32) (o_me_1 : Ob) (o_me_code_1 : Ob), IvX6 o_me_1 → Kp [2, 4] [0] [] o_me o_me_1 → IvX0 12 400 o_me_code_1 → Kp [7] [1] [] o_me_code o_me_code_1 → (0 ≤ v1_1.toInt ∧ v1_1.toInt ≤ 8) → (0 ≤ v2_1.toInt ∧ v2_1.toInt ≤ 400) → (0 ≤ (gI o_me_1 2).toInt ∧ (gI o_me_1 2).toInt ≤ 400) → (0 ≤ (gI o_me_1 8).toInt ∧ (gI o_me_1 8).toInt ≤ 400) → ((gI o_me_1 8).toInt ≤ (gI o_me_1 2).toInt + 0) → (v1_1.toInt ≤ p0.toInt + 0) → (p0.toInt ≤ v1_1.toInt + 0) → (400 - v2_1.toInt).toNat < N1 → wp (lp_X6_readTerm_12 rS 12 400  N1 (v1_1, v2_1, o_me_1, o_me_code_1)) (fun (y : Int32 × Ob × Ob) => (0 ≤ y.1.toInt ∧ y.1.toInt ≤ 1) ∧ IvX6 y.2.1 ∧ Kp [2, 4] [0] [] o_me y.2.1 ∧ IvX0 12 400 y.2.2 ∧ Kp [7] [1] [] o_me_code y.2.2 ∧ ((gI y.2.1 8).toInt ≤ (gI y.2.1 2).toInt + 0)) := by
      intro N1
      induction N1 with
      | zero =>
        intro v1_1 v2_1 o_me_1 o_me_code_1 hI_me_1 hkp_me_1 hI_me_code_1 hkp_me_code_1 hh10 hh11 hh12 hh13 hh14 hh15 hh16 hN1
        exact absurd hN1 (Nat.not_lt_zero _)
      | succ N1 ihx =>
        have ih1 := ihx
        intro v1_1 v2_1 o_me_1 o_me_code_1 hI_me_1 hkp_me_1 hI_me_code_1 hkp_me_code_1 hh10 hh11 hh12 hh13 hh14 hh15 hh16 hN1
        show wp (lb_X6_readTerm_12 rS 12 400  (lp_X6_readTerm_12 rS 12 400  N1) v1_1 v2_1 o_me_1 o_me_code_1) (fun (y : Int32 × Ob × Ob) => (0 ≤ y.1.toInt ∧ y.1.toInt ≤ 1) ∧ IvX6 y.2.1 ∧ Kp [2, 4] [0] [] o_me y.2.1 ∧ IvX0 12 400 y.2.2 ∧ Kp [7] [1] [] o_me_code y.2.2 ∧ ((gI y.2.1 8).toInt ≤ (gI y.2.1 2).toInt + 0))
        unfold lb_X6_readTerm_12
        refine wp_if (fun c17 => ?_) (fun c17 => ?_)
        · have c17 := cv_ge (a := v2_1.toInt) (b := 400) rfl (by decide) c17
          refine wp_some ?_
          exact (show (0 ≤ (1 : Int32).toInt ∧ (1 : Int32).toInt ≤ 1) ∧ IvX6 o_me_1 ∧ Kp [2, 4] [0] [] o_me o_me_1 ∧ IvX0 12 400 o_me_code_1 ∧ Kp [7] [1] [] o_me_code o_me_code_1 ∧ ((gI o_me_1 8).toInt ≤ (gI o_me_1 2).toInt + 0) from ⟨⟨by decide, by decide⟩, hI_me_1, hkp_me_1, hI_me_code_1, hkp_me_code_1, (by omega)⟩)
        · have c17 := cv_nge (a := v2_1.toInt) (b := 400) rfl (by decide) c17
          refine wp_bd (s_X6_isSign   o_me_1 (42 : Int32)  hI_me_1  ) (fun z18 hz18 => ?_)
          have hz18_0 := hz18
          refine wp_if (fun c19 => ?_) (fun c19 => ?_)
          · have c19 := cv_eq (a := z18.toInt) (b := 0) rfl (by decide) c19
            refine wp_bd (s_X6_isSign   o_me_1 (47 : Int32)  hI_me_1  ) (fun z20 hz20 => ?_)
            have hz20_0 := hz20
            refine wp_if (fun c21 => ?_) (fun c21 => ?_)
            · have c21 := cv_eq (a := z20.toInt) (b := 0) rfl (by decide) c21
              refine wp_bd (s_X6_isSign   o_me_1 (37 : Int32)  hI_me_1  ) (fun z22 hz22 => ?_)
              have hz22_0 := hz22
              refine wp_if (fun c23 => ?_) (fun c23 => ?_)
              · have c23 := cv_eq (a := z22.toInt) (b := 0) rfl (by decide) c23
                refine wp_some ?_
                exact (show (0 ≤ (1 : Int32).toInt ∧ (1 : Int32).toInt ≤ 1) ∧ IvX6 o_me_1 ∧ Kp [2, 4] [0] [] o_me o_me_1 ∧ IvX0 12 400 o_me_code_1 ∧ Kp [7] [1] [] o_me_code o_me_code_1 ∧ ((gI o_me_1 8).toInt ≤ (gI o_me_1 2).toInt + 0) from ⟨⟨by decide, by decide⟩, hI_me_1, hkp_me_1, hI_me_code_1, hkp_me_code_1, (by omega)⟩)
              · have c23z := c23
                have c23 := cv_ne (a := z22.toInt) (b := 0) rfl (by decide) c23
                unfold bk_X6_readTerm_46
                refine wp_bd (s_X6_isSign   o_me_1 (42 : Int32)  hI_me_1  ) (fun z24 hz24 => ?_)
                have hz24_0 := hz24
                refine wp_if (fun c25 => ?_) (fun c25 => ?_)
                · have c25 := cv_eq (a := z24.toInt) (b := 0) rfl (by decide) c25
                  refine wp_bd (s_X6_isSign   o_me_1 (47 : Int32)  hI_me_1  ) (fun z26 hz26 => ?_)
                  have hz26_0 := hz26
                  refine wp_if (fun c27 => ?_) (fun c27 => ?_)
                  · have c27 := cv_eq (a := z26.toInt) (b := 0) rfl (by decide) c27
                    obtain ⟨w28, ew28⟩ : ∃ z : Int32, z = (9 : Int32) := ⟨_, rfl⟩
                    have tw28 : w28.toInt = 9 := by rw [ew28]; decide
                    rw [show bk_X6_readTerm_76 rS 12 400 (lp_X6_readTerm_12 rS 12 400  N1) v1_1 v2_1 (9 : Int32) o_me_1 o_me_code_1 = bk_X6_readTerm_76 rS 12 400 (lp_X6_readTerm_12 rS 12 400  N1) v1_1 v2_1 w28 o_me_1 o_me_code_1 from by rw [ew28]]
                    unfold bk_X6_readTerm_76
                    refine wp_bd (s_X6_step   o_me_1  hI_me_1  (by omega)) (fun z29 hz29 => ?_)
                    obtain ⟨hz29_0, hz29_1, hz29_2⟩ := hz29
                    have hkpz29_me : Kp [2, 4] [0] [] o_me z29 := hkp_me_1.trans (hz29_1.mono (by decide) (by decide) (by decide))
                    have kz29_k30 : (gI z29 2).toInt = (gI o_me_1 2).toInt := congrArg Int32.toInt (hz29_1.1 2 (by decide))
                    have t32 := igX6_8 hz29_0
                    refine wp_bd (s_X6_readPart rS  z29 o_me_code_1 v1_1 (fun o c p h1 h2 h3 h4 h5 => hrS o c p h1 h2 (by omega) h4 h5) hz29_0 hI_me_code_1  ⟨by omega, by omega⟩ (by omega)) (fun z31 hz31 => ?_)
                    obtain ⟨hz31_0, hz31_1, hz31_2, hz31_3, hz31_4, hz31_5⟩ := hz31
                    have hkpz31_me : Kp [2, 4] [0] [] o_me z31.2.1 := hkpz29_me.trans (hz31_2.mono (by decide) (by decide) (by decide))
                    have kz31_k33 : (gI z31.2.1 2).toInt = (gI z29 2).toInt := congrArg Int32.toInt (hz31_2.1 2 (by decide))
                    have hkpz31_me_code : Kp [7] [1] [] o_me_code z31.2.2 := hkp_me_code_1.trans (hz31_4.mono (by decide) (by decide) (by decide))
                    refine wp_if (fun c34 => ?_) (fun c34 => ?_)
                    · have c34 := cv_eq (a := z31.1.toInt) (b := 0) rfl (by decide) c34
                      refine wp_some ?_
                      have t35 := igX6_8 hz31_1
                      exact (show (0 ≤ (0 : Int32).toInt ∧ (0 : Int32).toInt ≤ 1) ∧ IvX6 z31.2.1 ∧ Kp [2, 4] [0] [] o_me z31.2.1 ∧ IvX0 12 400 z31.2.2 ∧ Kp [7] [1] [] o_me_code z31.2.2 ∧ ((gI z31.2.1 8).toInt ≤ (gI z31.2.1 2).toInt + 0) from ⟨⟨by decide, by decide⟩, hz31_1, hkpz31_me, hz31_3, hkpz31_me_code, (by omega)⟩)
                    · have c34z := c34
                      have c34 := cv_ne (a := z31.1.toInt) (b := 0) rfl (by decide) c34
                      refine wp_bd (s_X0_add  12 400 z31.2.2 w28 (0 : Int32)  hz31_3  ) (fun z36 hz36 => ?_)
                      obtain ⟨hz36_0, hz36_1, hz36_2⟩ := hz36
                      have hkpz36_me_code : Kp [7] [1] [] o_me_code z36.2 := hkpz31_me_code.trans (hz36_2.mono (by decide) (by decide) (by decide))
                      refine wp_lt (fun x37 ex37 => ?_)
                      have tx37 : x37.toInt = v2_1.toInt + 1 := by rw [ex37]; exact i32_add rfl (by decide) (by omega) (by omega)
                      have t38 := igX6_8 hz31_1
                      exact ih1 v1_1 x37 z31.2.1 z36.2 hz31_1 hkpz31_me hz36_1 hkpz36_me_code ⟨by omega, by omega⟩ ⟨by omega, by omega⟩ ⟨by omega, by omega⟩ ⟨by omega, by omega⟩ (by omega) (by omega) (by omega) (by omega)
                  · have c27z := c27
                    have c27 := cv_ne (a := z26.toInt) (b := 0) rfl (by decide) c27
                    obtain ⟨w39, ew39⟩ : ∃ z : Int32, z = (8 : Int32) := ⟨_, rfl⟩
                    have tw39 : w39.toInt = 8 := by rw [ew39]; decide
                    rw [show bk_X6_readTerm_76 rS 12 400 (lp_X6_readTerm_12 rS 12 400  N1) v1_1 v2_1 (8 : Int32) o_me_1 o_me_code_1 = bk_X6_readTerm_76 rS 12 400 (lp_X6_readTerm_12 rS 12 400  N1) v1_1 v2_1 w39 o_me_1 o_me_code_1 from by rw [ew39]]
                    unfold bk_X6_readTerm_76
                    refine wp_bd (s_X6_step   o_me_1  hI_me_1  (by omega)) (fun z40 hz40 => ?_)
                    obtain ⟨hz40_0, hz40_1, hz40_2⟩ := hz40
                    have hkpz40_me : Kp [2, 4] [0] [] o_me z40 := hkp_me_1.trans (hz40_1.mono (by decide) (by decide) (by decide))
                    have kz40_k41 : (gI z40 2).toInt = (gI o_me_1 2).toInt := congrArg Int32.toInt (hz40_1.1 2 (by decide))
                    have t43 := igX6_8 hz40_0
                    refine wp_bd (s_X6_readPart rS  z40 o_me_code_1 v1_1 (fun o c p h1 h2 h3 h4 h5 => hrS o c p h1 h2 (by omega) h4 h5) hz40_0 hI_me_code_1  ⟨by omega, by omega⟩ (by omega)) (fun z42 hz42 => ?_)
                    obtain ⟨hz42_0, hz42_1, hz42_2, hz42_3, hz42_4, hz42_5⟩ := hz42
                    have hkpz42_me : Kp [2, 4] [0] [] o_me z42.2.1 := hkpz40_me.trans (hz42_2.mono (by decide) (by decide) (by decide))
                    have kz42_k44 : (gI z42.2.1 2).toInt = (gI z40 2).toInt := congrArg Int32.toInt (hz42_2.1 2 (by decide))
                    have hkpz42_me_code : Kp [7] [1] [] o_me_code z42.2.2 := hkp_me_code_1.trans (hz42_4.mono (by decide) (by decide) (by decide))
                    refine wp_if (fun c45 => ?_) (fun c45 => ?_)
                    · have c45 := cv_eq (a := z42.1.toInt) (b := 0) rfl (by decide) c45
                      refine wp_some ?_
                      have t46 := igX6_8 hz42_1
                      exact (show (0 ≤ (0 : Int32).toInt ∧ (0 : Int32).toInt ≤ 1) ∧ IvX6 z42.2.1 ∧ Kp [2, 4] [0] [] o_me z42.2.1 ∧ IvX0 12 400 z42.2.2 ∧ Kp [7] [1] [] o_me_code z42.2.2 ∧ ((gI z42.2.1 8).toInt ≤ (gI z42.2.1 2).toInt + 0) from ⟨⟨by decide, by decide⟩, hz42_1, hkpz42_me, hz42_3, hkpz42_me_code, (by omega)⟩)
                    · have c45z := c45
                      have c45 := cv_ne (a := z42.1.toInt) (b := 0) rfl (by decide) c45
                      refine wp_bd (s_X0_add  12 400 z42.2.2 w39 (0 : Int32)  hz42_3  ) (fun z47 hz47 => ?_)
                      obtain ⟨hz47_0, hz47_1, hz47_2⟩ := hz47
                      have hkpz47_me_code : Kp [7] [1] [] o_me_code z47.2 := hkpz42_me_code.trans (hz47_2.mono (by decide) (by decide) (by decide))
                      refine wp_lt (fun x48 ex48 => ?_)
                      have tx48 : x48.toInt = v2_1.toInt + 1 := by rw [ex48]; exact i32_add rfl (by decide) (by omega) (by omega)
                      have t49 := igX6_8 hz42_1
                      exact ih1 v1_1 x48 z42.2.1 z47.2 hz42_1 hkpz42_me hz47_1 hkpz47_me_code ⟨by omega, by omega⟩ ⟨by omega, by omega⟩ ⟨by omega, by omega⟩ ⟨by omega, by omega⟩ (by omega) (by omega) (by omega) (by omega)
                · have c25z := c25
                  have c25 := cv_ne (a := z24.toInt) (b := 0) rfl (by decide) c25
                  obtain ⟨w50, ew50⟩ : ∃ z : Int32, z = (7 : Int32) := ⟨_, rfl⟩
                  have tw50 : w50.toInt = 7 := by rw [ew50]; decide
                  rw [show bk_X6_readTerm_76 rS 12 400 (lp_X6_readTerm_12 rS 12 400  N1) v1_1 v2_1 (7 : Int32) o_me_1 o_me_code_1 = bk_X6_readTerm_76 rS 12 400 (lp_X6_readTerm_12 rS 12 400  N1) v1_1 v2_1 w50 o_me_1 o_me_code_1 from by rw [ew50]]
                  unfold bk_X6_readTerm_76
                  refine wp_bd (s_X6_step   o_me_1  hI_me_1  (by omega)) (fun z51 hz51 => ?_)
                  obtain ⟨hz51_0, hz51_1, hz51_2⟩ := hz51
                  have hkpz51_me : Kp [2, 4] [0] [] o_me z51 := hkp_me_1.trans (hz51_1.mono (by decide) (by decide) (by decide))
                  have kz51_k52 : (gI z51 2).toInt = (gI o_me_1 2).toInt := congrArg Int32.toInt (hz51_1.1 2 (by decide))
                  have t54 := igX6_8 hz51_0
                  refine wp_bd (s_X6_readPart rS  z51 o_me_code_1 v1_1 (fun o c p h1 h2 h3 h4 h5 => hrS o c p h1 h2 (by omega) h4 h5) hz51_0 hI_me_code_1  ⟨by omega, by omega⟩ (by omega)) (fun z53 hz53 => ?_)
                  obtain ⟨hz53_0, hz53_1, hz53_2, hz53_3, hz53_4, hz53_5⟩ := hz53
                  have hkpz53_me : Kp [2, 4] [0] [] o_me z53.2.1 := hkpz51_me.trans (hz53_2.mono (by decide) (by decide) (by decide))
                  have kz53_k55 : (gI z53.2.1 2).toInt = (gI z51 2).toInt := congrArg Int32.toInt (hz53_2.1 2 (by decide))
                  have hkpz53_me_code : Kp [7] [1] [] o_me_code z53.2.2 := hkp_me_code_1.trans (hz53_4.mono (by decide) (by decide) (by decide))
                  refine wp_if (fun c56 => ?_) (fun c56 => ?_)
                  · have c56 := cv_eq (a := z53.1.toInt) (b := 0) rfl (by decide) c56
                    refine wp_some ?_
                    have t57 := igX6_8 hz53_1
                    exact (show (0 ≤ (0 : Int32).toInt ∧ (0 : Int32).toInt ≤ 1) ∧ IvX6 z53.2.1 ∧ Kp [2, 4] [0] [] o_me z53.2.1 ∧ IvX0 12 400 z53.2.2 ∧ Kp [7] [1] [] o_me_code z53.2.2 ∧ ((gI z53.2.1 8).toInt ≤ (gI z53.2.1 2).toInt + 0) from ⟨⟨by decide, by decide⟩, hz53_1, hkpz53_me, hz53_3, hkpz53_me_code, (by omega)⟩)
                  · have c56z := c56
                    have c56 := cv_ne (a := z53.1.toInt) (b := 0) rfl (by decide) c56
                    refine wp_bd (s_X0_add  12 400 z53.2.2 w50 (0 : Int32)  hz53_3  ) (fun z58 hz58 => ?_)
                    obtain ⟨hz58_0, hz58_1, hz58_2⟩ := hz58
                    have hkpz58_me_code : Kp [7] [1] [] o_me_code z58.2 := hkpz53_me_code.trans (hz58_2.mono (by decide) (by decide) (by decide))
                    refine wp_lt (fun x59 ex59 => ?_)
                    have tx59 : x59.toInt = v2_1.toInt + 1 := by rw [ex59]; exact i32_add rfl (by decide) (by omega) (by omega)
                    have t60 := igX6_8 hz53_1
                    exact ih1 v1_1 x59 z53.2.1 z58.2 hz53_1 hkpz53_me hz58_1 hkpz58_me_code ⟨by omega, by omega⟩ ⟨by omega, by omega⟩ ⟨by omega, by omega⟩ ⟨by omega, by omega⟩ (by omega) (by omega) (by omega) (by omega)
            · have c21z := c21
              have c21 := cv_ne (a := z20.toInt) (b := 0) rfl (by decide) c21
              unfold bk_X6_readTerm_46
              refine wp_bd (s_X6_isSign   o_me_1 (42 : Int32)  hI_me_1  ) (fun z61 hz61 => ?_)
              have hz61_0 := hz61
              refine wp_if (fun c62 => ?_) (fun c62 => ?_)
              · have c62 := cv_eq (a := z61.toInt) (b := 0) rfl (by decide) c62
                refine wp_bd (s_X6_isSign   o_me_1 (47 : Int32)  hI_me_1  ) (fun z63 hz63 => ?_)
                have hz63_0 := hz63
                refine wp_if (fun c64 => ?_) (fun c64 => ?_)
                · have c64 := cv_eq (a := z63.toInt) (b := 0) rfl (by decide) c64
                  obtain ⟨w65, ew65⟩ : ∃ z : Int32, z = (9 : Int32) := ⟨_, rfl⟩
                  have tw65 : w65.toInt = 9 := by rw [ew65]; decide
                  rw [show bk_X6_readTerm_76 rS 12 400 (lp_X6_readTerm_12 rS 12 400  N1) v1_1 v2_1 (9 : Int32) o_me_1 o_me_code_1 = bk_X6_readTerm_76 rS 12 400 (lp_X6_readTerm_12 rS 12 400  N1) v1_1 v2_1 w65 o_me_1 o_me_code_1 from by rw [ew65]]
                  unfold bk_X6_readTerm_76
                  refine wp_bd (s_X6_step   o_me_1  hI_me_1  (by omega)) (fun z66 hz66 => ?_)
                  obtain ⟨hz66_0, hz66_1, hz66_2⟩ := hz66
                  have hkpz66_me : Kp [2, 4] [0] [] o_me z66 := hkp_me_1.trans (hz66_1.mono (by decide) (by decide) (by decide))
                  have kz66_k67 : (gI z66 2).toInt = (gI o_me_1 2).toInt := congrArg Int32.toInt (hz66_1.1 2 (by decide))
                  have t69 := igX6_8 hz66_0
                  refine wp_bd (s_X6_readPart rS  z66 o_me_code_1 v1_1 (fun o c p h1 h2 h3 h4 h5 => hrS o c p h1 h2 (by omega) h4 h5) hz66_0 hI_me_code_1  ⟨by omega, by omega⟩ (by omega)) (fun z68 hz68 => ?_)
                  obtain ⟨hz68_0, hz68_1, hz68_2, hz68_3, hz68_4, hz68_5⟩ := hz68
                  have hkpz68_me : Kp [2, 4] [0] [] o_me z68.2.1 := hkpz66_me.trans (hz68_2.mono (by decide) (by decide) (by decide))
                  have kz68_k70 : (gI z68.2.1 2).toInt = (gI z66 2).toInt := congrArg Int32.toInt (hz68_2.1 2 (by decide))
                  have hkpz68_me_code : Kp [7] [1] [] o_me_code z68.2.2 := hkp_me_code_1.trans (hz68_4.mono (by decide) (by decide) (by decide))
                  refine wp_if (fun c71 => ?_) (fun c71 => ?_)
                  · have c71 := cv_eq (a := z68.1.toInt) (b := 0) rfl (by decide) c71
                    refine wp_some ?_
                    have t72 := igX6_8 hz68_1
                    exact (show (0 ≤ (0 : Int32).toInt ∧ (0 : Int32).toInt ≤ 1) ∧ IvX6 z68.2.1 ∧ Kp [2, 4] [0] [] o_me z68.2.1 ∧ IvX0 12 400 z68.2.2 ∧ Kp [7] [1] [] o_me_code z68.2.2 ∧ ((gI z68.2.1 8).toInt ≤ (gI z68.2.1 2).toInt + 0) from ⟨⟨by decide, by decide⟩, hz68_1, hkpz68_me, hz68_3, hkpz68_me_code, (by omega)⟩)
                  · have c71z := c71
                    have c71 := cv_ne (a := z68.1.toInt) (b := 0) rfl (by decide) c71
                    refine wp_bd (s_X0_add  12 400 z68.2.2 w65 (0 : Int32)  hz68_3  ) (fun z73 hz73 => ?_)
                    obtain ⟨hz73_0, hz73_1, hz73_2⟩ := hz73
                    have hkpz73_me_code : Kp [7] [1] [] o_me_code z73.2 := hkpz68_me_code.trans (hz73_2.mono (by decide) (by decide) (by decide))
                    refine wp_lt (fun x74 ex74 => ?_)
                    have tx74 : x74.toInt = v2_1.toInt + 1 := by rw [ex74]; exact i32_add rfl (by decide) (by omega) (by omega)
                    have t75 := igX6_8 hz68_1
                    exact ih1 v1_1 x74 z68.2.1 z73.2 hz68_1 hkpz68_me hz73_1 hkpz73_me_code ⟨by omega, by omega⟩ ⟨by omega, by omega⟩ ⟨by omega, by omega⟩ ⟨by omega, by omega⟩ (by omega) (by omega) (by omega) (by omega)
                · have c64z := c64
                  have c64 := cv_ne (a := z63.toInt) (b := 0) rfl (by decide) c64
                  obtain ⟨w76, ew76⟩ : ∃ z : Int32, z = (8 : Int32) := ⟨_, rfl⟩
                  have tw76 : w76.toInt = 8 := by rw [ew76]; decide
                  rw [show bk_X6_readTerm_76 rS 12 400 (lp_X6_readTerm_12 rS 12 400  N1) v1_1 v2_1 (8 : Int32) o_me_1 o_me_code_1 = bk_X6_readTerm_76 rS 12 400 (lp_X6_readTerm_12 rS 12 400  N1) v1_1 v2_1 w76 o_me_1 o_me_code_1 from by rw [ew76]]
                  unfold bk_X6_readTerm_76
                  refine wp_bd (s_X6_step   o_me_1  hI_me_1  (by omega)) (fun z77 hz77 => ?_)
                  obtain ⟨hz77_0, hz77_1, hz77_2⟩ := hz77
                  have hkpz77_me : Kp [2, 4] [0] [] o_me z77 := hkp_me_1.trans (hz77_1.mono (by decide) (by decide) (by decide))
                  have kz77_k78 : (gI z77 2).toInt = (gI o_me_1 2).toInt := congrArg Int32.toInt (hz77_1.1 2 (by decide))
                  have t80 := igX6_8 hz77_0
                  refine wp_bd (s_X6_readPart rS  z77 o_me_code_1 v1_1 (fun o c p h1 h2 h3 h4 h5 => hrS o c p h1 h2 (by omega) h4 h5) hz77_0 hI_me_code_1  ⟨by omega, by omega⟩ (by omega)) (fun z79 hz79 => ?_)
                  obtain ⟨hz79_0, hz79_1, hz79_2, hz79_3, hz79_4, hz79_5⟩ := hz79
                  have hkpz79_me : Kp [2, 4] [0] [] o_me z79.2.1 := hkpz77_me.trans (hz79_2.mono (by decide) (by decide) (by decide))
                  have kz79_k81 : (gI z79.2.1 2).toInt = (gI z77 2).toInt := congrArg Int32.toInt (hz79_2.1 2 (by decide))
                  have hkpz79_me_code : Kp [7] [1] [] o_me_code z79.2.2 := hkp_me_code_1.trans (hz79_4.mono (by decide) (by decide) (by decide))
                  refine wp_if (fun c82 => ?_) (fun c82 => ?_)
                  · have c82 := cv_eq (a := z79.1.toInt) (b := 0) rfl (by decide) c82
                    refine wp_some ?_
                    have t83 := igX6_8 hz79_1
                    exact (show (0 ≤ (0 : Int32).toInt ∧ (0 : Int32).toInt ≤ 1) ∧ IvX6 z79.2.1 ∧ Kp [2, 4] [0] [] o_me z79.2.1 ∧ IvX0 12 400 z79.2.2 ∧ Kp [7] [1] [] o_me_code z79.2.2 ∧ ((gI z79.2.1 8).toInt ≤ (gI z79.2.1 2).toInt + 0) from ⟨⟨by decide, by decide⟩, hz79_1, hkpz79_me, hz79_3, hkpz79_me_code, (by omega)⟩)
                  · have c82z := c82
                    have c82 := cv_ne (a := z79.1.toInt) (b := 0) rfl (by decide) c82
                    refine wp_bd (s_X0_add  12 400 z79.2.2 w76 (0 : Int32)  hz79_3  ) (fun z84 hz84 => ?_)
                    obtain ⟨hz84_0, hz84_1, hz84_2⟩ := hz84
                    have hkpz84_me_code : Kp [7] [1] [] o_me_code z84.2 := hkpz79_me_code.trans (hz84_2.mono (by decide) (by decide) (by decide))
                    refine wp_lt (fun x85 ex85 => ?_)
                    have tx85 : x85.toInt = v2_1.toInt + 1 := by rw [ex85]; exact i32_add rfl (by decide) (by omega) (by omega)
                    have t86 := igX6_8 hz79_1
                    exact ih1 v1_1 x85 z79.2.1 z84.2 hz79_1 hkpz79_me hz84_1 hkpz84_me_code ⟨by omega, by omega⟩ ⟨by omega, by omega⟩ ⟨by omega, by omega⟩ ⟨by omega, by omega⟩ (by omega) (by omega) (by omega) (by omega)
              · have c62z := c62
                have c62 := cv_ne (a := z61.toInt) (b := 0) rfl (by decide) c62
                obtain ⟨w87, ew87⟩ : ∃ z : Int32, z = (7 : Int32) := ⟨_, rfl⟩
                have tw87 : w87.toInt = 7 := by rw [ew87]; decide
                rw [show bk_X6_readTerm_76 rS 12 400 (lp_X6_readTerm_12 rS 12 400  N1) v1_1 v2_1 (7 : Int32) o_me_1 o_me_code_1 = bk_X6_readTerm_76 rS 12 400 (lp_X6_readTerm_12 rS 12 400  N1) v1_1 v2_1 w87 o_me_1 o_me_code_1 from by rw [ew87]]
                unfold bk_X6_readTerm_76
                refine wp_bd (s_X6_step   o_me_1  hI_me_1  (by omega)) (fun z88 hz88 => ?_)
                obtain ⟨hz88_0, hz88_1, hz88_2⟩ := hz88
                have hkpz88_me : Kp [2, 4] [0] [] o_me z88 := hkp_me_1.trans (hz88_1.mono (by decide) (by decide) (by decide))
                have kz88_k89 : (gI z88 2).toInt = (gI o_me_1 2).toInt := congrArg Int32.toInt (hz88_1.1 2 (by decide))
                have t91 := igX6_8 hz88_0
                refine wp_bd (s_X6_readPart rS  z88 o_me_code_1 v1_1 (fun o c p h1 h2 h3 h4 h5 => hrS o c p h1 h2 (by omega) h4 h5) hz88_0 hI_me_code_1  ⟨by omega, by omega⟩ (by omega)) (fun z90 hz90 => ?_)
                obtain ⟨hz90_0, hz90_1, hz90_2, hz90_3, hz90_4, hz90_5⟩ := hz90
                have hkpz90_me : Kp [2, 4] [0] [] o_me z90.2.1 := hkpz88_me.trans (hz90_2.mono (by decide) (by decide) (by decide))
                have kz90_k92 : (gI z90.2.1 2).toInt = (gI z88 2).toInt := congrArg Int32.toInt (hz90_2.1 2 (by decide))
                have hkpz90_me_code : Kp [7] [1] [] o_me_code z90.2.2 := hkp_me_code_1.trans (hz90_4.mono (by decide) (by decide) (by decide))
                refine wp_if (fun c93 => ?_) (fun c93 => ?_)
                · have c93 := cv_eq (a := z90.1.toInt) (b := 0) rfl (by decide) c93
                  refine wp_some ?_
                  have t94 := igX6_8 hz90_1
                  exact (show (0 ≤ (0 : Int32).toInt ∧ (0 : Int32).toInt ≤ 1) ∧ IvX6 z90.2.1 ∧ Kp [2, 4] [0] [] o_me z90.2.1 ∧ IvX0 12 400 z90.2.2 ∧ Kp [7] [1] [] o_me_code z90.2.2 ∧ ((gI z90.2.1 8).toInt ≤ (gI z90.2.1 2).toInt + 0) from ⟨⟨by decide, by decide⟩, hz90_1, hkpz90_me, hz90_3, hkpz90_me_code, (by omega)⟩)
                · have c93z := c93
                  have c93 := cv_ne (a := z90.1.toInt) (b := 0) rfl (by decide) c93
                  refine wp_bd (s_X0_add  12 400 z90.2.2 w87 (0 : Int32)  hz90_3  ) (fun z95 hz95 => ?_)
                  obtain ⟨hz95_0, hz95_1, hz95_2⟩ := hz95
                  have hkpz95_me_code : Kp [7] [1] [] o_me_code z95.2 := hkpz90_me_code.trans (hz95_2.mono (by decide) (by decide) (by decide))
                  refine wp_lt (fun x96 ex96 => ?_)
                  have tx96 : x96.toInt = v2_1.toInt + 1 := by rw [ex96]; exact i32_add rfl (by decide) (by omega) (by omega)
                  have t97 := igX6_8 hz90_1
                  exact ih1 v1_1 x96 z90.2.1 z95.2 hz90_1 hkpz90_me hz95_1 hkpz95_me_code ⟨by omega, by omega⟩ ⟨by omega, by omega⟩ ⟨by omega, by omega⟩ ⟨by omega, by omega⟩ (by omega) (by omega) (by omega) (by omega)
          · have c19z := c19
            have c19 := cv_ne (a := z18.toInt) (b := 0) rfl (by decide) c19
            unfold bk_X6_readTerm_46
            refine wp_bd (s_X6_isSign   o_me_1 (42 : Int32)  hI_me_1  ) (fun z98 hz98 => ?_)
            have hz98_0 := hz98
            refine wp_if (fun c99 => ?_) (fun c99 => ?_)
            · have c99 := cv_eq (a := z98.toInt) (b := 0) rfl (by decide) c99
              refine wp_bd (s_X6_isSign   o_me_1 (47 : Int32)  hI_me_1  ) (fun z100 hz100 => ?_)
              have hz100_0 := hz100
              refine wp_if (fun c101 => ?_) (fun c101 => ?_)
              · have c101 := cv_eq (a := z100.toInt) (b := 0) rfl (by decide) c101
                obtain ⟨w102, ew102⟩ : ∃ z : Int32, z = (9 : Int32) := ⟨_, rfl⟩
                have tw102 : w102.toInt = 9 := by rw [ew102]; decide
                rw [show bk_X6_readTerm_76 rS 12 400 (lp_X6_readTerm_12 rS 12 400  N1) v1_1 v2_1 (9 : Int32) o_me_1 o_me_code_1 = bk_X6_readTerm_76 rS 12 400 (lp_X6_readTerm_12 rS 12 400  N1) v1_1 v2_1 w102 o_me_1 o_me_code_1 from by rw [ew102]]
                unfold bk_X6_readTerm_76
                refine wp_bd (s_X6_step   o_me_1  hI_me_1  (by omega)) (fun z103 hz103 => ?_)
                obtain ⟨hz103_0, hz103_1, hz103_2⟩ := hz103
                have hkpz103_me : Kp [2, 4] [0] [] o_me z103 := hkp_me_1.trans (hz103_1.mono (by decide) (by decide) (by decide))
                have kz103_k104 : (gI z103 2).toInt = (gI o_me_1 2).toInt := congrArg Int32.toInt (hz103_1.1 2 (by decide))
                have t106 := igX6_8 hz103_0
                refine wp_bd (s_X6_readPart rS  z103 o_me_code_1 v1_1 (fun o c p h1 h2 h3 h4 h5 => hrS o c p h1 h2 (by omega) h4 h5) hz103_0 hI_me_code_1  ⟨by omega, by omega⟩ (by omega)) (fun z105 hz105 => ?_)
                obtain ⟨hz105_0, hz105_1, hz105_2, hz105_3, hz105_4, hz105_5⟩ := hz105
                have hkpz105_me : Kp [2, 4] [0] [] o_me z105.2.1 := hkpz103_me.trans (hz105_2.mono (by decide) (by decide) (by decide))
                have kz105_k107 : (gI z105.2.1 2).toInt = (gI z103 2).toInt := congrArg Int32.toInt (hz105_2.1 2 (by decide))
                have hkpz105_me_code : Kp [7] [1] [] o_me_code z105.2.2 := hkp_me_code_1.trans (hz105_4.mono (by decide) (by decide) (by decide))
                refine wp_if (fun c108 => ?_) (fun c108 => ?_)
                · have c108 := cv_eq (a := z105.1.toInt) (b := 0) rfl (by decide) c108
                  refine wp_some ?_
                  have t109 := igX6_8 hz105_1
                  exact (show (0 ≤ (0 : Int32).toInt ∧ (0 : Int32).toInt ≤ 1) ∧ IvX6 z105.2.1 ∧ Kp [2, 4] [0] [] o_me z105.2.1 ∧ IvX0 12 400 z105.2.2 ∧ Kp [7] [1] [] o_me_code z105.2.2 ∧ ((gI z105.2.1 8).toInt ≤ (gI z105.2.1 2).toInt + 0) from ⟨⟨by decide, by decide⟩, hz105_1, hkpz105_me, hz105_3, hkpz105_me_code, (by omega)⟩)
                · have c108z := c108
                  have c108 := cv_ne (a := z105.1.toInt) (b := 0) rfl (by decide) c108
                  refine wp_bd (s_X0_add  12 400 z105.2.2 w102 (0 : Int32)  hz105_3  ) (fun z110 hz110 => ?_)
                  obtain ⟨hz110_0, hz110_1, hz110_2⟩ := hz110
                  have hkpz110_me_code : Kp [7] [1] [] o_me_code z110.2 := hkpz105_me_code.trans (hz110_2.mono (by decide) (by decide) (by decide))
                  refine wp_lt (fun x111 ex111 => ?_)
                  have tx111 : x111.toInt = v2_1.toInt + 1 := by rw [ex111]; exact i32_add rfl (by decide) (by omega) (by omega)
                  have t112 := igX6_8 hz105_1
                  exact ih1 v1_1 x111 z105.2.1 z110.2 hz105_1 hkpz105_me hz110_1 hkpz110_me_code ⟨by omega, by omega⟩ ⟨by omega, by omega⟩ ⟨by omega, by omega⟩ ⟨by omega, by omega⟩ (by omega) (by omega) (by omega) (by omega)
              · have c101z := c101
                have c101 := cv_ne (a := z100.toInt) (b := 0) rfl (by decide) c101
                obtain ⟨w113, ew113⟩ : ∃ z : Int32, z = (8 : Int32) := ⟨_, rfl⟩
                have tw113 : w113.toInt = 8 := by rw [ew113]; decide
                rw [show bk_X6_readTerm_76 rS 12 400 (lp_X6_readTerm_12 rS 12 400  N1) v1_1 v2_1 (8 : Int32) o_me_1 o_me_code_1 = bk_X6_readTerm_76 rS 12 400 (lp_X6_readTerm_12 rS 12 400  N1) v1_1 v2_1 w113 o_me_1 o_me_code_1 from by rw [ew113]]
                unfold bk_X6_readTerm_76
                refine wp_bd (s_X6_step   o_me_1  hI_me_1  (by omega)) (fun z114 hz114 => ?_)
                obtain ⟨hz114_0, hz114_1, hz114_2⟩ := hz114
                have hkpz114_me : Kp [2, 4] [0] [] o_me z114 := hkp_me_1.trans (hz114_1.mono (by decide) (by decide) (by decide))
                have kz114_k115 : (gI z114 2).toInt = (gI o_me_1 2).toInt := congrArg Int32.toInt (hz114_1.1 2 (by decide))
                have t117 := igX6_8 hz114_0
                refine wp_bd (s_X6_readPart rS  z114 o_me_code_1 v1_1 (fun o c p h1 h2 h3 h4 h5 => hrS o c p h1 h2 (by omega) h4 h5) hz114_0 hI_me_code_1  ⟨by omega, by omega⟩ (by omega)) (fun z116 hz116 => ?_)
                obtain ⟨hz116_0, hz116_1, hz116_2, hz116_3, hz116_4, hz116_5⟩ := hz116
                have hkpz116_me : Kp [2, 4] [0] [] o_me z116.2.1 := hkpz114_me.trans (hz116_2.mono (by decide) (by decide) (by decide))
                have kz116_k118 : (gI z116.2.1 2).toInt = (gI z114 2).toInt := congrArg Int32.toInt (hz116_2.1 2 (by decide))
                have hkpz116_me_code : Kp [7] [1] [] o_me_code z116.2.2 := hkp_me_code_1.trans (hz116_4.mono (by decide) (by decide) (by decide))
                refine wp_if (fun c119 => ?_) (fun c119 => ?_)
                · have c119 := cv_eq (a := z116.1.toInt) (b := 0) rfl (by decide) c119
                  refine wp_some ?_
                  have t120 := igX6_8 hz116_1
                  exact (show (0 ≤ (0 : Int32).toInt ∧ (0 : Int32).toInt ≤ 1) ∧ IvX6 z116.2.1 ∧ Kp [2, 4] [0] [] o_me z116.2.1 ∧ IvX0 12 400 z116.2.2 ∧ Kp [7] [1] [] o_me_code z116.2.2 ∧ ((gI z116.2.1 8).toInt ≤ (gI z116.2.1 2).toInt + 0) from ⟨⟨by decide, by decide⟩, hz116_1, hkpz116_me, hz116_3, hkpz116_me_code, (by omega)⟩)
                · have c119z := c119
                  have c119 := cv_ne (a := z116.1.toInt) (b := 0) rfl (by decide) c119
                  refine wp_bd (s_X0_add  12 400 z116.2.2 w113 (0 : Int32)  hz116_3  ) (fun z121 hz121 => ?_)
                  obtain ⟨hz121_0, hz121_1, hz121_2⟩ := hz121
                  have hkpz121_me_code : Kp [7] [1] [] o_me_code z121.2 := hkpz116_me_code.trans (hz121_2.mono (by decide) (by decide) (by decide))
                  refine wp_lt (fun x122 ex122 => ?_)
                  have tx122 : x122.toInt = v2_1.toInt + 1 := by rw [ex122]; exact i32_add rfl (by decide) (by omega) (by omega)
                  have t123 := igX6_8 hz116_1
                  exact ih1 v1_1 x122 z116.2.1 z121.2 hz116_1 hkpz116_me hz121_1 hkpz121_me_code ⟨by omega, by omega⟩ ⟨by omega, by omega⟩ ⟨by omega, by omega⟩ ⟨by omega, by omega⟩ (by omega) (by omega) (by omega) (by omega)
            · have c99z := c99
              have c99 := cv_ne (a := z98.toInt) (b := 0) rfl (by decide) c99
              obtain ⟨w124, ew124⟩ : ∃ z : Int32, z = (7 : Int32) := ⟨_, rfl⟩
              have tw124 : w124.toInt = 7 := by rw [ew124]; decide
              rw [show bk_X6_readTerm_76 rS 12 400 (lp_X6_readTerm_12 rS 12 400  N1) v1_1 v2_1 (7 : Int32) o_me_1 o_me_code_1 = bk_X6_readTerm_76 rS 12 400 (lp_X6_readTerm_12 rS 12 400  N1) v1_1 v2_1 w124 o_me_1 o_me_code_1 from by rw [ew124]]
              unfold bk_X6_readTerm_76
              refine wp_bd (s_X6_step   o_me_1  hI_me_1  (by omega)) (fun z125 hz125 => ?_)
              obtain ⟨hz125_0, hz125_1, hz125_2⟩ := hz125
              have hkpz125_me : Kp [2, 4] [0] [] o_me z125 := hkp_me_1.trans (hz125_1.mono (by decide) (by decide) (by decide))
              have kz125_k126 : (gI z125 2).toInt = (gI o_me_1 2).toInt := congrArg Int32.toInt (hz125_1.1 2 (by decide))
              have t128 := igX6_8 hz125_0
              refine wp_bd (s_X6_readPart rS  z125 o_me_code_1 v1_1 (fun o c p h1 h2 h3 h4 h5 => hrS o c p h1 h2 (by omega) h4 h5) hz125_0 hI_me_code_1  ⟨by omega, by omega⟩ (by omega)) (fun z127 hz127 => ?_)
              obtain ⟨hz127_0, hz127_1, hz127_2, hz127_3, hz127_4, hz127_5⟩ := hz127
              have hkpz127_me : Kp [2, 4] [0] [] o_me z127.2.1 := hkpz125_me.trans (hz127_2.mono (by decide) (by decide) (by decide))
              have kz127_k129 : (gI z127.2.1 2).toInt = (gI z125 2).toInt := congrArg Int32.toInt (hz127_2.1 2 (by decide))
              have hkpz127_me_code : Kp [7] [1] [] o_me_code z127.2.2 := hkp_me_code_1.trans (hz127_4.mono (by decide) (by decide) (by decide))
              refine wp_if (fun c130 => ?_) (fun c130 => ?_)
              · have c130 := cv_eq (a := z127.1.toInt) (b := 0) rfl (by decide) c130
                refine wp_some ?_
                have t131 := igX6_8 hz127_1
                exact (show (0 ≤ (0 : Int32).toInt ∧ (0 : Int32).toInt ≤ 1) ∧ IvX6 z127.2.1 ∧ Kp [2, 4] [0] [] o_me z127.2.1 ∧ IvX0 12 400 z127.2.2 ∧ Kp [7] [1] [] o_me_code z127.2.2 ∧ ((gI z127.2.1 8).toInt ≤ (gI z127.2.1 2).toInt + 0) from ⟨⟨by decide, by decide⟩, hz127_1, hkpz127_me, hz127_3, hkpz127_me_code, (by omega)⟩)
              · have c130z := c130
                have c130 := cv_ne (a := z127.1.toInt) (b := 0) rfl (by decide) c130
                refine wp_bd (s_X0_add  12 400 z127.2.2 w124 (0 : Int32)  hz127_3  ) (fun z132 hz132 => ?_)
                obtain ⟨hz132_0, hz132_1, hz132_2⟩ := hz132
                have hkpz132_me_code : Kp [7] [1] [] o_me_code z132.2 := hkpz127_me_code.trans (hz132_2.mono (by decide) (by decide) (by decide))
                refine wp_lt (fun x133 ex133 => ?_)
                have tx133 : x133.toInt = v2_1.toInt + 1 := by rw [ex133]; exact i32_add rfl (by decide) (by omega) (by omega)
                have t134 := igX6_8 hz127_1
                exact ih1 v1_1 x133 z127.2.1 z132.2 hz127_1 hkpz127_me hz132_1 hkpz132_me_code ⟨by omega, by omega⟩ ⟨by omega, by omega⟩ ⟨by omega, by omega⟩ ⟨by omega, by omega⟩ (by omega) (by omega) (by omega) (by omega)
    exact lp1 zfu p0 (0 : Int32) z1.2.1 z1.2.2 hz1_1 hkpz1_me hz1_3 hkpz1_me_code ⟨by omega, by omega⟩ ⟨by decide, by decide⟩ ⟨by omega, by omega⟩ ⟨by omega, by omega⟩ (by omega) (by omega) (by omega) (by show _ < 100000; omega)

set_option maxHeartbeats 4000000 in
set_option maxRecDepth 100000 in
theorem s_X6_readSum (rS : Ob → Ob → Int32 → Option (Int32 × Ob × Ob)) (o_me : Ob) (o_me_code : Ob) (p0 : Int32) (hrS : ∀ (o9 c9 : Ob) (p9 : Int32), IvX6 o9 → IvX0 12 400 c9 → p0.toInt < p9.toInt → 0 ≤ p9.toInt ∧ p9.toInt ≤ 8 → (gI o9 8).toInt ≤ (gI o9 2).toInt + 0 → wp (rS o9 c9 p9) (fun (y : Int32 × Ob × Ob) => (0 ≤ y.1.toInt ∧ y.1.toInt ≤ 1) ∧ IvX6 y.2.1 ∧ Kp [2, 4] [0] [] o9 y.2.1 ∧ IvX0 12 400 y.2.2 ∧ Kp [7] [1] [] c9 y.2.2 ∧ ((gI y.2.1 8).toInt ≤ (gI y.2.1 2).toInt + 0))) (hI_me : IvX6 o_me) (hI_me_code : IvX0 12 400 o_me_code) (q0 : 0 ≤ p0.toInt ∧ p0.toInt ≤ 8) (r0 : (gI o_me 8).toInt ≤ (gI o_me 2).toInt + 0) : wp (f_X6_readSum rS 12 400 o_me o_me_code p0) (fun (y : Int32 × Ob × Ob) => (0 ≤ y.1.toInt ∧ y.1.toInt ≤ 1) ∧ IvX6 y.2.1 ∧ Kp [2, 4] [0] [] o_me y.2.1 ∧ IvX0 12 400 y.2.2 ∧ Kp [7] [1] [] o_me_code y.2.2 ∧ ((gI y.2.1 8).toInt ≤ (gI y.2.1 2).toInt + 0)) := by
  have li0 : (0 : Int32).toInt = 0 := by decide
  have li1 : (1 : Int32).toInt = 1 := by decide
  have li2 : (400 : Int32).toInt = 400 := by decide
  have li3 : (43 : Int32).toInt = 43 := by decide
  have li4 : (45 : Int32).toInt = 45 := by decide
  have li5 : (5 : Int32).toInt = 5 := by decide
  have li6 : (6 : Int32).toInt = 6 := by decide
  unfold f_X6_readSum
  have t2 := igX6_8 hI_me
  have t3 := igX6_2 hI_me
  refine wp_bd (s_X6_readTerm rS  o_me o_me_code p0 (fun o c p h1 h2 h3 h4 h5 => hrS o c p h1 h2 (by omega) h4 h5) hI_me hI_me_code  ⟨by omega, by omega⟩ (by omega)) (fun z1 hz1 => ?_)
  obtain ⟨hz1_0, hz1_1, hz1_2, hz1_3, hz1_4, hz1_5⟩ := hz1
  have hkpz1_me : Kp [2, 4] [0] [] o_me z1.2.1 := Kp.rf.trans (hz1_2.mono (by decide) (by decide) (by decide))
  have kz1_k4 : (gI z1.2.1 2).toInt = (gI o_me 2).toInt := congrArg Int32.toInt (hz1_2.1 2 (by decide))
  have hkpz1_me_code : Kp [7] [1] [] o_me_code z1.2.2 := Kp.rf.trans (hz1_4.mono (by decide) (by decide) (by decide))
  refine wp_if (fun c5 => ?_) (fun c5 => ?_)
  · have c5 := cv_eq (a := z1.1.toInt) (b := 0) rfl (by decide) c5
    refine wp_some ?_
    have t6 := igX6_8 hz1_1
    exact (show (0 ≤ (0 : Int32).toInt ∧ (0 : Int32).toInt ≤ 1) ∧ IvX6 z1.2.1 ∧ Kp [2, 4] [0] [] o_me z1.2.1 ∧ IvX0 12 400 z1.2.2 ∧ Kp [7] [1] [] o_me_code z1.2.2 ∧ ((gI z1.2.1 8).toInt ≤ (gI z1.2.1 2).toInt + 0) from ⟨⟨by decide, by decide⟩, hz1_1, hkpz1_me, hz1_3, hkpz1_me_code, (by omega)⟩)
  · have c5z := c5
    have c5 := cv_ne (a := z1.1.toInt) (b := 0) rfl (by decide) c5
    have t7 := igX6_8 hz1_1
    have lp1 : ∀ (N1 : Nat) (v1_1 : Int32) (v2_1 : Int32) (o_me_1 : Ob) (o_me_code_1 : Ob), IvX6 o_me_1 → Kp [2, 4] [0] [] o_me o_me_1 → IvX0 12 400 o_me_code_1 → Kp [7] [1] [] o_me_code o_me_code_1 → (0 ≤ v1_1.toInt ∧ v1_1.toInt ≤ 8) → (0 ≤ v2_1.toInt ∧ v2_1.toInt ≤ 400) → (0 ≤ (gI o_me_1 2).toInt ∧ (gI o_me_1 2).toInt ≤ 400) → (0 ≤ (gI o_me_1 8).toInt ∧ (gI o_me_1 8).toInt ≤ 400) → ((gI o_me_1 8).toInt ≤ (gI o_me_1 2).toInt + 0) → (v1_1.toInt ≤ p0.toInt + 0) → (p0.toInt ≤ v1_1.toInt + 0) → (400 - v2_1.toInt).toNat < N1 → wp (lp_X6_readSum_12 rS 12 400  N1 (v1_1, v2_1, o_me_1, o_me_code_1)) (fun (y : Int32 × Ob × Ob) => (0 ≤ y.1.toInt ∧ y.1.toInt ≤ 1) ∧ IvX6 y.2.1 ∧ Kp [2, 4] [0] [] o_me y.2.1 ∧ IvX0 12 400 y.2.2 ∧ Kp [7] [1] [] o_me_code y.2.2 ∧ ((gI y.2.1 8).toInt ≤ (gI y.2.1 2).toInt + 0)) := by
      intro N1
      induction N1 with
      | zero =>
        intro v1_1 v2_1 o_me_1 o_me_code_1 hI_me_1 hkp_me_1 hI_me_code_1 hkp_me_code_1 hh10 hh11 hh12 hh13 hh14 hh15 hh16 hN1
        exact absurd hN1 (Nat.not_lt_zero _)
      | succ N1 ihx =>
        have ih1 := ihx
        intro v1_1 v2_1 o_me_1 o_me_code_1 hI_me_1 hkp_me_1 hI_me_code_1 hkp_me_code_1 hh10 hh11 hh12 hh13 hh14 hh15 hh16 hN1
        show wp (lb_X6_readSum_12 rS 12 400  (lp_X6_readSum_12 rS 12 400  N1) v1_1 v2_1 o_me_1 o_me_code_1) (fun (y : Int32 × Ob × Ob) => (0 ≤ y.1.toInt ∧ y.1.toInt ≤ 1) ∧ IvX6 y.2.1 ∧ Kp [2, 4] [0] [] o_me y.2.1 ∧ IvX0 12 400 y.2.2 ∧ Kp [7] [1] [] o_me_code y.2.2 ∧ ((gI y.2.1 8).toInt ≤ (gI y.2.1 2).toInt + 0))
        unfold lb_X6_readSum_12
        refine wp_if (fun c17 => ?_) (fun c17 => ?_)
        · have c17 := cv_ge (a := v2_1.toInt) (b := 400) rfl (by decide) c17
          refine wp_some ?_
          exact (show (0 ≤ (1 : Int32).toInt ∧ (1 : Int32).toInt ≤ 1) ∧ IvX6 o_me_1 ∧ Kp [2, 4] [0] [] o_me o_me_1 ∧ IvX0 12 400 o_me_code_1 ∧ Kp [7] [1] [] o_me_code o_me_code_1 ∧ ((gI o_me_1 8).toInt ≤ (gI o_me_1 2).toInt + 0) from ⟨⟨by decide, by decide⟩, hI_me_1, hkp_me_1, hI_me_code_1, hkp_me_code_1, (by omega)⟩)
        · have c17 := cv_nge (a := v2_1.toInt) (b := 400) rfl (by decide) c17
          refine wp_bd (s_X6_isSign   o_me_1 (43 : Int32)  hI_me_1  ) (fun z18 hz18 => ?_)
          have hz18_0 := hz18
          refine wp_if (fun c19 => ?_) (fun c19 => ?_)
          · have c19 := cv_eq (a := z18.toInt) (b := 0) rfl (by decide) c19
            refine wp_bd (s_X6_isSign   o_me_1 (45 : Int32)  hI_me_1  ) (fun z20 hz20 => ?_)
            have hz20_0 := hz20
            refine wp_if (fun c21 => ?_) (fun c21 => ?_)
            · have c21 := cv_eq (a := z20.toInt) (b := 0) rfl (by decide) c21
              refine wp_some ?_
              exact (show (0 ≤ (1 : Int32).toInt ∧ (1 : Int32).toInt ≤ 1) ∧ IvX6 o_me_1 ∧ Kp [2, 4] [0] [] o_me o_me_1 ∧ IvX0 12 400 o_me_code_1 ∧ Kp [7] [1] [] o_me_code o_me_code_1 ∧ ((gI o_me_1 8).toInt ≤ (gI o_me_1 2).toInt + 0) from ⟨⟨by decide, by decide⟩, hI_me_1, hkp_me_1, hI_me_code_1, hkp_me_code_1, (by omega)⟩)
            · have c21z := c21
              have c21 := cv_ne (a := z20.toInt) (b := 0) rfl (by decide) c21
              unfold bk_X6_readSum_37
              refine wp_bd (s_X6_isSign   o_me_1 (43 : Int32)  hI_me_1  ) (fun z22 hz22 => ?_)
              have hz22_0 := hz22
              refine wp_if (fun c23 => ?_) (fun c23 => ?_)
              · have c23 := cv_eq (a := z22.toInt) (b := 0) rfl (by decide) c23
                obtain ⟨w24, ew24⟩ : ∃ z : Int32, z = (6 : Int32) := ⟨_, rfl⟩
                have tw24 : w24.toInt = 6 := by rw [ew24]; decide
                rw [show bk_X6_readSum_52 rS 12 400 (lp_X6_readSum_12 rS 12 400  N1) v1_1 v2_1 (6 : Int32) o_me_1 o_me_code_1 = bk_X6_readSum_52 rS 12 400 (lp_X6_readSum_12 rS 12 400  N1) v1_1 v2_1 w24 o_me_1 o_me_code_1 from by rw [ew24]]
                unfold bk_X6_readSum_52
                refine wp_bd (s_X6_step   o_me_1  hI_me_1  (by omega)) (fun z25 hz25 => ?_)
                obtain ⟨hz25_0, hz25_1, hz25_2⟩ := hz25
                have hkpz25_me : Kp [2, 4] [0] [] o_me z25 := hkp_me_1.trans (hz25_1.mono (by decide) (by decide) (by decide))
                have kz25_k26 : (gI z25 2).toInt = (gI o_me_1 2).toInt := congrArg Int32.toInt (hz25_1.1 2 (by decide))
                have t28 := igX6_8 hz25_0
                refine wp_bd (s_X6_readTerm rS  z25 o_me_code_1 v1_1 (fun o c p h1 h2 h3 h4 h5 => hrS o c p h1 h2 (by omega) h4 h5) hz25_0 hI_me_code_1  ⟨by omega, by omega⟩ (by omega)) (fun z27 hz27 => ?_)
                obtain ⟨hz27_0, hz27_1, hz27_2, hz27_3, hz27_4, hz27_5⟩ := hz27
                have hkpz27_me : Kp [2, 4] [0] [] o_me z27.2.1 := hkpz25_me.trans (hz27_2.mono (by decide) (by decide) (by decide))
                have kz27_k29 : (gI z27.2.1 2).toInt = (gI z25 2).toInt := congrArg Int32.toInt (hz27_2.1 2 (by decide))
                have hkpz27_me_code : Kp [7] [1] [] o_me_code z27.2.2 := hkp_me_code_1.trans (hz27_4.mono (by decide) (by decide) (by decide))
                refine wp_if (fun c30 => ?_) (fun c30 => ?_)
                · have c30 := cv_eq (a := z27.1.toInt) (b := 0) rfl (by decide) c30
                  refine wp_some ?_
                  have t31 := igX6_8 hz27_1
                  exact (show (0 ≤ (0 : Int32).toInt ∧ (0 : Int32).toInt ≤ 1) ∧ IvX6 z27.2.1 ∧ Kp [2, 4] [0] [] o_me z27.2.1 ∧ IvX0 12 400 z27.2.2 ∧ Kp [7] [1] [] o_me_code z27.2.2 ∧ ((gI z27.2.1 8).toInt ≤ (gI z27.2.1 2).toInt + 0) from ⟨⟨by decide, by decide⟩, hz27_1, hkpz27_me, hz27_3, hkpz27_me_code, (by omega)⟩)
                · have c30z := c30
                  have c30 := cv_ne (a := z27.1.toInt) (b := 0) rfl (by decide) c30
                  refine wp_bd (s_X0_add  12 400 z27.2.2 w24 (0 : Int32)  hz27_3  ) (fun z32 hz32 => ?_)
                  obtain ⟨hz32_0, hz32_1, hz32_2⟩ := hz32
                  have hkpz32_me_code : Kp [7] [1] [] o_me_code z32.2 := hkpz27_me_code.trans (hz32_2.mono (by decide) (by decide) (by decide))
                  refine wp_lt (fun x33 ex33 => ?_)
                  have tx33 : x33.toInt = v2_1.toInt + 1 := by rw [ex33]; exact i32_add rfl (by decide) (by omega) (by omega)
                  have t34 := igX6_8 hz27_1
                  exact ih1 v1_1 x33 z27.2.1 z32.2 hz27_1 hkpz27_me hz32_1 hkpz32_me_code ⟨by omega, by omega⟩ ⟨by omega, by omega⟩ ⟨by omega, by omega⟩ ⟨by omega, by omega⟩ (by omega) (by omega) (by omega) (by omega)
              · have c23z := c23
                have c23 := cv_ne (a := z22.toInt) (b := 0) rfl (by decide) c23
                obtain ⟨w35, ew35⟩ : ∃ z : Int32, z = (5 : Int32) := ⟨_, rfl⟩
                have tw35 : w35.toInt = 5 := by rw [ew35]; decide
                rw [show bk_X6_readSum_52 rS 12 400 (lp_X6_readSum_12 rS 12 400  N1) v1_1 v2_1 (5 : Int32) o_me_1 o_me_code_1 = bk_X6_readSum_52 rS 12 400 (lp_X6_readSum_12 rS 12 400  N1) v1_1 v2_1 w35 o_me_1 o_me_code_1 from by rw [ew35]]
                unfold bk_X6_readSum_52
                refine wp_bd (s_X6_step   o_me_1  hI_me_1  (by omega)) (fun z36 hz36 => ?_)
                obtain ⟨hz36_0, hz36_1, hz36_2⟩ := hz36
                have hkpz36_me : Kp [2, 4] [0] [] o_me z36 := hkp_me_1.trans (hz36_1.mono (by decide) (by decide) (by decide))
                have kz36_k37 : (gI z36 2).toInt = (gI o_me_1 2).toInt := congrArg Int32.toInt (hz36_1.1 2 (by decide))
                have t39 := igX6_8 hz36_0
                refine wp_bd (s_X6_readTerm rS  z36 o_me_code_1 v1_1 (fun o c p h1 h2 h3 h4 h5 => hrS o c p h1 h2 (by omega) h4 h5) hz36_0 hI_me_code_1  ⟨by omega, by omega⟩ (by omega)) (fun z38 hz38 => ?_)
                obtain ⟨hz38_0, hz38_1, hz38_2, hz38_3, hz38_4, hz38_5⟩ := hz38
                have hkpz38_me : Kp [2, 4] [0] [] o_me z38.2.1 := hkpz36_me.trans (hz38_2.mono (by decide) (by decide) (by decide))
                have kz38_k40 : (gI z38.2.1 2).toInt = (gI z36 2).toInt := congrArg Int32.toInt (hz38_2.1 2 (by decide))
                have hkpz38_me_code : Kp [7] [1] [] o_me_code z38.2.2 := hkp_me_code_1.trans (hz38_4.mono (by decide) (by decide) (by decide))
                refine wp_if (fun c41 => ?_) (fun c41 => ?_)
                · have c41 := cv_eq (a := z38.1.toInt) (b := 0) rfl (by decide) c41
                  refine wp_some ?_
                  have t42 := igX6_8 hz38_1
                  exact (show (0 ≤ (0 : Int32).toInt ∧ (0 : Int32).toInt ≤ 1) ∧ IvX6 z38.2.1 ∧ Kp [2, 4] [0] [] o_me z38.2.1 ∧ IvX0 12 400 z38.2.2 ∧ Kp [7] [1] [] o_me_code z38.2.2 ∧ ((gI z38.2.1 8).toInt ≤ (gI z38.2.1 2).toInt + 0) from ⟨⟨by decide, by decide⟩, hz38_1, hkpz38_me, hz38_3, hkpz38_me_code, (by omega)⟩)
                · have c41z := c41
                  have c41 := cv_ne (a := z38.1.toInt) (b := 0) rfl (by decide) c41
                  refine wp_bd (s_X0_add  12 400 z38.2.2 w35 (0 : Int32)  hz38_3  ) (fun z43 hz43 => ?_)
                  obtain ⟨hz43_0, hz43_1, hz43_2⟩ := hz43
                  have hkpz43_me_code : Kp [7] [1] [] o_me_code z43.2 := hkpz38_me_code.trans (hz43_2.mono (by decide) (by decide) (by decide))
                  refine wp_lt (fun x44 ex44 => ?_)
                  have tx44 : x44.toInt = v2_1.toInt + 1 := by rw [ex44]; exact i32_add rfl (by decide) (by omega) (by omega)
                  have t45 := igX6_8 hz38_1
                  exact ih1 v1_1 x44 z38.2.1 z43.2 hz38_1 hkpz38_me hz43_1 hkpz43_me_code ⟨by omega, by omega⟩ ⟨by omega, by omega⟩ ⟨by omega, by omega⟩ ⟨by omega, by omega⟩ (by omega) (by omega) (by omega) (by omega)
          · have c19z := c19
            have c19 := cv_ne (a := z18.toInt) (b := 0) rfl (by decide) c19
            unfold bk_X6_readSum_37
            refine wp_bd (s_X6_isSign   o_me_1 (43 : Int32)  hI_me_1  ) (fun z46 hz46 => ?_)
            have hz46_0 := hz46
            refine wp_if (fun c47 => ?_) (fun c47 => ?_)
            · have c47 := cv_eq (a := z46.toInt) (b := 0) rfl (by decide) c47
              obtain ⟨w48, ew48⟩ : ∃ z : Int32, z = (6 : Int32) := ⟨_, rfl⟩
              have tw48 : w48.toInt = 6 := by rw [ew48]; decide
              rw [show bk_X6_readSum_52 rS 12 400 (lp_X6_readSum_12 rS 12 400  N1) v1_1 v2_1 (6 : Int32) o_me_1 o_me_code_1 = bk_X6_readSum_52 rS 12 400 (lp_X6_readSum_12 rS 12 400  N1) v1_1 v2_1 w48 o_me_1 o_me_code_1 from by rw [ew48]]
              unfold bk_X6_readSum_52
              refine wp_bd (s_X6_step   o_me_1  hI_me_1  (by omega)) (fun z49 hz49 => ?_)
              obtain ⟨hz49_0, hz49_1, hz49_2⟩ := hz49
              have hkpz49_me : Kp [2, 4] [0] [] o_me z49 := hkp_me_1.trans (hz49_1.mono (by decide) (by decide) (by decide))
              have kz49_k50 : (gI z49 2).toInt = (gI o_me_1 2).toInt := congrArg Int32.toInt (hz49_1.1 2 (by decide))
              have t52 := igX6_8 hz49_0
              refine wp_bd (s_X6_readTerm rS  z49 o_me_code_1 v1_1 (fun o c p h1 h2 h3 h4 h5 => hrS o c p h1 h2 (by omega) h4 h5) hz49_0 hI_me_code_1  ⟨by omega, by omega⟩ (by omega)) (fun z51 hz51 => ?_)
              obtain ⟨hz51_0, hz51_1, hz51_2, hz51_3, hz51_4, hz51_5⟩ := hz51
              have hkpz51_me : Kp [2, 4] [0] [] o_me z51.2.1 := hkpz49_me.trans (hz51_2.mono (by decide) (by decide) (by decide))
              have kz51_k53 : (gI z51.2.1 2).toInt = (gI z49 2).toInt := congrArg Int32.toInt (hz51_2.1 2 (by decide))
              have hkpz51_me_code : Kp [7] [1] [] o_me_code z51.2.2 := hkp_me_code_1.trans (hz51_4.mono (by decide) (by decide) (by decide))
              refine wp_if (fun c54 => ?_) (fun c54 => ?_)
              · have c54 := cv_eq (a := z51.1.toInt) (b := 0) rfl (by decide) c54
                refine wp_some ?_
                have t55 := igX6_8 hz51_1
                exact (show (0 ≤ (0 : Int32).toInt ∧ (0 : Int32).toInt ≤ 1) ∧ IvX6 z51.2.1 ∧ Kp [2, 4] [0] [] o_me z51.2.1 ∧ IvX0 12 400 z51.2.2 ∧ Kp [7] [1] [] o_me_code z51.2.2 ∧ ((gI z51.2.1 8).toInt ≤ (gI z51.2.1 2).toInt + 0) from ⟨⟨by decide, by decide⟩, hz51_1, hkpz51_me, hz51_3, hkpz51_me_code, (by omega)⟩)
              · have c54z := c54
                have c54 := cv_ne (a := z51.1.toInt) (b := 0) rfl (by decide) c54
                refine wp_bd (s_X0_add  12 400 z51.2.2 w48 (0 : Int32)  hz51_3  ) (fun z56 hz56 => ?_)
                obtain ⟨hz56_0, hz56_1, hz56_2⟩ := hz56
                have hkpz56_me_code : Kp [7] [1] [] o_me_code z56.2 := hkpz51_me_code.trans (hz56_2.mono (by decide) (by decide) (by decide))
                refine wp_lt (fun x57 ex57 => ?_)
                have tx57 : x57.toInt = v2_1.toInt + 1 := by rw [ex57]; exact i32_add rfl (by decide) (by omega) (by omega)
                have t58 := igX6_8 hz51_1
                exact ih1 v1_1 x57 z51.2.1 z56.2 hz51_1 hkpz51_me hz56_1 hkpz56_me_code ⟨by omega, by omega⟩ ⟨by omega, by omega⟩ ⟨by omega, by omega⟩ ⟨by omega, by omega⟩ (by omega) (by omega) (by omega) (by omega)
            · have c47z := c47
              have c47 := cv_ne (a := z46.toInt) (b := 0) rfl (by decide) c47
              obtain ⟨w59, ew59⟩ : ∃ z : Int32, z = (5 : Int32) := ⟨_, rfl⟩
              have tw59 : w59.toInt = 5 := by rw [ew59]; decide
              rw [show bk_X6_readSum_52 rS 12 400 (lp_X6_readSum_12 rS 12 400  N1) v1_1 v2_1 (5 : Int32) o_me_1 o_me_code_1 = bk_X6_readSum_52 rS 12 400 (lp_X6_readSum_12 rS 12 400  N1) v1_1 v2_1 w59 o_me_1 o_me_code_1 from by rw [ew59]]
              unfold bk_X6_readSum_52
              refine wp_bd (s_X6_step   o_me_1  hI_me_1  (by omega)) (fun z60 hz60 => ?_)
              obtain ⟨hz60_0, hz60_1, hz60_2⟩ := hz60
              have hkpz60_me : Kp [2, 4] [0] [] o_me z60 := hkp_me_1.trans (hz60_1.mono (by decide) (by decide) (by decide))
              have kz60_k61 : (gI z60 2).toInt = (gI o_me_1 2).toInt := congrArg Int32.toInt (hz60_1.1 2 (by decide))
              have t63 := igX6_8 hz60_0
              refine wp_bd (s_X6_readTerm rS  z60 o_me_code_1 v1_1 (fun o c p h1 h2 h3 h4 h5 => hrS o c p h1 h2 (by omega) h4 h5) hz60_0 hI_me_code_1  ⟨by omega, by omega⟩ (by omega)) (fun z62 hz62 => ?_)
              obtain ⟨hz62_0, hz62_1, hz62_2, hz62_3, hz62_4, hz62_5⟩ := hz62
              have hkpz62_me : Kp [2, 4] [0] [] o_me z62.2.1 := hkpz60_me.trans (hz62_2.mono (by decide) (by decide) (by decide))
              have kz62_k64 : (gI z62.2.1 2).toInt = (gI z60 2).toInt := congrArg Int32.toInt (hz62_2.1 2 (by decide))
              have hkpz62_me_code : Kp [7] [1] [] o_me_code z62.2.2 := hkp_me_code_1.trans (hz62_4.mono (by decide) (by decide) (by decide))
              refine wp_if (fun c65 => ?_) (fun c65 => ?_)
              · have c65 := cv_eq (a := z62.1.toInt) (b := 0) rfl (by decide) c65
                refine wp_some ?_
                have t66 := igX6_8 hz62_1
                exact (show (0 ≤ (0 : Int32).toInt ∧ (0 : Int32).toInt ≤ 1) ∧ IvX6 z62.2.1 ∧ Kp [2, 4] [0] [] o_me z62.2.1 ∧ IvX0 12 400 z62.2.2 ∧ Kp [7] [1] [] o_me_code z62.2.2 ∧ ((gI z62.2.1 8).toInt ≤ (gI z62.2.1 2).toInt + 0) from ⟨⟨by decide, by decide⟩, hz62_1, hkpz62_me, hz62_3, hkpz62_me_code, (by omega)⟩)
              · have c65z := c65
                have c65 := cv_ne (a := z62.1.toInt) (b := 0) rfl (by decide) c65
                refine wp_bd (s_X0_add  12 400 z62.2.2 w59 (0 : Int32)  hz62_3  ) (fun z67 hz67 => ?_)
                obtain ⟨hz67_0, hz67_1, hz67_2⟩ := hz67
                have hkpz67_me_code : Kp [7] [1] [] o_me_code z67.2 := hkpz62_me_code.trans (hz67_2.mono (by decide) (by decide) (by decide))
                refine wp_lt (fun x68 ex68 => ?_)
                have tx68 : x68.toInt = v2_1.toInt + 1 := by rw [ex68]; exact i32_add rfl (by decide) (by omega) (by omega)
                have t69 := igX6_8 hz62_1
                exact ih1 v1_1 x68 z62.2.1 z67.2 hz62_1 hkpz62_me hz67_1 hkpz67_me_code ⟨by omega, by omega⟩ ⟨by omega, by omega⟩ ⟨by omega, by omega⟩ ⟨by omega, by omega⟩ (by omega) (by omega) (by omega) (by omega)
    exact lp1 zfu p0 (0 : Int32) z1.2.1 z1.2.2 hz1_1 hkpz1_me hz1_3 hkpz1_me_code ⟨by omega, by omega⟩ ⟨by decide, by decide⟩ ⟨by omega, by omega⟩ ⟨by omega, by omega⟩ (by omega) (by omega) (by omega) (by show _ < 100000; omega)

